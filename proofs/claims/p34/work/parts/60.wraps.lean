/-! THE LAW'S WRAPPERS: what they answer where the class answers, and where it throws -/
def zNcs : List (String × String) := [("java/lang/IllegalArgumentException", "java/lang/IndexOutOfBoundsException"), ("java/lang/IllegalStateException", "java/lang/IndexOutOfBoundsException"), ("java/lang/IllegalStateException", "java/lang/IllegalArgumentException")]
def KN (U : State) : Prop := ∀ z ∈ zNcs, va_Nc z.1 z.2 U
theorem KN.go {s U : State} (h : KN s) (hW : s.WarmedH U.vm) : KN U := fun z hz => (h z hz).moved hW.alike
def zPL (Γ : zG) (lo : zId → Nat) (S : zSt) (X : va_W) (av : List Value) : Array Value → State → Prop := fun v U => v = av.toArray ∧ Wd Γ lo S X U.heap ∧ KK Γ U ∧ KX U ∧ KY U ∧ KN U
/-- what is told of a throw -/
def exC (n : Nat) : Int32 := if n = 1 then -2000000001 else if n = 2 then -2000000002 else -2000000003
section ZL
variable {p : Program} {l : Launch} {e : Env} {R : Room} {s : State} {m : MethodId} {args : Array Value} {below : List Frame} {meth : Method} {c : Code} {H : Heap} {locs : List Loc} {cells slots : Nat} {Q : State → Prop}
variable {cc : ByteArray} {pc : Nat} {ls : Array Slot} {rest : List Value} {Γ : zG} {lo lo0 : zId → Nat} {S S0 S1 : zSt} {X X1 : va_W} {H0 : Heap} {v : (zId → Nat) → Option Value} {E : (zId → Nat) → Prop}
theorem l_thr {ee : Nat × zSt} {S1 : zSt} {a : Array Value} {st0 : List Value} (hr : vx_Run p l e R s m args below meth c H locs 0 0 1 6 (F0 m pc ls st0) rest (zF a) (zT Γ lo S1 X ee) (zA Γ)) (hS : va_S (zA Γ) s.heap H locs)
    (kk : ∀ (q : Nat) (H1 : Heap) (locs1 : List Loc) (ce : Cell), Wd Γ lo ee.2 X H1 → va_S (zA Γ) s.heap H1 locs1 → (∀ d, zV ee.2 d = zV S1 d) → H1[q]? = some ce → ce.vm = .none → s.vm.findClass (zEx ee.1) = some ce.cls → vx_W p l e R s m args below meth c H1 locs1 (0 + 1) (0 + 6) Q (F0 m pc ls rest) q) :
    W p l e R s m args below meth c H locs 0 0 Q (F0 m pc ls st0) := by
  intro T hT Xs
  rcases hr T hT Xs with ⟨v, st₀, t, T', L, h0, X', hL, e1, e2, hq, hst⟩ | ⟨q, st₀, t, T', L, E, ce, h0, X', hL, e1, e2, ⟨hE, hw, hm1, hF⟩, hce, hcv, hcl, hst⟩
  · exact hq.elim
  · obtain ⟨k1, k2, k3⟩ := vx_keep h0 e1 hS (fun q _ h => h) (fun q h => h) hL hF
    subst hE
    obtain ⟨t2, a1, b1⟩ := kk q T'.heap (locs ++ L) ce (by rw [e1]; exact hw) k3 hm1 (by rw [e1]; exact hce) hcv hcl T' rfl X'
    exact ⟨t2, hst.trans a1, b1⟩
theorem n_lret (hexec : p.tables.exec = Jvm.exec) (hb : c.code = cc) (hr : meth.sig.returnType = some .long) (hlocks : meth.locks = false) {mc ms : Nat} (hc : cells ≤ mc) (hs : slots ≤ ms) {x : Int64} (hv : v lo = some (.long x)) (hW : Wd Γ lo S1 X1 H) (hS : va_S (zA Γ) s.heap H locs) (hlo : ∀ d, zV S0 d = true → lo d = lo0 d) (hm : ∀ d, zV S0 d = true → zV S1 d = true) (hE : E lo) (hdg : decode cc pc = .ok (.lreturn, 1)) :
    W p l e R s m args below meth c H locs cells slots (MQ below (zQn Γ lo0 S0 S1 X1 v E) args s mc ms (zA Γ)) (F0 m pc ls [.long x]) :=
  W.widen hc hs (W.lret hexec hb hr (fun t ht _ => ⟨lo, by rw [hv], by rw [ht]; exact hW, ⟨hlo, hm, hE⟩, hS.F ht⟩) hS.2.2 hdg hlocks)
end ZL

abbrev rmL_tables : Room := { frames := 9, cells := 6, slots := 89, locals := 343 }
set_option maxHeartbeats 4000000 in
set_option maxRecDepth 100000 in
theorem tL_tables (l : Launch) (Γ : zG) (lo : zId → Nat) (S : zSt) (X : va_W) {i_1 : Int32} {i_2 : Int32} (v_z : zV S (10, 0, 0) = true) {y : (Int32 × zSt)} (hf : fX9_addTable S i_1 i_2 = some (Sum.inr y)) : Met l yL_tables wsL_tables rmL_tables (zPL Γ lo S X [.ref (lo (10, 0, 0)), .int i_1, .int i_2]) (zQn Γ lo S y.2 X (fun _ => some (.int y.1)) (fun _ => True)) 6 89 (zA Γ) := by
  refine va_MetW (cc := cL_tables) (maxL := 4) (ret := (some .int)) (hh := [(0, 6, 7, 13), (0, 6, 11, 16)]) (by decide) rfl ?_
  intro p e s m args below meth c s₁ B hml hv
  obtain ⟨rfl, hW, hKK, hKX, hKY, hKN⟩ := hv
  have hx := B.exec
  have hb := B.bytes
  have hr := B.returns
  have hts := atoms_spec (ws := wsL_tables) B.pre
  have ht : c.exceptionTable.toList = tableOf [(0, 6, 7, 13), (0, 6, 11, 16)] := vx_table (x := yL_tables) B (hts _ (List.mem_of_getElem? (i := 0) rfl))
  have hown : s.vm.findClass RL = some m.cls := findClass_of_methodNamed B.named
  have hlocks := B.notSynchronized
  have hS : va_S (zA Γ) s.heap s.heap [] := va_S.rf
  have hl := lv_entry ([.ref (lo (10, 0, 0)), .int i_1, .int i_2]) (n := 4) (Nat.le_of_ble_eq_true rfl)
  rw [lg_entry_eq]
  generalize (lg_sl ([.ref (lo (10, 0, 0)), .int i_1, .int i_2]) ++ List.replicate (4 - (lg_sl ([.ref (lo (10, 0, 0)), .int i_1, .int i_2])).length) Slot.unset).toArray = ls at hl ⊢
  have hl : lv_has ls 4 [(0, .ref (lo (10, 0, 0))), (1, .int i_1), (2, .int i_2)] := hl
  generalize ([.ref (lo (10, 0, 0)), .int i_1, .int i_2] : List Value).toArray = args at hts ⊢
  obtain ⟨H, hH0⟩ : ∃ H, H = s.heap := ⟨_, rfl⟩
  obtain ⟨locs, hlo0⟩ : ∃ L : List Loc, L = [] := ⟨_, rfl⟩
  have hS : va_S (zA Γ) s.heap H locs := by rw [hH0, hlo0]; exact hS
  have hW : Wd Γ lo S X H := by rw [hH0]; exact hW
  rw [← hH0, ← hlo0]
  refine lv_aload_n hx hb dL_tables_0 rfl (lv_at hl 0 rfl) ?_
  refine lv_iload_n hx hb dL_tables_1 rfl (lv_at hl 1 rfl) ?_
  refine lv_iload_n hx hb dL_tables_2 rfl (lv_at hl 2 rfl) ?_
  refine n_callV (As := [.int i_1, .int i_2]) (rest := []) ⟨hx, hb, hml, hown, hts⟩ (tX9_addTable l Γ lo S X v_z hf) (cwV 2 hts gL_tables_X9_addTable rfl rfl rfl (by decide +kernel) ⟨Nat.le_of_ble_eq_true rfl, Nat.le_of_ble_eq_true rfl⟩) (wd_1 hW v_z) rfl hKK hKY hW hS rfl hl.1 rfl (Nat.le_of_ble_eq_true rfl) dL_tables_3 ⟨Nat.le_of_ble_eq_true rfl, Nat.le_of_ble_eq_true rfl⟩ (fun lo1 H locs hW hS h1 hmo hE => ?_)
  exact n_iret hx hb hr hlocks (Nat.le_of_ble_eq_true rfl) (Nat.le_of_ble_eq_true rfl) rfl rfl hW hS h1 hmo trivial dL_tables_6
set_option maxHeartbeats 4000000 in
set_option maxRecDepth 100000 in
theorem uL_tables (l : Launch) (hl0 : l.stackTraces = false) (Γ : zG) (lo : zId → Nat) (S : zSt) (X : va_W) {i_1 : Int32} {i_2 : Int32} (v_z : zV S (10, 0, 0) = true) {ee : Nat × zSt} (hf : fX9_addTable S i_1 i_2 = some (Sum.inl ee)) (hn : ee.1 = 2 ∨ ee.1 = 3) : Met l yL_tables wsL_tables rmL_tables (zPL Γ lo S X [.ref (lo (10, 0, 0)), .int i_1, .int i_2]) (zQn Γ lo S ee.2 X (fun _ => some (.int (exC ee.1))) (fun _ => True)) 6 89 (zA Γ) := by
  refine va_MetW (cc := cL_tables) (maxL := 4) (ret := (some .int)) (hh := [(0, 6, 7, 13), (0, 6, 11, 16)]) (by decide) rfl ?_
  intro p e s m args below meth c s₁ B hml hv
  obtain ⟨rfl, hW, hKK, hKX, hKY, hKN⟩ := hv
  have hx := B.exec
  have hb := B.bytes
  have hr := B.returns
  have hts := atoms_spec (ws := wsL_tables) B.pre
  have ht : c.exceptionTable.toList = tableOf [(0, 6, 7, 13), (0, 6, 11, 16)] := vx_table (x := yL_tables) B (hts _ (List.mem_of_getElem? (i := 0) rfl))
  have hown : s.vm.findClass RL = some m.cls := findClass_of_methodNamed B.named
  have hlocks := B.notSynchronized
  have hS : va_S (zA Γ) s.heap s.heap [] := va_S.rf
  have hl := lv_entry ([.ref (lo (10, 0, 0)), .int i_1, .int i_2]) (n := 4) (Nat.le_of_ble_eq_true rfl)
  rw [lg_entry_eq]
  generalize (lg_sl ([.ref (lo (10, 0, 0)), .int i_1, .int i_2]) ++ List.replicate (4 - (lg_sl ([.ref (lo (10, 0, 0)), .int i_1, .int i_2])).length) Slot.unset).toArray = ls at hl ⊢
  have hl : lv_has ls 4 [(0, .ref (lo (10, 0, 0))), (1, .int i_1), (2, .int i_2)] := hl
  generalize ([.ref (lo (10, 0, 0)), .int i_1, .int i_2] : List Value).toArray = args at hts ⊢
  obtain ⟨H, hH0⟩ : ∃ H, H = s.heap := ⟨_, rfl⟩
  obtain ⟨locs, hlo0⟩ : ∃ L : List Loc, L = [] := ⟨_, rfl⟩
  have hS : va_S (zA Γ) s.heap H locs := by rw [hH0, hlo0]; exact hS
  have hW : Wd Γ lo S X H := by rw [hH0]; exact hW
  rw [← hH0, ← hlo0]
  refine lv_aload_n hx hb dL_tables_0 rfl (lv_at hl 0 rfl) ?_
  refine lv_iload_n hx hb dL_tables_1 rfl (lv_at hl 1 rfl) ?_
  refine lv_iload_n hx hb dL_tables_2 rfl (lv_at hl 2 rfl) ?_
  refine l_thr (rest := []) (vx_runV (As := [.int i_1, .int i_2]) ⟨hx, hb, hml, hown, hts⟩ (uX9_addTable l hl0 Γ lo S X v_z hf) (cwV 2 hts gL_tables_X9_addTable rfl rfl rfl (by decide +kernel) ⟨Nat.le_of_ble_eq_true rfl, Nat.le_of_ble_eq_true rfl⟩) ⟨fun _ _ _ _ q => q, va_recv (q0 := 0) hKK.1 (wd_1 hW v_z) rfl rfl, fun _ hU hW1 => ⟨rfl, by rw [hU]; exact hW, hKK.go hS hU hW1, hKX.go hW1⟩⟩ rfl rfl hl.1 rfl (lv_room (Nat.le_of_ble_eq_true rfl)) dL_tables_3 ⟨Nat.le_of_ble_eq_true rfl, Nat.le_of_ble_eq_true rfl⟩) hS (fun q H locs ce hW hS hm1 hce hcv hcl => ?_)
  obtain ⟨en, eS⟩ := ee
  dsimp only at hn hW hm1 hcl ⊢
  rcases hn with rfl | rfl
  · refine vx_catch (own := RL) (name := "java/lang/IllegalArgumentException") hown [] ⟨0, 6, 7, 13⟩ [⟨0, 6, 11, 16⟩] ht (fun z hz => by cases hz) rfl (Nat.succ_ne_zero _) (hts (.classLink RL 13 "java/lang/IllegalArgumentException") (List.mem_of_getElem? (i := 1) rfl)) (va_Nw.use rfl (hKX.2.2 2)) hce hcv hcl ?_
    refine lv_astore_n (lv' := [(3, .ref q), (0, .ref (lo (10, 0, 0))), (1, .int i_1), (2, .int i_2)]) hx hb dL_tables_7 rfl hl (by decide) rfl (fun ls hl => ?_)
    refine lv_ldc hx hb hown (hts (.constant RL 15 (-2000000002)) (List.mem_of_getElem? (i := 3) rfl)) dL_tables_8 ?_
    exact n_iret hx hb hr hlocks (Nat.le_of_ble_eq_true rfl) (Nat.le_of_ble_eq_true rfl) rfl (congrArg (fun z => some (Value.int z)) (show exC 2 = -2000000002 by decide)) hW hS (fun _ _ => rfl) (fun d hd => (hm1 d).trans hd) trivial dL_tables_10
  · refine vx_catch (own := RL) (name := "java/lang/IllegalStateException") hown [⟨0, 6, 7, 13⟩] ⟨0, 6, 11, 16⟩ [] ht (fun z hz => by cases hz with | head => exact Or.inr ⟨Nat.succ_ne_zero _, _, (hts (.classLink RL 13 "java/lang/IllegalArgumentException") (List.mem_of_getElem? (i := 1) rfl)), hKN _ (List.mem_of_getElem? (i := 2) rfl)⟩ | tail _ hz => cases hz) rfl (Nat.succ_ne_zero _) (hts (.classLink RL 16 "java/lang/IllegalStateException") (List.mem_of_getElem? (i := 2) rfl)) (va_Nw.use rfl (hKX.2.2 3)) hce hcv hcl ?_
    refine lv_astore_n (lv' := [(3, .ref q), (0, .ref (lo (10, 0, 0))), (1, .int i_1), (2, .int i_2)]) hx hb dL_tables_11 rfl hl (by decide) rfl (fun ls hl => ?_)
    refine lv_ldc hx hb hown (hts (.constant RL 18 (-2000000003)) (List.mem_of_getElem? (i := 4) rfl)) dL_tables_12 ?_
    exact n_iret hx hb hr hlocks (Nat.le_of_ble_eq_true rfl) (Nat.le_of_ble_eq_true rfl) rfl (congrArg (fun z => some (Value.int z)) (show exC 3 = -2000000003 by decide)) hW hS (fun _ _ => rfl) (fun d hd => (hm1 d).trans hd) trivial dL_tables_14

abbrev rmL_bumpers : Room := { frames := 9, cells := 2, slots := 71, locals := 347 }
set_option maxHeartbeats 4000000 in
set_option maxRecDepth 100000 in
theorem tL_bumpers (l : Launch) (Γ : zG) (lo : zId → Nat) (S : zSt) (X : va_W) {i_1 : Int32} {i_2 : Int32} {i_3 : Int32} {i_4 : Int32} {i_5 : Int32} (v_z : zV S (10, 0, 0) = true) {y : (Int32 × zSt)} (hf : fX9_addBumper S i_1 i_2 i_3 i_4 i_5 = some (Sum.inr y)) : Met l yL_bumpers wsL_bumpers rmL_bumpers (zPL Γ lo S X [.ref (lo (10, 0, 0)), .int i_1, .int i_2, .int i_3, .int i_4, .int i_5]) (zQn Γ lo S y.2 X (fun _ => some (.int y.1)) (fun _ => True)) 2 71 (zA Γ) := by
  refine va_MetW (cc := cL_bumpers) (maxL := 7) (ret := (some .int)) (hh := [(0, 11, 12, 23), (0, 11, 17, 13), (0, 11, 22, 16)]) (by decide) rfl ?_
  intro p e s m args below meth c s₁ B hml hv
  obtain ⟨rfl, hW, hKK, hKX, hKY, hKN⟩ := hv
  have hx := B.exec
  have hb := B.bytes
  have hr := B.returns
  have hts := atoms_spec (ws := wsL_bumpers) B.pre
  have ht : c.exceptionTable.toList = tableOf [(0, 11, 12, 23), (0, 11, 17, 13), (0, 11, 22, 16)] := vx_table (x := yL_bumpers) B (hts _ (List.mem_of_getElem? (i := 0) rfl))
  have hown : s.vm.findClass RL = some m.cls := findClass_of_methodNamed B.named
  have hlocks := B.notSynchronized
  have hS : va_S (zA Γ) s.heap s.heap [] := va_S.rf
  have hl := lv_entry ([.ref (lo (10, 0, 0)), .int i_1, .int i_2, .int i_3, .int i_4, .int i_5]) (n := 7) (Nat.le_of_ble_eq_true rfl)
  rw [lg_entry_eq]
  generalize (lg_sl ([.ref (lo (10, 0, 0)), .int i_1, .int i_2, .int i_3, .int i_4, .int i_5]) ++ List.replicate (7 - (lg_sl ([.ref (lo (10, 0, 0)), .int i_1, .int i_2, .int i_3, .int i_4, .int i_5])).length) Slot.unset).toArray = ls at hl ⊢
  have hl : lv_has ls 7 [(0, .ref (lo (10, 0, 0))), (1, .int i_1), (2, .int i_2), (3, .int i_3), (4, .int i_4), (5, .int i_5)] := hl
  generalize ([.ref (lo (10, 0, 0)), .int i_1, .int i_2, .int i_3, .int i_4, .int i_5] : List Value).toArray = args at hts ⊢
  obtain ⟨H, hH0⟩ : ∃ H, H = s.heap := ⟨_, rfl⟩
  obtain ⟨locs, hlo0⟩ : ∃ L : List Loc, L = [] := ⟨_, rfl⟩
  have hS : va_S (zA Γ) s.heap H locs := by rw [hH0, hlo0]; exact hS
  have hW : Wd Γ lo S X H := by rw [hH0]; exact hW
  rw [← hH0, ← hlo0]
  refine lv_aload_n hx hb dL_bumpers_0 rfl (lv_at hl 0 rfl) ?_
  refine lv_iload_n hx hb dL_bumpers_1 rfl (lv_at hl 1 rfl) ?_
  refine lv_iload_n hx hb dL_bumpers_2 rfl (lv_at hl 2 rfl) ?_
  refine lv_iload_n hx hb dL_bumpers_3 rfl (lv_at hl 3 rfl) ?_
  refine lv_iload hx hb dL_bumpers_4 (lv_at hl 4 rfl) ?_
  refine lv_iload hx hb dL_bumpers_6 (lv_at hl 5 rfl) ?_
  refine n_callV (As := [.int i_1, .int i_2, .int i_3, .int i_4, .int i_5]) (rest := []) ⟨hx, hb, hml, hown, hts⟩ (tX9_addBumper l Γ lo S X v_z hf) (cwV 5 hts gL_bumpers_X9_addBumper rfl rfl rfl (by decide +kernel) ⟨Nat.le_of_ble_eq_true rfl, Nat.le_of_ble_eq_true rfl⟩) (wd_1 hW v_z) rfl hKK hKY hW hS rfl hl.1 rfl (Nat.le_of_ble_eq_true rfl) dL_bumpers_8 ⟨Nat.le_of_ble_eq_true rfl, Nat.le_of_ble_eq_true rfl⟩ (fun lo1 H locs hW hS h1 hmo hE => ?_)
  exact n_iret hx hb hr hlocks (Nat.le_of_ble_eq_true rfl) (Nat.le_of_ble_eq_true rfl) rfl rfl hW hS h1 hmo trivial dL_bumpers_11
set_option maxHeartbeats 4000000 in
set_option maxRecDepth 100000 in
theorem uL_bumpers (l : Launch) (hl0 : l.stackTraces = false) (Γ : zG) (lo : zId → Nat) (S : zSt) (X : va_W) {i_1 : Int32} {i_2 : Int32} {i_3 : Int32} {i_4 : Int32} {i_5 : Int32} (v_z : zV S (10, 0, 0) = true) {ee : Nat × zSt} (hf : fX9_addBumper S i_1 i_2 i_3 i_4 i_5 = some (Sum.inl ee)) (hn : ee.1 = 1 ∨ ee.1 = 2 ∨ ee.1 = 3) : Met l yL_bumpers wsL_bumpers rmL_bumpers (zPL Γ lo S X [.ref (lo (10, 0, 0)), .int i_1, .int i_2, .int i_3, .int i_4, .int i_5]) (zQn Γ lo S ee.2 X (fun _ => some (.int (exC ee.1))) (fun _ => True)) 2 71 (zA Γ) := by
  refine va_MetW (cc := cL_bumpers) (maxL := 7) (ret := (some .int)) (hh := [(0, 11, 12, 23), (0, 11, 17, 13), (0, 11, 22, 16)]) (by decide) rfl ?_
  intro p e s m args below meth c s₁ B hml hv
  obtain ⟨rfl, hW, hKK, hKX, hKY, hKN⟩ := hv
  have hx := B.exec
  have hb := B.bytes
  have hr := B.returns
  have hts := atoms_spec (ws := wsL_bumpers) B.pre
  have ht : c.exceptionTable.toList = tableOf [(0, 11, 12, 23), (0, 11, 17, 13), (0, 11, 22, 16)] := vx_table (x := yL_bumpers) B (hts _ (List.mem_of_getElem? (i := 0) rfl))
  have hown : s.vm.findClass RL = some m.cls := findClass_of_methodNamed B.named
  have hlocks := B.notSynchronized
  have hS : va_S (zA Γ) s.heap s.heap [] := va_S.rf
  have hl := lv_entry ([.ref (lo (10, 0, 0)), .int i_1, .int i_2, .int i_3, .int i_4, .int i_5]) (n := 7) (Nat.le_of_ble_eq_true rfl)
  rw [lg_entry_eq]
  generalize (lg_sl ([.ref (lo (10, 0, 0)), .int i_1, .int i_2, .int i_3, .int i_4, .int i_5]) ++ List.replicate (7 - (lg_sl ([.ref (lo (10, 0, 0)), .int i_1, .int i_2, .int i_3, .int i_4, .int i_5])).length) Slot.unset).toArray = ls at hl ⊢
  have hl : lv_has ls 7 [(0, .ref (lo (10, 0, 0))), (1, .int i_1), (2, .int i_2), (3, .int i_3), (4, .int i_4), (5, .int i_5)] := hl
  generalize ([.ref (lo (10, 0, 0)), .int i_1, .int i_2, .int i_3, .int i_4, .int i_5] : List Value).toArray = args at hts ⊢
  obtain ⟨H, hH0⟩ : ∃ H, H = s.heap := ⟨_, rfl⟩
  obtain ⟨locs, hlo0⟩ : ∃ L : List Loc, L = [] := ⟨_, rfl⟩
  have hS : va_S (zA Γ) s.heap H locs := by rw [hH0, hlo0]; exact hS
  have hW : Wd Γ lo S X H := by rw [hH0]; exact hW
  rw [← hH0, ← hlo0]
  refine lv_aload_n hx hb dL_bumpers_0 rfl (lv_at hl 0 rfl) ?_
  refine lv_iload_n hx hb dL_bumpers_1 rfl (lv_at hl 1 rfl) ?_
  refine lv_iload_n hx hb dL_bumpers_2 rfl (lv_at hl 2 rfl) ?_
  refine lv_iload_n hx hb dL_bumpers_3 rfl (lv_at hl 3 rfl) ?_
  refine lv_iload hx hb dL_bumpers_4 (lv_at hl 4 rfl) ?_
  refine lv_iload hx hb dL_bumpers_6 (lv_at hl 5 rfl) ?_
  refine l_thr (rest := []) (vx_runV (As := [.int i_1, .int i_2, .int i_3, .int i_4, .int i_5]) ⟨hx, hb, hml, hown, hts⟩ (uX9_addBumper l hl0 Γ lo S X v_z hf) (cwV 5 hts gL_bumpers_X9_addBumper rfl rfl rfl (by decide +kernel) ⟨Nat.le_of_ble_eq_true rfl, Nat.le_of_ble_eq_true rfl⟩) ⟨fun _ _ _ _ q => q, va_recv (q0 := 0) hKK.1 (wd_1 hW v_z) rfl rfl, fun _ hU hW1 => ⟨rfl, by rw [hU]; exact hW, hKK.go hS hU hW1, hKX.go hW1⟩⟩ rfl rfl hl.1 rfl (lv_room (Nat.le_of_ble_eq_true rfl)) dL_bumpers_8 ⟨Nat.le_of_ble_eq_true rfl, Nat.le_of_ble_eq_true rfl⟩) hS (fun q H locs ce hW hS hm1 hce hcv hcl => ?_)
  obtain ⟨en, eS⟩ := ee
  dsimp only at hn hW hm1 hcl ⊢
  rcases hn with rfl | rfl | rfl
  · refine vx_catch (own := RL) (name := "java/lang/IndexOutOfBoundsException") hown [] ⟨0, 11, 12, 23⟩ [⟨0, 11, 17, 13⟩, ⟨0, 11, 22, 16⟩] ht (fun z hz => by cases hz) rfl (Nat.succ_ne_zero _) (hts (.classLink RL 23 "java/lang/IndexOutOfBoundsException") (List.mem_of_getElem? (i := 1) rfl)) (va_Nw.use rfl (hKX.2.2 1)) hce hcv hcl ?_
    refine lv_astore (lv' := [(6, .ref q), (0, .ref (lo (10, 0, 0))), (1, .int i_1), (2, .int i_2), (3, .int i_3), (4, .int i_4), (5, .int i_5)]) hx hb dL_bumpers_12 hl (by decide) rfl (fun ls hl => ?_)
    refine lv_ldc hx hb hown (hts (.constant RL 25 (-2000000001)) (List.mem_of_getElem? (i := 4) rfl)) dL_bumpers_14 ?_
    exact n_iret hx hb hr hlocks (Nat.le_of_ble_eq_true rfl) (Nat.le_of_ble_eq_true rfl) rfl (congrArg (fun z => some (Value.int z)) (show exC 1 = -2000000001 by decide)) hW hS (fun _ _ => rfl) (fun d hd => (hm1 d).trans hd) trivial dL_bumpers_16
  · refine vx_catch (own := RL) (name := "java/lang/IllegalArgumentException") hown [⟨0, 11, 12, 23⟩] ⟨0, 11, 17, 13⟩ [⟨0, 11, 22, 16⟩] ht (fun z hz => by cases hz with | head => exact Or.inr ⟨Nat.succ_ne_zero _, _, (hts (.classLink RL 23 "java/lang/IndexOutOfBoundsException") (List.mem_of_getElem? (i := 1) rfl)), hKN _ (List.mem_of_getElem? (i := 0) rfl)⟩ | tail _ hz => cases hz) rfl (Nat.succ_ne_zero _) (hts (.classLink RL 13 "java/lang/IllegalArgumentException") (List.mem_of_getElem? (i := 2) rfl)) (va_Nw.use rfl (hKX.2.2 2)) hce hcv hcl ?_
    refine lv_astore (lv' := [(6, .ref q), (0, .ref (lo (10, 0, 0))), (1, .int i_1), (2, .int i_2), (3, .int i_3), (4, .int i_4), (5, .int i_5)]) hx hb dL_bumpers_17 hl (by decide) rfl (fun ls hl => ?_)
    refine lv_ldc hx hb hown (hts (.constant RL 15 (-2000000002)) (List.mem_of_getElem? (i := 5) rfl)) dL_bumpers_19 ?_
    exact n_iret hx hb hr hlocks (Nat.le_of_ble_eq_true rfl) (Nat.le_of_ble_eq_true rfl) rfl (congrArg (fun z => some (Value.int z)) (show exC 2 = -2000000002 by decide)) hW hS (fun _ _ => rfl) (fun d hd => (hm1 d).trans hd) trivial dL_bumpers_21
  · refine vx_catch (own := RL) (name := "java/lang/IllegalStateException") hown [⟨0, 11, 12, 23⟩, ⟨0, 11, 17, 13⟩] ⟨0, 11, 22, 16⟩ [] ht (fun z hz => by cases hz with | head => exact Or.inr ⟨Nat.succ_ne_zero _, _, (hts (.classLink RL 23 "java/lang/IndexOutOfBoundsException") (List.mem_of_getElem? (i := 1) rfl)), hKN _ (List.mem_of_getElem? (i := 1) rfl)⟩ | tail _ hz => cases hz with | head => exact Or.inr ⟨Nat.succ_ne_zero _, _, (hts (.classLink RL 13 "java/lang/IllegalArgumentException") (List.mem_of_getElem? (i := 2) rfl)), hKN _ (List.mem_of_getElem? (i := 2) rfl)⟩ | tail _ hz => cases hz) rfl (Nat.succ_ne_zero _) (hts (.classLink RL 16 "java/lang/IllegalStateException") (List.mem_of_getElem? (i := 3) rfl)) (va_Nw.use rfl (hKX.2.2 3)) hce hcv hcl ?_
    refine lv_astore (lv' := [(6, .ref q), (0, .ref (lo (10, 0, 0))), (1, .int i_1), (2, .int i_2), (3, .int i_3), (4, .int i_4), (5, .int i_5)]) hx hb dL_bumpers_22 hl (by decide) rfl (fun ls hl => ?_)
    refine lv_ldc hx hb hown (hts (.constant RL 18 (-2000000003)) (List.mem_of_getElem? (i := 6) rfl)) dL_bumpers_24 ?_
    exact n_iret hx hb hr hlocks (Nat.le_of_ble_eq_true rfl) (Nat.le_of_ble_eq_true rfl) rfl (congrArg (fun z => some (Value.int z)) (show exC 3 = -2000000003 by decide)) hW hS (fun _ _ => rfl) (fun d hd => (hm1 d).trans hd) trivial dL_bumpers_26

abbrev rmL_points : Room := { frames := 8, cells := 1, slots := 6, locals := 129 }
set_option maxHeartbeats 4000000 in
set_option maxRecDepth 100000 in
theorem tL_points (l : Launch) (Γ : zG) (lo : zId → Nat) (S : zSt) (X : va_W) {i_1 : Int32} {i_2 : Int32} {i_3 : Int32} (v_z : zV S (10, 0, 0) = true) {y : (Int32 × zSt)} (hf : fX9_setPoints S i_1 i_2 i_3 = some (Sum.inr y)) : Met l yL_points wsL_points rmL_points (zPL Γ lo S X [.ref (lo (10, 0, 0)), .int i_1, .int i_2, .int i_3]) (zQn Γ lo S y.2 X (fun _ => some (.int y.1)) (fun _ => True)) 1 6 (zA Γ) := by
  refine va_MetW (cc := cL_points) (maxL := 5) (ret := (some .int)) (hh := [(0, 7, 8, 23), (0, 7, 13, 13), (0, 7, 18, 16)]) (by decide) rfl ?_
  intro p e s m args below meth c s₁ B hml hv
  obtain ⟨rfl, hW, hKK, hKX, hKY, hKN⟩ := hv
  have hx := B.exec
  have hb := B.bytes
  have hr := B.returns
  have hts := atoms_spec (ws := wsL_points) B.pre
  have ht : c.exceptionTable.toList = tableOf [(0, 7, 8, 23), (0, 7, 13, 13), (0, 7, 18, 16)] := vx_table (x := yL_points) B (hts _ (List.mem_of_getElem? (i := 0) rfl))
  have hown : s.vm.findClass RL = some m.cls := findClass_of_methodNamed B.named
  have hlocks := B.notSynchronized
  have hS : va_S (zA Γ) s.heap s.heap [] := va_S.rf
  have hl := lv_entry ([.ref (lo (10, 0, 0)), .int i_1, .int i_2, .int i_3]) (n := 5) (Nat.le_of_ble_eq_true rfl)
  rw [lg_entry_eq]
  generalize (lg_sl ([.ref (lo (10, 0, 0)), .int i_1, .int i_2, .int i_3]) ++ List.replicate (5 - (lg_sl ([.ref (lo (10, 0, 0)), .int i_1, .int i_2, .int i_3])).length) Slot.unset).toArray = ls at hl ⊢
  have hl : lv_has ls 5 [(0, .ref (lo (10, 0, 0))), (1, .int i_1), (2, .int i_2), (3, .int i_3)] := hl
  generalize ([.ref (lo (10, 0, 0)), .int i_1, .int i_2, .int i_3] : List Value).toArray = args at hts ⊢
  obtain ⟨H, hH0⟩ : ∃ H, H = s.heap := ⟨_, rfl⟩
  obtain ⟨locs, hlo0⟩ : ∃ L : List Loc, L = [] := ⟨_, rfl⟩
  have hS : va_S (zA Γ) s.heap H locs := by rw [hH0, hlo0]; exact hS
  have hW : Wd Γ lo S X H := by rw [hH0]; exact hW
  rw [← hH0, ← hlo0]
  refine lv_aload_n hx hb dL_points_0 rfl (lv_at hl 0 rfl) ?_
  refine lv_iload_n hx hb dL_points_1 rfl (lv_at hl 1 rfl) ?_
  refine lv_iload_n hx hb dL_points_2 rfl (lv_at hl 2 rfl) ?_
  refine lv_iload_n hx hb dL_points_3 rfl (lv_at hl 3 rfl) ?_
  refine z_callV (As := [.int i_1, .int i_2, .int i_3]) (rest := []) ⟨hx, hb, hml, hown, hts⟩ (tX9_setPoints l Γ lo S X v_z hf) (cwV 3 hts gL_points_X9_setPoints rfl rfl rfl (by decide +kernel) ⟨Nat.le_of_ble_eq_true rfl, Nat.le_of_ble_eq_true rfl⟩) (wd_1 hW v_z) rfl hKK hW hS rfl hl.1 rfl (Nat.le_of_ble_eq_true rfl) dL_points_4 ⟨Nat.zero_le _, Nat.zero_le _⟩ (fun H locs hW hS hm1 hE => ?_)
  exact n_iret hx hb hr hlocks (Nat.le_of_ble_eq_true rfl) (Nat.le_of_ble_eq_true rfl) rfl rfl hW hS (fun _ _ => rfl) (fun d hd => (hm1 d).trans hd) trivial dL_points_7
set_option maxHeartbeats 4000000 in
set_option maxRecDepth 100000 in
theorem uL_points (l : Launch) (hl0 : l.stackTraces = false) (Γ : zG) (lo : zId → Nat) (S : zSt) (X : va_W) {i_1 : Int32} {i_2 : Int32} {i_3 : Int32} (v_z : zV S (10, 0, 0) = true) {ee : Nat × zSt} (hf : fX9_setPoints S i_1 i_2 i_3 = some (Sum.inl ee)) (hn : ee.1 = 1 ∨ ee.1 = 2 ∨ ee.1 = 3) : Met l yL_points wsL_points rmL_points (zPL Γ lo S X [.ref (lo (10, 0, 0)), .int i_1, .int i_2, .int i_3]) (zQn Γ lo S ee.2 X (fun _ => some (.int (exC ee.1))) (fun _ => True)) 1 6 (zA Γ) := by
  refine va_MetW (cc := cL_points) (maxL := 5) (ret := (some .int)) (hh := [(0, 7, 8, 23), (0, 7, 13, 13), (0, 7, 18, 16)]) (by decide) rfl ?_
  intro p e s m args below meth c s₁ B hml hv
  obtain ⟨rfl, hW, hKK, hKX, hKY, hKN⟩ := hv
  have hx := B.exec
  have hb := B.bytes
  have hr := B.returns
  have hts := atoms_spec (ws := wsL_points) B.pre
  have ht : c.exceptionTable.toList = tableOf [(0, 7, 8, 23), (0, 7, 13, 13), (0, 7, 18, 16)] := vx_table (x := yL_points) B (hts _ (List.mem_of_getElem? (i := 0) rfl))
  have hown : s.vm.findClass RL = some m.cls := findClass_of_methodNamed B.named
  have hlocks := B.notSynchronized
  have hS : va_S (zA Γ) s.heap s.heap [] := va_S.rf
  have hl := lv_entry ([.ref (lo (10, 0, 0)), .int i_1, .int i_2, .int i_3]) (n := 5) (Nat.le_of_ble_eq_true rfl)
  rw [lg_entry_eq]
  generalize (lg_sl ([.ref (lo (10, 0, 0)), .int i_1, .int i_2, .int i_3]) ++ List.replicate (5 - (lg_sl ([.ref (lo (10, 0, 0)), .int i_1, .int i_2, .int i_3])).length) Slot.unset).toArray = ls at hl ⊢
  have hl : lv_has ls 5 [(0, .ref (lo (10, 0, 0))), (1, .int i_1), (2, .int i_2), (3, .int i_3)] := hl
  generalize ([.ref (lo (10, 0, 0)), .int i_1, .int i_2, .int i_3] : List Value).toArray = args at hts ⊢
  obtain ⟨H, hH0⟩ : ∃ H, H = s.heap := ⟨_, rfl⟩
  obtain ⟨locs, hlo0⟩ : ∃ L : List Loc, L = [] := ⟨_, rfl⟩
  have hS : va_S (zA Γ) s.heap H locs := by rw [hH0, hlo0]; exact hS
  have hW : Wd Γ lo S X H := by rw [hH0]; exact hW
  rw [← hH0, ← hlo0]
  refine lv_aload_n hx hb dL_points_0 rfl (lv_at hl 0 rfl) ?_
  refine lv_iload_n hx hb dL_points_1 rfl (lv_at hl 1 rfl) ?_
  refine lv_iload_n hx hb dL_points_2 rfl (lv_at hl 2 rfl) ?_
  refine lv_iload_n hx hb dL_points_3 rfl (lv_at hl 3 rfl) ?_
  refine l_thr (rest := []) (vx_runV (As := [.int i_1, .int i_2, .int i_3]) ⟨hx, hb, hml, hown, hts⟩ (uX9_setPoints l hl0 Γ lo S X v_z hf) (cwV 3 hts gL_points_X9_setPoints rfl rfl rfl (by decide +kernel) ⟨Nat.le_of_ble_eq_true rfl, Nat.le_of_ble_eq_true rfl⟩) ⟨fun _ _ _ _ q => q, va_recv (q0 := 0) hKK.1 (wd_1 hW v_z) rfl rfl, fun _ hU hW1 => ⟨rfl, by rw [hU]; exact hW, hKK.go hS hU hW1, hKX.go hW1⟩⟩ rfl rfl hl.1 rfl (lv_room (Nat.le_of_ble_eq_true rfl)) dL_points_4 ⟨Nat.le_of_ble_eq_true rfl, Nat.le_of_ble_eq_true rfl⟩) hS (fun q H locs ce hW hS hm1 hce hcv hcl => ?_)
  obtain ⟨en, eS⟩ := ee
  dsimp only at hn hW hm1 hcl ⊢
  rcases hn with rfl | rfl | rfl
  · refine vx_catch (own := RL) (name := "java/lang/IndexOutOfBoundsException") hown [] ⟨0, 7, 8, 23⟩ [⟨0, 7, 13, 13⟩, ⟨0, 7, 18, 16⟩] ht (fun z hz => by cases hz) rfl (Nat.succ_ne_zero _) (hts (.classLink RL 23 "java/lang/IndexOutOfBoundsException") (List.mem_of_getElem? (i := 1) rfl)) (va_Nw.use rfl (hKX.2.2 1)) hce hcv hcl ?_
    refine lv_astore (lv' := [(4, .ref q), (0, .ref (lo (10, 0, 0))), (1, .int i_1), (2, .int i_2), (3, .int i_3)]) hx hb dL_points_8 hl (by decide) rfl (fun ls hl => ?_)
    refine lv_ldc hx hb hown (hts (.constant RL 25 (-2000000001)) (List.mem_of_getElem? (i := 4) rfl)) dL_points_10 ?_
    exact n_iret hx hb hr hlocks (Nat.le_of_ble_eq_true rfl) (Nat.le_of_ble_eq_true rfl) rfl (congrArg (fun z => some (Value.int z)) (show exC 1 = -2000000001 by decide)) hW hS (fun _ _ => rfl) (fun d hd => (hm1 d).trans hd) trivial dL_points_12
  · refine vx_catch (own := RL) (name := "java/lang/IllegalArgumentException") hown [⟨0, 7, 8, 23⟩] ⟨0, 7, 13, 13⟩ [⟨0, 7, 18, 16⟩] ht (fun z hz => by cases hz with | head => exact Or.inr ⟨Nat.succ_ne_zero _, _, (hts (.classLink RL 23 "java/lang/IndexOutOfBoundsException") (List.mem_of_getElem? (i := 1) rfl)), hKN _ (List.mem_of_getElem? (i := 0) rfl)⟩ | tail _ hz => cases hz) rfl (Nat.succ_ne_zero _) (hts (.classLink RL 13 "java/lang/IllegalArgumentException") (List.mem_of_getElem? (i := 2) rfl)) (va_Nw.use rfl (hKX.2.2 2)) hce hcv hcl ?_
    refine lv_astore (lv' := [(4, .ref q), (0, .ref (lo (10, 0, 0))), (1, .int i_1), (2, .int i_2), (3, .int i_3)]) hx hb dL_points_13 hl (by decide) rfl (fun ls hl => ?_)
    refine lv_ldc hx hb hown (hts (.constant RL 15 (-2000000002)) (List.mem_of_getElem? (i := 5) rfl)) dL_points_15 ?_
    exact n_iret hx hb hr hlocks (Nat.le_of_ble_eq_true rfl) (Nat.le_of_ble_eq_true rfl) rfl (congrArg (fun z => some (Value.int z)) (show exC 2 = -2000000002 by decide)) hW hS (fun _ _ => rfl) (fun d hd => (hm1 d).trans hd) trivial dL_points_17
  · refine vx_catch (own := RL) (name := "java/lang/IllegalStateException") hown [⟨0, 7, 8, 23⟩, ⟨0, 7, 13, 13⟩] ⟨0, 7, 18, 16⟩ [] ht (fun z hz => by cases hz with | head => exact Or.inr ⟨Nat.succ_ne_zero _, _, (hts (.classLink RL 23 "java/lang/IndexOutOfBoundsException") (List.mem_of_getElem? (i := 1) rfl)), hKN _ (List.mem_of_getElem? (i := 1) rfl)⟩ | tail _ hz => cases hz with | head => exact Or.inr ⟨Nat.succ_ne_zero _, _, (hts (.classLink RL 13 "java/lang/IllegalArgumentException") (List.mem_of_getElem? (i := 2) rfl)), hKN _ (List.mem_of_getElem? (i := 2) rfl)⟩ | tail _ hz => cases hz) rfl (Nat.succ_ne_zero _) (hts (.classLink RL 16 "java/lang/IllegalStateException") (List.mem_of_getElem? (i := 3) rfl)) (va_Nw.use rfl (hKX.2.2 3)) hce hcv hcl ?_
    refine lv_astore (lv' := [(4, .ref q), (0, .ref (lo (10, 0, 0))), (1, .int i_1), (2, .int i_2), (3, .int i_3)]) hx hb dL_points_18 hl (by decide) rfl (fun ls hl => ?_)
    refine lv_ldc hx hb hown (hts (.constant RL 18 (-2000000003)) (List.mem_of_getElem? (i := 6) rfl)) dL_points_20 ?_
    exact n_iret hx hb hr hlocks (Nat.le_of_ble_eq_true rfl) (Nat.le_of_ble_eq_true rfl) rfl (congrArg (fun z => some (Value.int z)) (show exC 3 = -2000000003 by decide)) hW hS (fun _ _ => rfl) (fun d hd => (hm1 d).trans hd) trivial dL_points_22

abbrev rmL_modes : Room := { frames := 8, cells := 1, slots := 6, locals := 131 }
set_option maxHeartbeats 4000000 in
set_option maxRecDepth 100000 in
theorem tL_modes (l : Launch) (Γ : zG) (lo : zId → Nat) (S : zSt) (X : va_W) {i_1 : Int32} {i_2 : Int32} {i_3 : Int32} {i_4 : Int32} {i_5 : Int32} (v_z : zV S (10, 0, 0) = true) {y : (Int32 × zSt)} (hf : fX9_setMode S i_1 i_2 i_3 i_4 i_5 = some (Sum.inr y)) : Met l yL_modes wsL_modes rmL_modes (zPL Γ lo S X [.ref (lo (10, 0, 0)), .int i_1, .int i_2, .int i_3, .int i_4, .int i_5]) (zQn Γ lo S y.2 X (fun _ => some (.int (if y.1 = 0 then 0 else 1))) (fun _ => True)) 1 6 (zA Γ) := by
  refine va_MetW (cc := cL_modes) (maxL := 7) (ret := (some .int)) (hh := [(0, 19, 20, 23), (0, 19, 25, 13), (0, 19, 30, 16)]) (by decide) rfl ?_
  intro p e s m args below meth c s₁ B hml hv
  obtain ⟨rfl, hW, hKK, hKX, hKY, hKN⟩ := hv
  have hx := B.exec
  have hb := B.bytes
  have hr := B.returns
  have hts := atoms_spec (ws := wsL_modes) B.pre
  have ht : c.exceptionTable.toList = tableOf [(0, 19, 20, 23), (0, 19, 25, 13), (0, 19, 30, 16)] := vx_table (x := yL_modes) B (hts _ (List.mem_of_getElem? (i := 0) rfl))
  have hown : s.vm.findClass RL = some m.cls := findClass_of_methodNamed B.named
  have hlocks := B.notSynchronized
  have hS : va_S (zA Γ) s.heap s.heap [] := va_S.rf
  have hl := lv_entry ([.ref (lo (10, 0, 0)), .int i_1, .int i_2, .int i_3, .int i_4, .int i_5]) (n := 7) (Nat.le_of_ble_eq_true rfl)
  rw [lg_entry_eq]
  generalize (lg_sl ([.ref (lo (10, 0, 0)), .int i_1, .int i_2, .int i_3, .int i_4, .int i_5]) ++ List.replicate (7 - (lg_sl ([.ref (lo (10, 0, 0)), .int i_1, .int i_2, .int i_3, .int i_4, .int i_5])).length) Slot.unset).toArray = ls at hl ⊢
  have hl : lv_has ls 7 [(0, .ref (lo (10, 0, 0))), (1, .int i_1), (2, .int i_2), (3, .int i_3), (4, .int i_4), (5, .int i_5)] := hl
  generalize ([.ref (lo (10, 0, 0)), .int i_1, .int i_2, .int i_3, .int i_4, .int i_5] : List Value).toArray = args at hts ⊢
  obtain ⟨H, hH0⟩ : ∃ H, H = s.heap := ⟨_, rfl⟩
  obtain ⟨locs, hlo0⟩ : ∃ L : List Loc, L = [] := ⟨_, rfl⟩
  have hS : va_S (zA Γ) s.heap H locs := by rw [hH0, hlo0]; exact hS
  have hW : Wd Γ lo S X H := by rw [hH0]; exact hW
  rw [← hH0, ← hlo0]
  refine lv_aload_n hx hb dL_modes_0 rfl (lv_at hl 0 rfl) ?_
  refine lv_iload_n hx hb dL_modes_1 rfl (lv_at hl 1 rfl) ?_
  refine lv_iload_n hx hb dL_modes_2 rfl (lv_at hl 2 rfl) ?_
  refine lv_iload_n hx hb dL_modes_3 rfl (lv_at hl 3 rfl) ?_
  refine lv_iload hx hb dL_modes_4 (lv_at hl 4 rfl) ?_
  refine lv_iload hx hb dL_modes_6 (lv_at hl 5 rfl) ?_
  refine n_callV (As := [.int i_1, .int i_2, .int i_3, .int i_4, .int i_5]) (rest := []) ⟨hx, hb, hml, hown, hts⟩ (tX9_setMode l Γ lo S X v_z hf) (cwV 5 hts gL_modes_X9_setMode rfl rfl rfl (by decide +kernel) ⟨Nat.le_of_ble_eq_true rfl, Nat.le_of_ble_eq_true rfl⟩) (wd_1 hW v_z) rfl hKK hKY hW hS rfl hl.1 rfl (Nat.le_of_ble_eq_true rfl) dL_modes_8 ⟨Nat.le_of_ble_eq_true rfl, Nat.le_of_ble_eq_true rfl⟩ (fun lo1 H locs hW hS h1 hmo hE => ?_)
  refine lv_if_eq (tgt := 18) hx hb dL_modes_11 (by decide) (fun k => ?_) (fun k => ?_)
  · rw [if_pos k]
    refine lv_iconst (v := (0)) hx hb dL_modes_18 (by decide) ?_
    exact n_iret hx hb hr hlocks (Nat.le_of_ble_eq_true rfl) (Nat.le_of_ble_eq_true rfl) rfl rfl hW hS h1 hmo trivial dL_modes_19
  · rw [if_neg k]
    refine lv_iconst (v := (1)) hx hb dL_modes_14 (by decide) ?_
    refine lv_goto (tgt := 19) hx hb dL_modes_15 (by decide) ?_
    exact n_iret hx hb hr hlocks (Nat.le_of_ble_eq_true rfl) (Nat.le_of_ble_eq_true rfl) rfl rfl hW hS h1 hmo trivial dL_modes_19
set_option maxHeartbeats 4000000 in
set_option maxRecDepth 100000 in
theorem uL_modes (l : Launch) (hl0 : l.stackTraces = false) (Γ : zG) (lo : zId → Nat) (S : zSt) (X : va_W) {i_1 : Int32} {i_2 : Int32} {i_3 : Int32} {i_4 : Int32} {i_5 : Int32} (v_z : zV S (10, 0, 0) = true) {ee : Nat × zSt} (hf : fX9_setMode S i_1 i_2 i_3 i_4 i_5 = some (Sum.inl ee)) (hn : ee.1 = 1 ∨ ee.1 = 2 ∨ ee.1 = 3) : Met l yL_modes wsL_modes rmL_modes (zPL Γ lo S X [.ref (lo (10, 0, 0)), .int i_1, .int i_2, .int i_3, .int i_4, .int i_5]) (zQn Γ lo S ee.2 X (fun _ => some (.int (exC ee.1))) (fun _ => True)) 1 6 (zA Γ) := by
  refine va_MetW (cc := cL_modes) (maxL := 7) (ret := (some .int)) (hh := [(0, 19, 20, 23), (0, 19, 25, 13), (0, 19, 30, 16)]) (by decide) rfl ?_
  intro p e s m args below meth c s₁ B hml hv
  obtain ⟨rfl, hW, hKK, hKX, hKY, hKN⟩ := hv
  have hx := B.exec
  have hb := B.bytes
  have hr := B.returns
  have hts := atoms_spec (ws := wsL_modes) B.pre
  have ht : c.exceptionTable.toList = tableOf [(0, 19, 20, 23), (0, 19, 25, 13), (0, 19, 30, 16)] := vx_table (x := yL_modes) B (hts _ (List.mem_of_getElem? (i := 0) rfl))
  have hown : s.vm.findClass RL = some m.cls := findClass_of_methodNamed B.named
  have hlocks := B.notSynchronized
  have hS : va_S (zA Γ) s.heap s.heap [] := va_S.rf
  have hl := lv_entry ([.ref (lo (10, 0, 0)), .int i_1, .int i_2, .int i_3, .int i_4, .int i_5]) (n := 7) (Nat.le_of_ble_eq_true rfl)
  rw [lg_entry_eq]
  generalize (lg_sl ([.ref (lo (10, 0, 0)), .int i_1, .int i_2, .int i_3, .int i_4, .int i_5]) ++ List.replicate (7 - (lg_sl ([.ref (lo (10, 0, 0)), .int i_1, .int i_2, .int i_3, .int i_4, .int i_5])).length) Slot.unset).toArray = ls at hl ⊢
  have hl : lv_has ls 7 [(0, .ref (lo (10, 0, 0))), (1, .int i_1), (2, .int i_2), (3, .int i_3), (4, .int i_4), (5, .int i_5)] := hl
  generalize ([.ref (lo (10, 0, 0)), .int i_1, .int i_2, .int i_3, .int i_4, .int i_5] : List Value).toArray = args at hts ⊢
  obtain ⟨H, hH0⟩ : ∃ H, H = s.heap := ⟨_, rfl⟩
  obtain ⟨locs, hlo0⟩ : ∃ L : List Loc, L = [] := ⟨_, rfl⟩
  have hS : va_S (zA Γ) s.heap H locs := by rw [hH0, hlo0]; exact hS
  have hW : Wd Γ lo S X H := by rw [hH0]; exact hW
  rw [← hH0, ← hlo0]
  refine lv_aload_n hx hb dL_modes_0 rfl (lv_at hl 0 rfl) ?_
  refine lv_iload_n hx hb dL_modes_1 rfl (lv_at hl 1 rfl) ?_
  refine lv_iload_n hx hb dL_modes_2 rfl (lv_at hl 2 rfl) ?_
  refine lv_iload_n hx hb dL_modes_3 rfl (lv_at hl 3 rfl) ?_
  refine lv_iload hx hb dL_modes_4 (lv_at hl 4 rfl) ?_
  refine lv_iload hx hb dL_modes_6 (lv_at hl 5 rfl) ?_
  refine l_thr (rest := []) (vx_runV (As := [.int i_1, .int i_2, .int i_3, .int i_4, .int i_5]) ⟨hx, hb, hml, hown, hts⟩ (uX9_setMode l hl0 Γ lo S X v_z hf) (cwV 5 hts gL_modes_X9_setMode rfl rfl rfl (by decide +kernel) ⟨Nat.le_of_ble_eq_true rfl, Nat.le_of_ble_eq_true rfl⟩) ⟨fun _ _ _ _ q => q, va_recv (q0 := 0) hKK.1 (wd_1 hW v_z) rfl rfl, fun _ hU hW1 => ⟨rfl, by rw [hU]; exact hW, hKK.go hS hU hW1, hKX.go hW1⟩⟩ rfl rfl hl.1 rfl (lv_room (Nat.le_of_ble_eq_true rfl)) dL_modes_8 ⟨Nat.le_of_ble_eq_true rfl, Nat.le_of_ble_eq_true rfl⟩) hS (fun q H locs ce hW hS hm1 hce hcv hcl => ?_)
  obtain ⟨en, eS⟩ := ee
  dsimp only at hn hW hm1 hcl ⊢
  rcases hn with rfl | rfl | rfl
  · refine vx_catch (own := RL) (name := "java/lang/IndexOutOfBoundsException") hown [] ⟨0, 19, 20, 23⟩ [⟨0, 19, 25, 13⟩, ⟨0, 19, 30, 16⟩] ht (fun z hz => by cases hz) rfl (Nat.succ_ne_zero _) (hts (.classLink RL 23 "java/lang/IndexOutOfBoundsException") (List.mem_of_getElem? (i := 1) rfl)) (va_Nw.use rfl (hKX.2.2 1)) hce hcv hcl ?_
    refine lv_astore (lv' := [(6, .ref q), (0, .ref (lo (10, 0, 0))), (1, .int i_1), (2, .int i_2), (3, .int i_3), (4, .int i_4), (5, .int i_5)]) hx hb dL_modes_20 hl (by decide) rfl (fun ls hl => ?_)
    refine lv_ldc hx hb hown (hts (.constant RL 25 (-2000000001)) (List.mem_of_getElem? (i := 4) rfl)) dL_modes_22 ?_
    exact n_iret hx hb hr hlocks (Nat.le_of_ble_eq_true rfl) (Nat.le_of_ble_eq_true rfl) rfl (congrArg (fun z => some (Value.int z)) (show exC 1 = -2000000001 by decide)) hW hS (fun _ _ => rfl) (fun d hd => (hm1 d).trans hd) trivial dL_modes_24
  · refine vx_catch (own := RL) (name := "java/lang/IllegalArgumentException") hown [⟨0, 19, 20, 23⟩] ⟨0, 19, 25, 13⟩ [⟨0, 19, 30, 16⟩] ht (fun z hz => by cases hz with | head => exact Or.inr ⟨Nat.succ_ne_zero _, _, (hts (.classLink RL 23 "java/lang/IndexOutOfBoundsException") (List.mem_of_getElem? (i := 1) rfl)), hKN _ (List.mem_of_getElem? (i := 0) rfl)⟩ | tail _ hz => cases hz) rfl (Nat.succ_ne_zero _) (hts (.classLink RL 13 "java/lang/IllegalArgumentException") (List.mem_of_getElem? (i := 2) rfl)) (va_Nw.use rfl (hKX.2.2 2)) hce hcv hcl ?_
    refine lv_astore (lv' := [(6, .ref q), (0, .ref (lo (10, 0, 0))), (1, .int i_1), (2, .int i_2), (3, .int i_3), (4, .int i_4), (5, .int i_5)]) hx hb dL_modes_25 hl (by decide) rfl (fun ls hl => ?_)
    refine lv_ldc hx hb hown (hts (.constant RL 15 (-2000000002)) (List.mem_of_getElem? (i := 5) rfl)) dL_modes_27 ?_
    exact n_iret hx hb hr hlocks (Nat.le_of_ble_eq_true rfl) (Nat.le_of_ble_eq_true rfl) rfl (congrArg (fun z => some (Value.int z)) (show exC 2 = -2000000002 by decide)) hW hS (fun _ _ => rfl) (fun d hd => (hm1 d).trans hd) trivial dL_modes_29
  · refine vx_catch (own := RL) (name := "java/lang/IllegalStateException") hown [⟨0, 19, 20, 23⟩, ⟨0, 19, 25, 13⟩] ⟨0, 19, 30, 16⟩ [] ht (fun z hz => by cases hz with | head => exact Or.inr ⟨Nat.succ_ne_zero _, _, (hts (.classLink RL 23 "java/lang/IndexOutOfBoundsException") (List.mem_of_getElem? (i := 1) rfl)), hKN _ (List.mem_of_getElem? (i := 1) rfl)⟩ | tail _ hz => cases hz with | head => exact Or.inr ⟨Nat.succ_ne_zero _, _, (hts (.classLink RL 13 "java/lang/IllegalArgumentException") (List.mem_of_getElem? (i := 2) rfl)), hKN _ (List.mem_of_getElem? (i := 2) rfl)⟩ | tail _ hz => cases hz) rfl (Nat.succ_ne_zero _) (hts (.classLink RL 16 "java/lang/IllegalStateException") (List.mem_of_getElem? (i := 3) rfl)) (va_Nw.use rfl (hKX.2.2 3)) hce hcv hcl ?_
    refine lv_astore (lv' := [(6, .ref q), (0, .ref (lo (10, 0, 0))), (1, .int i_1), (2, .int i_2), (3, .int i_3), (4, .int i_4), (5, .int i_5)]) hx hb dL_modes_30 hl (by decide) rfl (fun ls hl => ?_)
    refine lv_ldc hx hb hown (hts (.constant RL 18 (-2000000003)) (List.mem_of_getElem? (i := 6) rfl)) dL_modes_32 ?_
    exact n_iret hx hb hr hlocks (Nat.le_of_ble_eq_true rfl) (Nat.le_of_ble_eq_true rfl) rfl (congrArg (fun z => some (Value.int z)) (show exC 3 = -2000000003 by decide)) hW hS (fun _ _ => rfl) (fun d hd => (hm1 d).trans hd) trivial dL_modes_34

abbrev rmL_stick : Room := { frames := 8, cells := 1, slots := 6, locals := 126 }
set_option maxHeartbeats 4000000 in
set_option maxRecDepth 100000 in
theorem tL_stick (l : Launch) (Γ : zG) (lo : zId → Nat) (S : zSt) (X : va_W) {i_1 : Int32} {i_2 : Int32} (v_z : zV S (10, 0, 0) = true) {y : (Int32 × zSt)} (hf : fX9_stick S i_1 i_2 = some (Sum.inr y)) : Met l yL_stick wsL_stick rmL_stick (zPL Γ lo S X [.ref (lo (10, 0, 0)), .int i_1, .int i_2]) (zQn Γ lo S y.2 X (fun _ => some (.int y.1)) (fun _ => True)) 1 6 (zA Γ) := by
  refine va_MetW (cc := cL_stick) (maxL := 4) (ret := (some .int)) (hh := [(0, 6, 7, 23), (0, 6, 11, 16)]) (by decide) rfl ?_
  intro p e s m args below meth c s₁ B hml hv
  obtain ⟨rfl, hW, hKK, hKX, hKY, hKN⟩ := hv
  have hx := B.exec
  have hb := B.bytes
  have hr := B.returns
  have hts := atoms_spec (ws := wsL_stick) B.pre
  have ht : c.exceptionTable.toList = tableOf [(0, 6, 7, 23), (0, 6, 11, 16)] := vx_table (x := yL_stick) B (hts _ (List.mem_of_getElem? (i := 0) rfl))
  have hown : s.vm.findClass RL = some m.cls := findClass_of_methodNamed B.named
  have hlocks := B.notSynchronized
  have hS : va_S (zA Γ) s.heap s.heap [] := va_S.rf
  have hl := lv_entry ([.ref (lo (10, 0, 0)), .int i_1, .int i_2]) (n := 4) (Nat.le_of_ble_eq_true rfl)
  rw [lg_entry_eq]
  generalize (lg_sl ([.ref (lo (10, 0, 0)), .int i_1, .int i_2]) ++ List.replicate (4 - (lg_sl ([.ref (lo (10, 0, 0)), .int i_1, .int i_2])).length) Slot.unset).toArray = ls at hl ⊢
  have hl : lv_has ls 4 [(0, .ref (lo (10, 0, 0))), (1, .int i_1), (2, .int i_2)] := hl
  generalize ([.ref (lo (10, 0, 0)), .int i_1, .int i_2] : List Value).toArray = args at hts ⊢
  obtain ⟨H, hH0⟩ : ∃ H, H = s.heap := ⟨_, rfl⟩
  obtain ⟨locs, hlo0⟩ : ∃ L : List Loc, L = [] := ⟨_, rfl⟩
  have hS : va_S (zA Γ) s.heap H locs := by rw [hH0, hlo0]; exact hS
  have hW : Wd Γ lo S X H := by rw [hH0]; exact hW
  rw [← hH0, ← hlo0]
  refine lv_aload_n hx hb dL_stick_0 rfl (lv_at hl 0 rfl) ?_
  refine lv_iload_n hx hb dL_stick_1 rfl (lv_at hl 1 rfl) ?_
  refine lv_iload_n hx hb dL_stick_2 rfl (lv_at hl 2 rfl) ?_
  refine z_callV (As := [.int i_1, .int i_2]) (rest := []) ⟨hx, hb, hml, hown, hts⟩ (tX9_stick l Γ lo S X v_z hf) (cwV 2 hts gL_stick_X9_stick rfl rfl rfl (by decide +kernel) ⟨Nat.le_of_ble_eq_true rfl, Nat.le_of_ble_eq_true rfl⟩) (wd_1 hW v_z) rfl hKK hW hS rfl hl.1 rfl (Nat.le_of_ble_eq_true rfl) dL_stick_3 ⟨Nat.zero_le _, Nat.zero_le _⟩ (fun H locs hW hS hm1 hE => ?_)
  exact n_iret hx hb hr hlocks (Nat.le_of_ble_eq_true rfl) (Nat.le_of_ble_eq_true rfl) rfl rfl hW hS (fun _ _ => rfl) (fun d hd => (hm1 d).trans hd) trivial dL_stick_6
set_option maxHeartbeats 4000000 in
set_option maxRecDepth 100000 in
theorem uL_stick (l : Launch) (hl0 : l.stackTraces = false) (Γ : zG) (lo : zId → Nat) (S : zSt) (X : va_W) {i_1 : Int32} {i_2 : Int32} (v_z : zV S (10, 0, 0) = true) {ee : Nat × zSt} (hf : fX9_stick S i_1 i_2 = some (Sum.inl ee)) (hn : ee.1 = 1 ∨ ee.1 = 3) : Met l yL_stick wsL_stick rmL_stick (zPL Γ lo S X [.ref (lo (10, 0, 0)), .int i_1, .int i_2]) (zQn Γ lo S ee.2 X (fun _ => some (.int (exC ee.1))) (fun _ => True)) 1 6 (zA Γ) := by
  refine va_MetW (cc := cL_stick) (maxL := 4) (ret := (some .int)) (hh := [(0, 6, 7, 23), (0, 6, 11, 16)]) (by decide) rfl ?_
  intro p e s m args below meth c s₁ B hml hv
  obtain ⟨rfl, hW, hKK, hKX, hKY, hKN⟩ := hv
  have hx := B.exec
  have hb := B.bytes
  have hr := B.returns
  have hts := atoms_spec (ws := wsL_stick) B.pre
  have ht : c.exceptionTable.toList = tableOf [(0, 6, 7, 23), (0, 6, 11, 16)] := vx_table (x := yL_stick) B (hts _ (List.mem_of_getElem? (i := 0) rfl))
  have hown : s.vm.findClass RL = some m.cls := findClass_of_methodNamed B.named
  have hlocks := B.notSynchronized
  have hS : va_S (zA Γ) s.heap s.heap [] := va_S.rf
  have hl := lv_entry ([.ref (lo (10, 0, 0)), .int i_1, .int i_2]) (n := 4) (Nat.le_of_ble_eq_true rfl)
  rw [lg_entry_eq]
  generalize (lg_sl ([.ref (lo (10, 0, 0)), .int i_1, .int i_2]) ++ List.replicate (4 - (lg_sl ([.ref (lo (10, 0, 0)), .int i_1, .int i_2])).length) Slot.unset).toArray = ls at hl ⊢
  have hl : lv_has ls 4 [(0, .ref (lo (10, 0, 0))), (1, .int i_1), (2, .int i_2)] := hl
  generalize ([.ref (lo (10, 0, 0)), .int i_1, .int i_2] : List Value).toArray = args at hts ⊢
  obtain ⟨H, hH0⟩ : ∃ H, H = s.heap := ⟨_, rfl⟩
  obtain ⟨locs, hlo0⟩ : ∃ L : List Loc, L = [] := ⟨_, rfl⟩
  have hS : va_S (zA Γ) s.heap H locs := by rw [hH0, hlo0]; exact hS
  have hW : Wd Γ lo S X H := by rw [hH0]; exact hW
  rw [← hH0, ← hlo0]
  refine lv_aload_n hx hb dL_stick_0 rfl (lv_at hl 0 rfl) ?_
  refine lv_iload_n hx hb dL_stick_1 rfl (lv_at hl 1 rfl) ?_
  refine lv_iload_n hx hb dL_stick_2 rfl (lv_at hl 2 rfl) ?_
  refine l_thr (rest := []) (vx_runV (As := [.int i_1, .int i_2]) ⟨hx, hb, hml, hown, hts⟩ (uX9_stick l hl0 Γ lo S X v_z hf) (cwV 2 hts gL_stick_X9_stick rfl rfl rfl (by decide +kernel) ⟨Nat.le_of_ble_eq_true rfl, Nat.le_of_ble_eq_true rfl⟩) ⟨fun _ _ _ _ q => q, va_recv (q0 := 0) hKK.1 (wd_1 hW v_z) rfl rfl, fun _ hU hW1 => ⟨rfl, by rw [hU]; exact hW, hKK.go hS hU hW1, hKX.go hW1⟩⟩ rfl rfl hl.1 rfl (lv_room (Nat.le_of_ble_eq_true rfl)) dL_stick_3 ⟨Nat.le_of_ble_eq_true rfl, Nat.le_of_ble_eq_true rfl⟩) hS (fun q H locs ce hW hS hm1 hce hcv hcl => ?_)
  obtain ⟨en, eS⟩ := ee
  dsimp only at hn hW hm1 hcl ⊢
  rcases hn with rfl | rfl
  · refine vx_catch (own := RL) (name := "java/lang/IndexOutOfBoundsException") hown [] ⟨0, 6, 7, 23⟩ [⟨0, 6, 11, 16⟩] ht (fun z hz => by cases hz) rfl (Nat.succ_ne_zero _) (hts (.classLink RL 23 "java/lang/IndexOutOfBoundsException") (List.mem_of_getElem? (i := 1) rfl)) (va_Nw.use rfl (hKX.2.2 1)) hce hcv hcl ?_
    refine lv_astore_n (lv' := [(3, .ref q), (0, .ref (lo (10, 0, 0))), (1, .int i_1), (2, .int i_2)]) hx hb dL_stick_7 rfl hl (by decide) rfl (fun ls hl => ?_)
    refine lv_ldc hx hb hown (hts (.constant RL 25 (-2000000001)) (List.mem_of_getElem? (i := 3) rfl)) dL_stick_8 ?_
    exact n_iret hx hb hr hlocks (Nat.le_of_ble_eq_true rfl) (Nat.le_of_ble_eq_true rfl) rfl (congrArg (fun z => some (Value.int z)) (show exC 1 = -2000000001 by decide)) hW hS (fun _ _ => rfl) (fun d hd => (hm1 d).trans hd) trivial dL_stick_10
  · refine vx_catch (own := RL) (name := "java/lang/IllegalStateException") hown [⟨0, 6, 7, 23⟩] ⟨0, 6, 11, 16⟩ [] ht (fun z hz => by cases hz with | head => exact Or.inr ⟨Nat.succ_ne_zero _, _, (hts (.classLink RL 23 "java/lang/IndexOutOfBoundsException") (List.mem_of_getElem? (i := 1) rfl)), hKN _ (List.mem_of_getElem? (i := 1) rfl)⟩ | tail _ hz => cases hz) rfl (Nat.succ_ne_zero _) (hts (.classLink RL 16 "java/lang/IllegalStateException") (List.mem_of_getElem? (i := 2) rfl)) (va_Nw.use rfl (hKX.2.2 3)) hce hcv hcl ?_
    refine lv_astore_n (lv' := [(3, .ref q), (0, .ref (lo (10, 0, 0))), (1, .int i_1), (2, .int i_2)]) hx hb dL_stick_11 rfl hl (by decide) rfl (fun ls hl => ?_)
    refine lv_ldc hx hb hown (hts (.constant RL 18 (-2000000003)) (List.mem_of_getElem? (i := 4) rfl)) dL_stick_12 ?_
    exact n_iret hx hb hr hlocks (Nat.le_of_ble_eq_true rfl) (Nat.le_of_ble_eq_true rfl) rfl (congrArg (fun z => some (Value.int z)) (show exC 3 = -2000000003 by decide)) hW hS (fun _ _ => rfl) (fun d hd => (hm1 d).trans hd) trivial dL_stick_14

abbrev rmL_sticks : Room := { frames := 8, cells := 1, slots := 6, locals := 125 }
set_option maxHeartbeats 4000000 in
set_option maxRecDepth 100000 in
theorem tL_sticks (l : Launch) (Γ : zG) (lo : zId → Nat) (S : zSt) (X : va_W) {i_1 : Int32} {i_2 : Int32} (v_z : zV S (10, 0, 0) = true) {y : Int32} (hf : fX9_sticks S i_1 i_2 = some (Sum.inr y)) : Met l yL_sticks wsL_sticks rmL_sticks (zPL Γ lo S X [.ref (lo (10, 0, 0)), .int i_1, .int i_2]) (zQn Γ lo S S X (fun _ => some (.int (if y = 0 then 0 else 1))) (fun _ => True)) 1 6 (zA Γ) := by
  refine va_MetW (cc := cL_sticks) (maxL := 4) (ret := (some .int)) (hh := [(0, 14, 15, 23)]) (by decide) rfl ?_
  intro p e s m args below meth c s₁ B hml hv
  obtain ⟨rfl, hW, hKK, hKX, hKY, hKN⟩ := hv
  have hx := B.exec
  have hb := B.bytes
  have hr := B.returns
  have hts := atoms_spec (ws := wsL_sticks) B.pre
  have ht : c.exceptionTable.toList = tableOf [(0, 14, 15, 23)] := vx_table (x := yL_sticks) B (hts _ (List.mem_of_getElem? (i := 0) rfl))
  have hown : s.vm.findClass RL = some m.cls := findClass_of_methodNamed B.named
  have hlocks := B.notSynchronized
  have hS : va_S (zA Γ) s.heap s.heap [] := va_S.rf
  have hl := lv_entry ([.ref (lo (10, 0, 0)), .int i_1, .int i_2]) (n := 4) (Nat.le_of_ble_eq_true rfl)
  rw [lg_entry_eq]
  generalize (lg_sl ([.ref (lo (10, 0, 0)), .int i_1, .int i_2]) ++ List.replicate (4 - (lg_sl ([.ref (lo (10, 0, 0)), .int i_1, .int i_2])).length) Slot.unset).toArray = ls at hl ⊢
  have hl : lv_has ls 4 [(0, .ref (lo (10, 0, 0))), (1, .int i_1), (2, .int i_2)] := hl
  generalize ([.ref (lo (10, 0, 0)), .int i_1, .int i_2] : List Value).toArray = args at hts ⊢
  obtain ⟨H, hH0⟩ : ∃ H, H = s.heap := ⟨_, rfl⟩
  obtain ⟨locs, hlo0⟩ : ∃ L : List Loc, L = [] := ⟨_, rfl⟩
  have hS : va_S (zA Γ) s.heap H locs := by rw [hH0, hlo0]; exact hS
  have hW : Wd Γ lo S X H := by rw [hH0]; exact hW
  rw [← hH0, ← hlo0]
  refine lv_aload_n hx hb dL_sticks_0 rfl (lv_at hl 0 rfl) ?_
  refine lv_iload_n hx hb dL_sticks_1 rfl (lv_at hl 1 rfl) ?_
  refine lv_iload_n hx hb dL_sticks_2 rfl (lv_at hl 2 rfl) ?_
  refine z_callV (As := [.int i_1, .int i_2]) (rest := []) ⟨hx, hb, hml, hown, hts⟩ (tX9_sticks l Γ lo S X v_z hf) (cwV 2 hts gL_sticks_X9_sticks rfl rfl rfl (by decide +kernel) ⟨Nat.le_of_ble_eq_true rfl, Nat.le_of_ble_eq_true rfl⟩) (wd_1 hW v_z) rfl hKK hW hS rfl hl.1 rfl (Nat.le_of_ble_eq_true rfl) dL_sticks_3 ⟨Nat.zero_le _, Nat.zero_le _⟩ (fun H locs hW hS hm1 hE => ?_)
  refine lv_if_eq (tgt := 13) hx hb dL_sticks_6 (by decide) (fun k => ?_) (fun k => ?_)
  · rw [if_pos k]
    refine lv_iconst (v := (0)) hx hb dL_sticks_13 (by decide) ?_
    exact n_iret hx hb hr hlocks (Nat.le_of_ble_eq_true rfl) (Nat.le_of_ble_eq_true rfl) rfl rfl hW hS (fun _ _ => rfl) (fun d hd => (hm1 d).trans hd) trivial dL_sticks_14
  · rw [if_neg k]
    refine lv_iconst (v := (1)) hx hb dL_sticks_9 (by decide) ?_
    refine lv_goto (tgt := 14) hx hb dL_sticks_10 (by decide) ?_
    exact n_iret hx hb hr hlocks (Nat.le_of_ble_eq_true rfl) (Nat.le_of_ble_eq_true rfl) rfl rfl hW hS (fun _ _ => rfl) (fun d hd => (hm1 d).trans hd) trivial dL_sticks_14
set_option maxHeartbeats 4000000 in
set_option maxRecDepth 100000 in
theorem uL_sticks (l : Launch) (hl0 : l.stackTraces = false) (Γ : zG) (lo : zId → Nat) (S : zSt) (X : va_W) {i_1 : Int32} {i_2 : Int32} (v_z : zV S (10, 0, 0) = true) {ee : Nat × zSt} (hf : fX9_sticks S i_1 i_2 = some (Sum.inl ee)) (hn : ee.1 = 1) : Met l yL_sticks wsL_sticks rmL_sticks (zPL Γ lo S X [.ref (lo (10, 0, 0)), .int i_1, .int i_2]) (zQn Γ lo S ee.2 X (fun _ => some (.int (exC ee.1))) (fun _ => True)) 1 6 (zA Γ) := by
  refine va_MetW (cc := cL_sticks) (maxL := 4) (ret := (some .int)) (hh := [(0, 14, 15, 23)]) (by decide) rfl ?_
  intro p e s m args below meth c s₁ B hml hv
  obtain ⟨rfl, hW, hKK, hKX, hKY, hKN⟩ := hv
  have hx := B.exec
  have hb := B.bytes
  have hr := B.returns
  have hts := atoms_spec (ws := wsL_sticks) B.pre
  have ht : c.exceptionTable.toList = tableOf [(0, 14, 15, 23)] := vx_table (x := yL_sticks) B (hts _ (List.mem_of_getElem? (i := 0) rfl))
  have hown : s.vm.findClass RL = some m.cls := findClass_of_methodNamed B.named
  have hlocks := B.notSynchronized
  have hS : va_S (zA Γ) s.heap s.heap [] := va_S.rf
  have hl := lv_entry ([.ref (lo (10, 0, 0)), .int i_1, .int i_2]) (n := 4) (Nat.le_of_ble_eq_true rfl)
  rw [lg_entry_eq]
  generalize (lg_sl ([.ref (lo (10, 0, 0)), .int i_1, .int i_2]) ++ List.replicate (4 - (lg_sl ([.ref (lo (10, 0, 0)), .int i_1, .int i_2])).length) Slot.unset).toArray = ls at hl ⊢
  have hl : lv_has ls 4 [(0, .ref (lo (10, 0, 0))), (1, .int i_1), (2, .int i_2)] := hl
  generalize ([.ref (lo (10, 0, 0)), .int i_1, .int i_2] : List Value).toArray = args at hts ⊢
  obtain ⟨H, hH0⟩ : ∃ H, H = s.heap := ⟨_, rfl⟩
  obtain ⟨locs, hlo0⟩ : ∃ L : List Loc, L = [] := ⟨_, rfl⟩
  have hS : va_S (zA Γ) s.heap H locs := by rw [hH0, hlo0]; exact hS
  have hW : Wd Γ lo S X H := by rw [hH0]; exact hW
  rw [← hH0, ← hlo0]
  refine lv_aload_n hx hb dL_sticks_0 rfl (lv_at hl 0 rfl) ?_
  refine lv_iload_n hx hb dL_sticks_1 rfl (lv_at hl 1 rfl) ?_
  refine lv_iload_n hx hb dL_sticks_2 rfl (lv_at hl 2 rfl) ?_
  refine l_thr (rest := []) (vx_runV (As := [.int i_1, .int i_2]) ⟨hx, hb, hml, hown, hts⟩ (uX9_sticks l hl0 Γ lo S X v_z hf) (cwV 2 hts gL_sticks_X9_sticks rfl rfl rfl (by decide +kernel) ⟨Nat.le_of_ble_eq_true rfl, Nat.le_of_ble_eq_true rfl⟩) ⟨fun _ _ _ _ q => q, va_recv (q0 := 0) hKK.1 (wd_1 hW v_z) rfl rfl, fun _ hU hW1 => ⟨rfl, by rw [hU]; exact hW, hKK.go hS hU hW1, hKX.go hW1⟩⟩ rfl rfl hl.1 rfl (lv_room (Nat.le_of_ble_eq_true rfl)) dL_sticks_3 ⟨Nat.le_of_ble_eq_true rfl, Nat.le_of_ble_eq_true rfl⟩) hS (fun q H locs ce hW hS hm1 hce hcv hcl => ?_)
  obtain ⟨en, eS⟩ := ee
  dsimp only at hn hW hm1 hcl ⊢
  subst hn
  refine vx_catch (own := RL) (name := "java/lang/IndexOutOfBoundsException") hown [] ⟨0, 14, 15, 23⟩ [] ht (fun z hz => by cases hz) rfl (Nat.succ_ne_zero _) (hts (.classLink RL 23 "java/lang/IndexOutOfBoundsException") (List.mem_of_getElem? (i := 1) rfl)) (va_Nw.use rfl (hKX.2.2 1)) hce hcv hcl ?_
  refine lv_astore_n (lv' := [(3, .ref q), (0, .ref (lo (10, 0, 0))), (1, .int i_1), (2, .int i_2)]) hx hb dL_sticks_15 rfl hl (by decide) rfl (fun ls hl => ?_)
  refine lv_ldc hx hb hown (hts (.constant RL 25 (-2000000001)) (List.mem_of_getElem? (i := 2) rfl)) dL_sticks_16 ?_
  exact n_iret hx hb hr hlocks (Nat.le_of_ble_eq_true rfl) (Nat.le_of_ble_eq_true rfl) rfl (congrArg (fun z => some (Value.int z)) (show exC 1 = -2000000001 by decide)) hW hS (fun _ _ => rfl) (fun d hd => (hm1 d).trans hd) trivial dL_sticks_18

abbrev rmL_wear : Room := { frames := 8, cells := 1, slots := 6, locals := 125 }
set_option maxHeartbeats 4000000 in
set_option maxRecDepth 100000 in
theorem tL_wear (l : Launch) (Γ : zG) (lo : zId → Nat) (S : zSt) (X : va_W) {i_1 : Int32} {i_2 : Int32} (v_z : zV S (10, 0, 0) = true) {y : Int32} (hf : fX9_wear S i_1 i_2 = some (Sum.inr y)) : Met l yL_wear wsL_wear rmL_wear (zPL Γ lo S X [.ref (lo (10, 0, 0)), .int i_1, .int i_2]) (zQn Γ lo S S X (fun _ => some (.int y)) (fun _ => True)) 1 6 (zA Γ) := by
  refine va_MetW (cc := cL_wear) (maxL := 4) (ret := (some .int)) (hh := [(0, 6, 7, 23)]) (by decide) rfl ?_
  intro p e s m args below meth c s₁ B hml hv
  obtain ⟨rfl, hW, hKK, hKX, hKY, hKN⟩ := hv
  have hx := B.exec
  have hb := B.bytes
  have hr := B.returns
  have hts := atoms_spec (ws := wsL_wear) B.pre
  have ht : c.exceptionTable.toList = tableOf [(0, 6, 7, 23)] := vx_table (x := yL_wear) B (hts _ (List.mem_of_getElem? (i := 0) rfl))
  have hown : s.vm.findClass RL = some m.cls := findClass_of_methodNamed B.named
  have hlocks := B.notSynchronized
  have hS : va_S (zA Γ) s.heap s.heap [] := va_S.rf
  have hl := lv_entry ([.ref (lo (10, 0, 0)), .int i_1, .int i_2]) (n := 4) (Nat.le_of_ble_eq_true rfl)
  rw [lg_entry_eq]
  generalize (lg_sl ([.ref (lo (10, 0, 0)), .int i_1, .int i_2]) ++ List.replicate (4 - (lg_sl ([.ref (lo (10, 0, 0)), .int i_1, .int i_2])).length) Slot.unset).toArray = ls at hl ⊢
  have hl : lv_has ls 4 [(0, .ref (lo (10, 0, 0))), (1, .int i_1), (2, .int i_2)] := hl
  generalize ([.ref (lo (10, 0, 0)), .int i_1, .int i_2] : List Value).toArray = args at hts ⊢
  obtain ⟨H, hH0⟩ : ∃ H, H = s.heap := ⟨_, rfl⟩
  obtain ⟨locs, hlo0⟩ : ∃ L : List Loc, L = [] := ⟨_, rfl⟩
  have hS : va_S (zA Γ) s.heap H locs := by rw [hH0, hlo0]; exact hS
  have hW : Wd Γ lo S X H := by rw [hH0]; exact hW
  rw [← hH0, ← hlo0]
  refine lv_aload_n hx hb dL_wear_0 rfl (lv_at hl 0 rfl) ?_
  refine lv_iload_n hx hb dL_wear_1 rfl (lv_at hl 1 rfl) ?_
  refine lv_iload_n hx hb dL_wear_2 rfl (lv_at hl 2 rfl) ?_
  refine z_callV (As := [.int i_1, .int i_2]) (rest := []) ⟨hx, hb, hml, hown, hts⟩ (tX9_wear l Γ lo S X v_z hf) (cwV 2 hts gL_wear_X9_wear rfl rfl rfl (by decide +kernel) ⟨Nat.le_of_ble_eq_true rfl, Nat.le_of_ble_eq_true rfl⟩) (wd_1 hW v_z) rfl hKK hW hS rfl hl.1 rfl (Nat.le_of_ble_eq_true rfl) dL_wear_3 ⟨Nat.zero_le _, Nat.zero_le _⟩ (fun H locs hW hS hm1 hE => ?_)
  exact n_iret hx hb hr hlocks (Nat.le_of_ble_eq_true rfl) (Nat.le_of_ble_eq_true rfl) rfl rfl hW hS (fun _ _ => rfl) (fun d hd => (hm1 d).trans hd) trivial dL_wear_6
set_option maxHeartbeats 4000000 in
set_option maxRecDepth 100000 in
theorem uL_wear (l : Launch) (hl0 : l.stackTraces = false) (Γ : zG) (lo : zId → Nat) (S : zSt) (X : va_W) {i_1 : Int32} {i_2 : Int32} (v_z : zV S (10, 0, 0) = true) {ee : Nat × zSt} (hf : fX9_wear S i_1 i_2 = some (Sum.inl ee)) (hn : ee.1 = 1) : Met l yL_wear wsL_wear rmL_wear (zPL Γ lo S X [.ref (lo (10, 0, 0)), .int i_1, .int i_2]) (zQn Γ lo S ee.2 X (fun _ => some (.int (exC ee.1))) (fun _ => True)) 1 6 (zA Γ) := by
  refine va_MetW (cc := cL_wear) (maxL := 4) (ret := (some .int)) (hh := [(0, 6, 7, 23)]) (by decide) rfl ?_
  intro p e s m args below meth c s₁ B hml hv
  obtain ⟨rfl, hW, hKK, hKX, hKY, hKN⟩ := hv
  have hx := B.exec
  have hb := B.bytes
  have hr := B.returns
  have hts := atoms_spec (ws := wsL_wear) B.pre
  have ht : c.exceptionTable.toList = tableOf [(0, 6, 7, 23)] := vx_table (x := yL_wear) B (hts _ (List.mem_of_getElem? (i := 0) rfl))
  have hown : s.vm.findClass RL = some m.cls := findClass_of_methodNamed B.named
  have hlocks := B.notSynchronized
  have hS : va_S (zA Γ) s.heap s.heap [] := va_S.rf
  have hl := lv_entry ([.ref (lo (10, 0, 0)), .int i_1, .int i_2]) (n := 4) (Nat.le_of_ble_eq_true rfl)
  rw [lg_entry_eq]
  generalize (lg_sl ([.ref (lo (10, 0, 0)), .int i_1, .int i_2]) ++ List.replicate (4 - (lg_sl ([.ref (lo (10, 0, 0)), .int i_1, .int i_2])).length) Slot.unset).toArray = ls at hl ⊢
  have hl : lv_has ls 4 [(0, .ref (lo (10, 0, 0))), (1, .int i_1), (2, .int i_2)] := hl
  generalize ([.ref (lo (10, 0, 0)), .int i_1, .int i_2] : List Value).toArray = args at hts ⊢
  obtain ⟨H, hH0⟩ : ∃ H, H = s.heap := ⟨_, rfl⟩
  obtain ⟨locs, hlo0⟩ : ∃ L : List Loc, L = [] := ⟨_, rfl⟩
  have hS : va_S (zA Γ) s.heap H locs := by rw [hH0, hlo0]; exact hS
  have hW : Wd Γ lo S X H := by rw [hH0]; exact hW
  rw [← hH0, ← hlo0]
  refine lv_aload_n hx hb dL_wear_0 rfl (lv_at hl 0 rfl) ?_
  refine lv_iload_n hx hb dL_wear_1 rfl (lv_at hl 1 rfl) ?_
  refine lv_iload_n hx hb dL_wear_2 rfl (lv_at hl 2 rfl) ?_
  refine l_thr (rest := []) (vx_runV (As := [.int i_1, .int i_2]) ⟨hx, hb, hml, hown, hts⟩ (uX9_wear l hl0 Γ lo S X v_z hf) (cwV 2 hts gL_wear_X9_wear rfl rfl rfl (by decide +kernel) ⟨Nat.le_of_ble_eq_true rfl, Nat.le_of_ble_eq_true rfl⟩) ⟨fun _ _ _ _ q => q, va_recv (q0 := 0) hKK.1 (wd_1 hW v_z) rfl rfl, fun _ hU hW1 => ⟨rfl, by rw [hU]; exact hW, hKK.go hS hU hW1, hKX.go hW1⟩⟩ rfl rfl hl.1 rfl (lv_room (Nat.le_of_ble_eq_true rfl)) dL_wear_3 ⟨Nat.le_of_ble_eq_true rfl, Nat.le_of_ble_eq_true rfl⟩) hS (fun q H locs ce hW hS hm1 hce hcv hcl => ?_)
  obtain ⟨en, eS⟩ := ee
  dsimp only at hn hW hm1 hcl ⊢
  subst hn
  refine vx_catch (own := RL) (name := "java/lang/IndexOutOfBoundsException") hown [] ⟨0, 6, 7, 23⟩ [] ht (fun z hz => by cases hz) rfl (Nat.succ_ne_zero _) (hts (.classLink RL 23 "java/lang/IndexOutOfBoundsException") (List.mem_of_getElem? (i := 1) rfl)) (va_Nw.use rfl (hKX.2.2 1)) hce hcv hcl ?_
  refine lv_astore_n (lv' := [(3, .ref q), (0, .ref (lo (10, 0, 0))), (1, .int i_1), (2, .int i_2)]) hx hb dL_wear_7 rfl hl (by decide) rfl (fun ls hl => ?_)
  refine lv_ldc hx hb hown (hts (.constant RL 25 (-2000000001)) (List.mem_of_getElem? (i := 2) rfl)) dL_wear_8 ?_
  exact n_iret hx hb hr hlocks (Nat.le_of_ble_eq_true rfl) (Nat.le_of_ble_eq_true rfl) rfl (congrArg (fun z => some (Value.int z)) (show exC 1 = -2000000001 by decide)) hW hS (fun _ _ => rfl) (fun d hd => (hm1 d).trans hd) trivial dL_wear_10

abbrev rmL_coin : Room := { frames := 9, cells := 9, slots := 2614, locals := 343 }
set_option maxHeartbeats 4000000 in
set_option maxRecDepth 100000 in
theorem tL_coin (l : Launch) (Γ : zG) (lo : zId → Nat) (S : zSt) (X : va_W) {i_1 : Int32} (v_z : zV S (10, 0, 0) = true) {y : (Int32 × zSt)} (hf : fX9_coin S i_1 = some (Sum.inr y)) : Met l yL_coin wsL_coin rmL_coin (zPL Γ lo S X [.ref (lo (10, 0, 0)), .int i_1]) (zQn Γ lo S y.2 X (fun _ => some (.int y.1)) (fun _ => True)) 9 2614 (zA Γ) := by
  refine va_MetW (cc := cL_coin) (maxL := 3) (ret := (some .int)) (hh := [(0, 5, 6, 23), (0, 5, 10, 16)]) (by decide) rfl ?_
  intro p e s m args below meth c s₁ B hml hv
  obtain ⟨rfl, hW, hKK, hKX, hKY, hKN⟩ := hv
  have hx := B.exec
  have hb := B.bytes
  have hr := B.returns
  have hts := atoms_spec (ws := wsL_coin) B.pre
  have ht : c.exceptionTable.toList = tableOf [(0, 5, 6, 23), (0, 5, 10, 16)] := vx_table (x := yL_coin) B (hts _ (List.mem_of_getElem? (i := 0) rfl))
  have hown : s.vm.findClass RL = some m.cls := findClass_of_methodNamed B.named
  have hlocks := B.notSynchronized
  have hS : va_S (zA Γ) s.heap s.heap [] := va_S.rf
  have hl := lv_entry ([.ref (lo (10, 0, 0)), .int i_1]) (n := 3) (Nat.le_of_ble_eq_true rfl)
  rw [lg_entry_eq]
  generalize (lg_sl ([.ref (lo (10, 0, 0)), .int i_1]) ++ List.replicate (3 - (lg_sl ([.ref (lo (10, 0, 0)), .int i_1])).length) Slot.unset).toArray = ls at hl ⊢
  have hl : lv_has ls 3 [(0, .ref (lo (10, 0, 0))), (1, .int i_1)] := hl
  generalize ([.ref (lo (10, 0, 0)), .int i_1] : List Value).toArray = args at hts ⊢
  obtain ⟨H, hH0⟩ : ∃ H, H = s.heap := ⟨_, rfl⟩
  obtain ⟨locs, hlo0⟩ : ∃ L : List Loc, L = [] := ⟨_, rfl⟩
  have hS : va_S (zA Γ) s.heap H locs := by rw [hH0, hlo0]; exact hS
  have hW : Wd Γ lo S X H := by rw [hH0]; exact hW
  rw [← hH0, ← hlo0]
  refine lv_aload_n hx hb dL_coin_0 rfl (lv_at hl 0 rfl) ?_
  refine lv_iload_n hx hb dL_coin_1 rfl (lv_at hl 1 rfl) ?_
  refine n_callV (As := [.int i_1]) (rest := []) ⟨hx, hb, hml, hown, hts⟩ (tX9_coin l Γ lo S X v_z hf) (cwV 1 hts gL_coin_X9_coin rfl rfl rfl (by decide +kernel) ⟨Nat.le_of_ble_eq_true rfl, Nat.le_of_ble_eq_true rfl⟩) (wd_1 hW v_z) rfl hKK hKY hW hS rfl hl.1 rfl (Nat.le_of_ble_eq_true rfl) dL_coin_2 ⟨Nat.le_of_ble_eq_true rfl, Nat.le_of_ble_eq_true rfl⟩ (fun lo1 H locs hW hS h1 hmo hE => ?_)
  exact n_iret hx hb hr hlocks (Nat.le_of_ble_eq_true rfl) (Nat.le_of_ble_eq_true rfl) rfl rfl hW hS h1 hmo trivial dL_coin_5
set_option maxHeartbeats 4000000 in
set_option maxRecDepth 100000 in
theorem uL_coin (l : Launch) (hl0 : l.stackTraces = false) (Γ : zG) (lo : zId → Nat) (S : zSt) (X : va_W) {i_1 : Int32} (v_z : zV S (10, 0, 0) = true) {ee : Nat × zSt} (hf : fX9_coin S i_1 = some (Sum.inl ee)) (hn : ee.1 = 1 ∨ ee.1 = 3) : Met l yL_coin wsL_coin rmL_coin (zPL Γ lo S X [.ref (lo (10, 0, 0)), .int i_1]) (zQn Γ lo S ee.2 X (fun _ => some (.int (exC ee.1))) (fun _ => True)) 9 2614 (zA Γ) := by
  refine va_MetW (cc := cL_coin) (maxL := 3) (ret := (some .int)) (hh := [(0, 5, 6, 23), (0, 5, 10, 16)]) (by decide) rfl ?_
  intro p e s m args below meth c s₁ B hml hv
  obtain ⟨rfl, hW, hKK, hKX, hKY, hKN⟩ := hv
  have hx := B.exec
  have hb := B.bytes
  have hr := B.returns
  have hts := atoms_spec (ws := wsL_coin) B.pre
  have ht : c.exceptionTable.toList = tableOf [(0, 5, 6, 23), (0, 5, 10, 16)] := vx_table (x := yL_coin) B (hts _ (List.mem_of_getElem? (i := 0) rfl))
  have hown : s.vm.findClass RL = some m.cls := findClass_of_methodNamed B.named
  have hlocks := B.notSynchronized
  have hS : va_S (zA Γ) s.heap s.heap [] := va_S.rf
  have hl := lv_entry ([.ref (lo (10, 0, 0)), .int i_1]) (n := 3) (Nat.le_of_ble_eq_true rfl)
  rw [lg_entry_eq]
  generalize (lg_sl ([.ref (lo (10, 0, 0)), .int i_1]) ++ List.replicate (3 - (lg_sl ([.ref (lo (10, 0, 0)), .int i_1])).length) Slot.unset).toArray = ls at hl ⊢
  have hl : lv_has ls 3 [(0, .ref (lo (10, 0, 0))), (1, .int i_1)] := hl
  generalize ([.ref (lo (10, 0, 0)), .int i_1] : List Value).toArray = args at hts ⊢
  obtain ⟨H, hH0⟩ : ∃ H, H = s.heap := ⟨_, rfl⟩
  obtain ⟨locs, hlo0⟩ : ∃ L : List Loc, L = [] := ⟨_, rfl⟩
  have hS : va_S (zA Γ) s.heap H locs := by rw [hH0, hlo0]; exact hS
  have hW : Wd Γ lo S X H := by rw [hH0]; exact hW
  rw [← hH0, ← hlo0]
  refine lv_aload_n hx hb dL_coin_0 rfl (lv_at hl 0 rfl) ?_
  refine lv_iload_n hx hb dL_coin_1 rfl (lv_at hl 1 rfl) ?_
  refine l_thr (rest := []) (vx_runV (As := [.int i_1]) ⟨hx, hb, hml, hown, hts⟩ (uX9_coin l hl0 Γ lo S X v_z hf) (cwV 1 hts gL_coin_X9_coin rfl rfl rfl (by decide +kernel) ⟨Nat.le_of_ble_eq_true rfl, Nat.le_of_ble_eq_true rfl⟩) ⟨fun _ _ _ _ q => q, va_recv (q0 := 0) hKK.1 (wd_1 hW v_z) rfl rfl, fun _ hU hW1 => ⟨rfl, by rw [hU]; exact hW, hKK.go hS hU hW1, hKX.go hW1⟩⟩ rfl rfl hl.1 rfl (lv_room (Nat.le_of_ble_eq_true rfl)) dL_coin_2 ⟨Nat.le_of_ble_eq_true rfl, Nat.le_of_ble_eq_true rfl⟩) hS (fun q H locs ce hW hS hm1 hce hcv hcl => ?_)
  obtain ⟨en, eS⟩ := ee
  dsimp only at hn hW hm1 hcl ⊢
  rcases hn with rfl | rfl
  · refine vx_catch (own := RL) (name := "java/lang/IndexOutOfBoundsException") hown [] ⟨0, 5, 6, 23⟩ [⟨0, 5, 10, 16⟩] ht (fun z hz => by cases hz) rfl (Nat.succ_ne_zero _) (hts (.classLink RL 23 "java/lang/IndexOutOfBoundsException") (List.mem_of_getElem? (i := 1) rfl)) (va_Nw.use rfl (hKX.2.2 1)) hce hcv hcl ?_
    refine lv_astore_n (lv' := [(2, .ref q), (0, .ref (lo (10, 0, 0))), (1, .int i_1)]) hx hb dL_coin_6 rfl hl (by decide) rfl (fun ls hl => ?_)
    refine lv_ldc hx hb hown (hts (.constant RL 25 (-2000000001)) (List.mem_of_getElem? (i := 3) rfl)) dL_coin_7 ?_
    exact n_iret hx hb hr hlocks (Nat.le_of_ble_eq_true rfl) (Nat.le_of_ble_eq_true rfl) rfl (congrArg (fun z => some (Value.int z)) (show exC 1 = -2000000001 by decide)) hW hS (fun _ _ => rfl) (fun d hd => (hm1 d).trans hd) trivial dL_coin_9
  · refine vx_catch (own := RL) (name := "java/lang/IllegalStateException") hown [⟨0, 5, 6, 23⟩] ⟨0, 5, 10, 16⟩ [] ht (fun z hz => by cases hz with | head => exact Or.inr ⟨Nat.succ_ne_zero _, _, (hts (.classLink RL 23 "java/lang/IndexOutOfBoundsException") (List.mem_of_getElem? (i := 1) rfl)), hKN _ (List.mem_of_getElem? (i := 1) rfl)⟩ | tail _ hz => cases hz) rfl (Nat.succ_ne_zero _) (hts (.classLink RL 16 "java/lang/IllegalStateException") (List.mem_of_getElem? (i := 2) rfl)) (va_Nw.use rfl (hKX.2.2 3)) hce hcv hcl ?_
    refine lv_astore_n (lv' := [(2, .ref q), (0, .ref (lo (10, 0, 0))), (1, .int i_1)]) hx hb dL_coin_10 rfl hl (by decide) rfl (fun ls hl => ?_)
    refine lv_ldc hx hb hown (hts (.constant RL 18 (-2000000003)) (List.mem_of_getElem? (i := 4) rfl)) dL_coin_11 ?_
    exact n_iret hx hb hr hlocks (Nat.le_of_ble_eq_true rfl) (Nat.le_of_ble_eq_true rfl) rfl (congrArg (fun z => some (Value.int z)) (show exC 3 = -2000000003 by decide)) hW hS (fun _ _ => rfl) (fun d hd => (hm1 d).trans hd) trivial dL_coin_13

abbrev rmL_shoot : Room := { frames := 8, cells := 1, slots := 6, locals := 169 }
set_option maxHeartbeats 4000000 in
set_option maxRecDepth 100000 in
theorem tL_shoot (l : Launch) (Γ : zG) (lo : zId → Nat) (S : zSt) (X : va_W) {i_1 : Int32} {i_2 : Int32} {i_3 : Int32} {i_4 : Int32} (v_z : zV S (10, 0, 0) = true) {y : (Int32 × zSt)} (hf : fX9_shoot S i_1 i_2 i_3 i_4 = some (Sum.inr y)) : Met l yL_shoot wsL_shoot rmL_shoot (zPL Γ lo S X [.ref (lo (10, 0, 0)), .int i_1, .int i_2, .int i_3, .int i_4]) (zQn Γ lo S y.2 X (fun _ => some (.int y.1)) (fun _ => True)) 1 6 (zA Γ) := by
  refine va_MetW (cc := cL_shoot) (maxL := 6) (ret := (some .int)) (hh := [(0, 9, 10, 23), (0, 9, 15, 13), (0, 9, 20, 16)]) (by decide) rfl ?_
  intro p e s m args below meth c s₁ B hml hv
  obtain ⟨rfl, hW, hKK, hKX, hKY, hKN⟩ := hv
  have hx := B.exec
  have hb := B.bytes
  have hr := B.returns
  have hts := atoms_spec (ws := wsL_shoot) B.pre
  have ht : c.exceptionTable.toList = tableOf [(0, 9, 10, 23), (0, 9, 15, 13), (0, 9, 20, 16)] := vx_table (x := yL_shoot) B (hts _ (List.mem_of_getElem? (i := 0) rfl))
  have hown : s.vm.findClass RL = some m.cls := findClass_of_methodNamed B.named
  have hlocks := B.notSynchronized
  have hS : va_S (zA Γ) s.heap s.heap [] := va_S.rf
  have hl := lv_entry ([.ref (lo (10, 0, 0)), .int i_1, .int i_2, .int i_3, .int i_4]) (n := 6) (Nat.le_of_ble_eq_true rfl)
  rw [lg_entry_eq]
  generalize (lg_sl ([.ref (lo (10, 0, 0)), .int i_1, .int i_2, .int i_3, .int i_4]) ++ List.replicate (6 - (lg_sl ([.ref (lo (10, 0, 0)), .int i_1, .int i_2, .int i_3, .int i_4])).length) Slot.unset).toArray = ls at hl ⊢
  have hl : lv_has ls 6 [(0, .ref (lo (10, 0, 0))), (1, .int i_1), (2, .int i_2), (3, .int i_3), (4, .int i_4)] := hl
  generalize ([.ref (lo (10, 0, 0)), .int i_1, .int i_2, .int i_3, .int i_4] : List Value).toArray = args at hts ⊢
  obtain ⟨H, hH0⟩ : ∃ H, H = s.heap := ⟨_, rfl⟩
  obtain ⟨locs, hlo0⟩ : ∃ L : List Loc, L = [] := ⟨_, rfl⟩
  have hS : va_S (zA Γ) s.heap H locs := by rw [hH0, hlo0]; exact hS
  have hW : Wd Γ lo S X H := by rw [hH0]; exact hW
  rw [← hH0, ← hlo0]
  refine lv_aload_n hx hb dL_shoot_0 rfl (lv_at hl 0 rfl) ?_
  refine lv_iload_n hx hb dL_shoot_1 rfl (lv_at hl 1 rfl) ?_
  refine lv_iload_n hx hb dL_shoot_2 rfl (lv_at hl 2 rfl) ?_
  refine lv_iload_n hx hb dL_shoot_3 rfl (lv_at hl 3 rfl) ?_
  refine lv_iload hx hb dL_shoot_4 (lv_at hl 4 rfl) ?_
  refine n_callV (As := [.int i_1, .int i_2, .int i_3, .int i_4]) (rest := []) ⟨hx, hb, hml, hown, hts⟩ (tX9_shoot l Γ lo S X v_z hf) (cwV 4 hts gL_shoot_X9_shoot rfl rfl rfl (by decide +kernel) ⟨Nat.le_of_ble_eq_true rfl, Nat.le_of_ble_eq_true rfl⟩) (wd_1 hW v_z) rfl hKK hKY hW hS rfl hl.1 rfl (Nat.le_of_ble_eq_true rfl) dL_shoot_6 ⟨Nat.le_of_ble_eq_true rfl, Nat.le_of_ble_eq_true rfl⟩ (fun lo1 H locs hW hS h1 hmo hE => ?_)
  exact n_iret hx hb hr hlocks (Nat.le_of_ble_eq_true rfl) (Nat.le_of_ble_eq_true rfl) rfl rfl hW hS h1 hmo trivial dL_shoot_9
set_option maxHeartbeats 4000000 in
set_option maxRecDepth 100000 in
theorem uL_shoot (l : Launch) (hl0 : l.stackTraces = false) (Γ : zG) (lo : zId → Nat) (S : zSt) (X : va_W) {i_1 : Int32} {i_2 : Int32} {i_3 : Int32} {i_4 : Int32} (v_z : zV S (10, 0, 0) = true) {ee : Nat × zSt} (hf : fX9_shoot S i_1 i_2 i_3 i_4 = some (Sum.inl ee)) (hn : ee.1 = 1 ∨ ee.1 = 2 ∨ ee.1 = 3) : Met l yL_shoot wsL_shoot rmL_shoot (zPL Γ lo S X [.ref (lo (10, 0, 0)), .int i_1, .int i_2, .int i_3, .int i_4]) (zQn Γ lo S ee.2 X (fun _ => some (.int (exC ee.1))) (fun _ => True)) 1 6 (zA Γ) := by
  refine va_MetW (cc := cL_shoot) (maxL := 6) (ret := (some .int)) (hh := [(0, 9, 10, 23), (0, 9, 15, 13), (0, 9, 20, 16)]) (by decide) rfl ?_
  intro p e s m args below meth c s₁ B hml hv
  obtain ⟨rfl, hW, hKK, hKX, hKY, hKN⟩ := hv
  have hx := B.exec
  have hb := B.bytes
  have hr := B.returns
  have hts := atoms_spec (ws := wsL_shoot) B.pre
  have ht : c.exceptionTable.toList = tableOf [(0, 9, 10, 23), (0, 9, 15, 13), (0, 9, 20, 16)] := vx_table (x := yL_shoot) B (hts _ (List.mem_of_getElem? (i := 0) rfl))
  have hown : s.vm.findClass RL = some m.cls := findClass_of_methodNamed B.named
  have hlocks := B.notSynchronized
  have hS : va_S (zA Γ) s.heap s.heap [] := va_S.rf
  have hl := lv_entry ([.ref (lo (10, 0, 0)), .int i_1, .int i_2, .int i_3, .int i_4]) (n := 6) (Nat.le_of_ble_eq_true rfl)
  rw [lg_entry_eq]
  generalize (lg_sl ([.ref (lo (10, 0, 0)), .int i_1, .int i_2, .int i_3, .int i_4]) ++ List.replicate (6 - (lg_sl ([.ref (lo (10, 0, 0)), .int i_1, .int i_2, .int i_3, .int i_4])).length) Slot.unset).toArray = ls at hl ⊢
  have hl : lv_has ls 6 [(0, .ref (lo (10, 0, 0))), (1, .int i_1), (2, .int i_2), (3, .int i_3), (4, .int i_4)] := hl
  generalize ([.ref (lo (10, 0, 0)), .int i_1, .int i_2, .int i_3, .int i_4] : List Value).toArray = args at hts ⊢
  obtain ⟨H, hH0⟩ : ∃ H, H = s.heap := ⟨_, rfl⟩
  obtain ⟨locs, hlo0⟩ : ∃ L : List Loc, L = [] := ⟨_, rfl⟩
  have hS : va_S (zA Γ) s.heap H locs := by rw [hH0, hlo0]; exact hS
  have hW : Wd Γ lo S X H := by rw [hH0]; exact hW
  rw [← hH0, ← hlo0]
  refine lv_aload_n hx hb dL_shoot_0 rfl (lv_at hl 0 rfl) ?_
  refine lv_iload_n hx hb dL_shoot_1 rfl (lv_at hl 1 rfl) ?_
  refine lv_iload_n hx hb dL_shoot_2 rfl (lv_at hl 2 rfl) ?_
  refine lv_iload_n hx hb dL_shoot_3 rfl (lv_at hl 3 rfl) ?_
  refine lv_iload hx hb dL_shoot_4 (lv_at hl 4 rfl) ?_
  refine l_thr (rest := []) (vx_runV (As := [.int i_1, .int i_2, .int i_3, .int i_4]) ⟨hx, hb, hml, hown, hts⟩ (uX9_shoot l hl0 Γ lo S X v_z hf) (cwV 4 hts gL_shoot_X9_shoot rfl rfl rfl (by decide +kernel) ⟨Nat.le_of_ble_eq_true rfl, Nat.le_of_ble_eq_true rfl⟩) ⟨fun _ _ _ _ q => q, va_recv (q0 := 0) hKK.1 (wd_1 hW v_z) rfl rfl, fun _ hU hW1 => ⟨rfl, by rw [hU]; exact hW, hKK.go hS hU hW1, hKX.go hW1⟩⟩ rfl rfl hl.1 rfl (lv_room (Nat.le_of_ble_eq_true rfl)) dL_shoot_6 ⟨Nat.le_of_ble_eq_true rfl, Nat.le_of_ble_eq_true rfl⟩) hS (fun q H locs ce hW hS hm1 hce hcv hcl => ?_)
  obtain ⟨en, eS⟩ := ee
  dsimp only at hn hW hm1 hcl ⊢
  rcases hn with rfl | rfl | rfl
  · refine vx_catch (own := RL) (name := "java/lang/IndexOutOfBoundsException") hown [] ⟨0, 9, 10, 23⟩ [⟨0, 9, 15, 13⟩, ⟨0, 9, 20, 16⟩] ht (fun z hz => by cases hz) rfl (Nat.succ_ne_zero _) (hts (.classLink RL 23 "java/lang/IndexOutOfBoundsException") (List.mem_of_getElem? (i := 1) rfl)) (va_Nw.use rfl (hKX.2.2 1)) hce hcv hcl ?_
    refine lv_astore (lv' := [(5, .ref q), (0, .ref (lo (10, 0, 0))), (1, .int i_1), (2, .int i_2), (3, .int i_3), (4, .int i_4)]) hx hb dL_shoot_10 hl (by decide) rfl (fun ls hl => ?_)
    refine lv_ldc hx hb hown (hts (.constant RL 25 (-2000000001)) (List.mem_of_getElem? (i := 4) rfl)) dL_shoot_12 ?_
    exact n_iret hx hb hr hlocks (Nat.le_of_ble_eq_true rfl) (Nat.le_of_ble_eq_true rfl) rfl (congrArg (fun z => some (Value.int z)) (show exC 1 = -2000000001 by decide)) hW hS (fun _ _ => rfl) (fun d hd => (hm1 d).trans hd) trivial dL_shoot_14
  · refine vx_catch (own := RL) (name := "java/lang/IllegalArgumentException") hown [⟨0, 9, 10, 23⟩] ⟨0, 9, 15, 13⟩ [⟨0, 9, 20, 16⟩] ht (fun z hz => by cases hz with | head => exact Or.inr ⟨Nat.succ_ne_zero _, _, (hts (.classLink RL 23 "java/lang/IndexOutOfBoundsException") (List.mem_of_getElem? (i := 1) rfl)), hKN _ (List.mem_of_getElem? (i := 0) rfl)⟩ | tail _ hz => cases hz) rfl (Nat.succ_ne_zero _) (hts (.classLink RL 13 "java/lang/IllegalArgumentException") (List.mem_of_getElem? (i := 2) rfl)) (va_Nw.use rfl (hKX.2.2 2)) hce hcv hcl ?_
    refine lv_astore (lv' := [(5, .ref q), (0, .ref (lo (10, 0, 0))), (1, .int i_1), (2, .int i_2), (3, .int i_3), (4, .int i_4)]) hx hb dL_shoot_15 hl (by decide) rfl (fun ls hl => ?_)
    refine lv_ldc hx hb hown (hts (.constant RL 15 (-2000000002)) (List.mem_of_getElem? (i := 5) rfl)) dL_shoot_17 ?_
    exact n_iret hx hb hr hlocks (Nat.le_of_ble_eq_true rfl) (Nat.le_of_ble_eq_true rfl) rfl (congrArg (fun z => some (Value.int z)) (show exC 2 = -2000000002 by decide)) hW hS (fun _ _ => rfl) (fun d hd => (hm1 d).trans hd) trivial dL_shoot_19
  · refine vx_catch (own := RL) (name := "java/lang/IllegalStateException") hown [⟨0, 9, 10, 23⟩, ⟨0, 9, 15, 13⟩] ⟨0, 9, 20, 16⟩ [] ht (fun z hz => by cases hz with | head => exact Or.inr ⟨Nat.succ_ne_zero _, _, (hts (.classLink RL 23 "java/lang/IndexOutOfBoundsException") (List.mem_of_getElem? (i := 1) rfl)), hKN _ (List.mem_of_getElem? (i := 1) rfl)⟩ | tail _ hz => cases hz with | head => exact Or.inr ⟨Nat.succ_ne_zero _, _, (hts (.classLink RL 13 "java/lang/IllegalArgumentException") (List.mem_of_getElem? (i := 2) rfl)), hKN _ (List.mem_of_getElem? (i := 2) rfl)⟩ | tail _ hz => cases hz) rfl (Nat.succ_ne_zero _) (hts (.classLink RL 16 "java/lang/IllegalStateException") (List.mem_of_getElem? (i := 3) rfl)) (va_Nw.use rfl (hKX.2.2 3)) hce hcv hcl ?_
    refine lv_astore (lv' := [(5, .ref q), (0, .ref (lo (10, 0, 0))), (1, .int i_1), (2, .int i_2), (3, .int i_3), (4, .int i_4)]) hx hb dL_shoot_20 hl (by decide) rfl (fun ls hl => ?_)
    refine lv_ldc hx hb hown (hts (.constant RL 18 (-2000000003)) (List.mem_of_getElem? (i := 6) rfl)) dL_shoot_22 ?_
    exact n_iret hx hb hr hlocks (Nat.le_of_ble_eq_true rfl) (Nat.le_of_ble_eq_true rfl) rfl (congrArg (fun z => some (Value.int z)) (show exC 3 = -2000000003 by decide)) hW hS (fun _ _ => rfl) (fun d hd => (hm1 d).trans hd) trivial dL_shoot_24

abbrev rmL_gameAt : Room := { frames := 8, cells := 1, slots := 6, locals := 124 }
set_option maxHeartbeats 4000000 in
set_option maxRecDepth 100000 in
theorem tL_gameAt (l : Launch) (Γ : zG) (lo : zId → Nat) (S : zSt) (X : va_W) {i_1 : Int32} (v_z : zV S (10, 0, 0) = true) {y : Int32} (hf : fX9_gameAt S i_1 = some (Sum.inr y)) : Met l yL_gameAt wsL_gameAt rmL_gameAt (zPL Γ lo S X [.ref (lo (10, 0, 0)), .int i_1]) (zQn Γ lo S S X (fun _ => some (.int y)) (fun _ => True)) 1 6 (zA Γ) := by
  refine va_MetW (cc := cL_gameAt) (maxL := 3) (ret := (some .int)) (hh := [(0, 5, 6, 23)]) (by decide) rfl ?_
  intro p e s m args below meth c s₁ B hml hv
  obtain ⟨rfl, hW, hKK, hKX, hKY, hKN⟩ := hv
  have hx := B.exec
  have hb := B.bytes
  have hr := B.returns
  have hts := atoms_spec (ws := wsL_gameAt) B.pre
  have ht : c.exceptionTable.toList = tableOf [(0, 5, 6, 23)] := vx_table (x := yL_gameAt) B (hts _ (List.mem_of_getElem? (i := 0) rfl))
  have hown : s.vm.findClass RL = some m.cls := findClass_of_methodNamed B.named
  have hlocks := B.notSynchronized
  have hS : va_S (zA Γ) s.heap s.heap [] := va_S.rf
  have hl := lv_entry ([.ref (lo (10, 0, 0)), .int i_1]) (n := 3) (Nat.le_of_ble_eq_true rfl)
  rw [lg_entry_eq]
  generalize (lg_sl ([.ref (lo (10, 0, 0)), .int i_1]) ++ List.replicate (3 - (lg_sl ([.ref (lo (10, 0, 0)), .int i_1])).length) Slot.unset).toArray = ls at hl ⊢
  have hl : lv_has ls 3 [(0, .ref (lo (10, 0, 0))), (1, .int i_1)] := hl
  generalize ([.ref (lo (10, 0, 0)), .int i_1] : List Value).toArray = args at hts ⊢
  obtain ⟨H, hH0⟩ : ∃ H, H = s.heap := ⟨_, rfl⟩
  obtain ⟨locs, hlo0⟩ : ∃ L : List Loc, L = [] := ⟨_, rfl⟩
  have hS : va_S (zA Γ) s.heap H locs := by rw [hH0, hlo0]; exact hS
  have hW : Wd Γ lo S X H := by rw [hH0]; exact hW
  rw [← hH0, ← hlo0]
  refine lv_aload_n hx hb dL_gameAt_0 rfl (lv_at hl 0 rfl) ?_
  refine lv_iload_n hx hb dL_gameAt_1 rfl (lv_at hl 1 rfl) ?_
  refine z_callV (As := [.int i_1]) (rest := []) ⟨hx, hb, hml, hown, hts⟩ (tX9_gameAt l Γ lo S X v_z hf) (cwV 1 hts gL_gameAt_X9_gameAt rfl rfl rfl (by decide +kernel) ⟨Nat.le_of_ble_eq_true rfl, Nat.le_of_ble_eq_true rfl⟩) (wd_1 hW v_z) rfl hKK hW hS rfl hl.1 rfl (Nat.le_of_ble_eq_true rfl) dL_gameAt_2 ⟨Nat.zero_le _, Nat.zero_le _⟩ (fun H locs hW hS hm1 hE => ?_)
  exact n_iret hx hb hr hlocks (Nat.le_of_ble_eq_true rfl) (Nat.le_of_ble_eq_true rfl) rfl rfl hW hS (fun _ _ => rfl) (fun d hd => (hm1 d).trans hd) trivial dL_gameAt_5
set_option maxHeartbeats 4000000 in
set_option maxRecDepth 100000 in
theorem uL_gameAt (l : Launch) (hl0 : l.stackTraces = false) (Γ : zG) (lo : zId → Nat) (S : zSt) (X : va_W) {i_1 : Int32} (v_z : zV S (10, 0, 0) = true) {ee : Nat × zSt} (hf : fX9_gameAt S i_1 = some (Sum.inl ee)) (hn : ee.1 = 1) : Met l yL_gameAt wsL_gameAt rmL_gameAt (zPL Γ lo S X [.ref (lo (10, 0, 0)), .int i_1]) (zQn Γ lo S ee.2 X (fun _ => some (.int (exC ee.1))) (fun _ => True)) 1 6 (zA Γ) := by
  refine va_MetW (cc := cL_gameAt) (maxL := 3) (ret := (some .int)) (hh := [(0, 5, 6, 23)]) (by decide) rfl ?_
  intro p e s m args below meth c s₁ B hml hv
  obtain ⟨rfl, hW, hKK, hKX, hKY, hKN⟩ := hv
  have hx := B.exec
  have hb := B.bytes
  have hr := B.returns
  have hts := atoms_spec (ws := wsL_gameAt) B.pre
  have ht : c.exceptionTable.toList = tableOf [(0, 5, 6, 23)] := vx_table (x := yL_gameAt) B (hts _ (List.mem_of_getElem? (i := 0) rfl))
  have hown : s.vm.findClass RL = some m.cls := findClass_of_methodNamed B.named
  have hlocks := B.notSynchronized
  have hS : va_S (zA Γ) s.heap s.heap [] := va_S.rf
  have hl := lv_entry ([.ref (lo (10, 0, 0)), .int i_1]) (n := 3) (Nat.le_of_ble_eq_true rfl)
  rw [lg_entry_eq]
  generalize (lg_sl ([.ref (lo (10, 0, 0)), .int i_1]) ++ List.replicate (3 - (lg_sl ([.ref (lo (10, 0, 0)), .int i_1])).length) Slot.unset).toArray = ls at hl ⊢
  have hl : lv_has ls 3 [(0, .ref (lo (10, 0, 0))), (1, .int i_1)] := hl
  generalize ([.ref (lo (10, 0, 0)), .int i_1] : List Value).toArray = args at hts ⊢
  obtain ⟨H, hH0⟩ : ∃ H, H = s.heap := ⟨_, rfl⟩
  obtain ⟨locs, hlo0⟩ : ∃ L : List Loc, L = [] := ⟨_, rfl⟩
  have hS : va_S (zA Γ) s.heap H locs := by rw [hH0, hlo0]; exact hS
  have hW : Wd Γ lo S X H := by rw [hH0]; exact hW
  rw [← hH0, ← hlo0]
  refine lv_aload_n hx hb dL_gameAt_0 rfl (lv_at hl 0 rfl) ?_
  refine lv_iload_n hx hb dL_gameAt_1 rfl (lv_at hl 1 rfl) ?_
  refine l_thr (rest := []) (vx_runV (As := [.int i_1]) ⟨hx, hb, hml, hown, hts⟩ (uX9_gameAt l hl0 Γ lo S X v_z hf) (cwV 1 hts gL_gameAt_X9_gameAt rfl rfl rfl (by decide +kernel) ⟨Nat.le_of_ble_eq_true rfl, Nat.le_of_ble_eq_true rfl⟩) ⟨fun _ _ _ _ q => q, va_recv (q0 := 0) hKK.1 (wd_1 hW v_z) rfl rfl, fun _ hU hW1 => ⟨rfl, by rw [hU]; exact hW, hKK.go hS hU hW1, hKX.go hW1⟩⟩ rfl rfl hl.1 rfl (lv_room (Nat.le_of_ble_eq_true rfl)) dL_gameAt_2 ⟨Nat.le_of_ble_eq_true rfl, Nat.le_of_ble_eq_true rfl⟩) hS (fun q H locs ce hW hS hm1 hce hcv hcl => ?_)
  obtain ⟨en, eS⟩ := ee
  dsimp only at hn hW hm1 hcl ⊢
  subst hn
  refine vx_catch (own := RL) (name := "java/lang/IndexOutOfBoundsException") hown [] ⟨0, 5, 6, 23⟩ [] ht (fun z hz => by cases hz) rfl (Nat.succ_ne_zero _) (hts (.classLink RL 23 "java/lang/IndexOutOfBoundsException") (List.mem_of_getElem? (i := 1) rfl)) (va_Nw.use rfl (hKX.2.2 1)) hce hcv hcl ?_
  refine lv_astore_n (lv' := [(2, .ref q), (0, .ref (lo (10, 0, 0))), (1, .int i_1)]) hx hb dL_gameAt_6 rfl hl (by decide) rfl (fun ls hl => ?_)
  refine lv_ldc hx hb hown (hts (.constant RL 25 (-2000000001)) (List.mem_of_getElem? (i := 2) rfl)) dL_gameAt_7 ?_
  exact n_iret hx hb hr hlocks (Nat.le_of_ble_eq_true rfl) (Nat.le_of_ble_eq_true rfl) rfl (congrArg (fun z => some (Value.int z)) (show exC 1 = -2000000001 by decide)) hW hS (fun _ _ => rfl) (fun d hd => (hm1 d).trans hd) trivial dL_gameAt_9

abbrev rmL_balls : Room := { frames := 8, cells := 1, slots := 6, locals := 124 }
set_option maxHeartbeats 4000000 in
set_option maxRecDepth 100000 in
theorem tL_balls (l : Launch) (Γ : zG) (lo : zId → Nat) (S : zSt) (X : va_W) {i_1 : Int32} (v_z : zV S (10, 0, 0) = true) {y : Int32} (hf : fX9_ballsLeft S i_1 = some (Sum.inr y)) : Met l yL_balls wsL_balls rmL_balls (zPL Γ lo S X [.ref (lo (10, 0, 0)), .int i_1]) (zQn Γ lo S S X (fun _ => some (.int y)) (fun _ => True)) 1 6 (zA Γ) := by
  refine va_MetW (cc := cL_balls) (maxL := 3) (ret := (some .int)) (hh := [(0, 5, 6, 23)]) (by decide) rfl ?_
  intro p e s m args below meth c s₁ B hml hv
  obtain ⟨rfl, hW, hKK, hKX, hKY, hKN⟩ := hv
  have hx := B.exec
  have hb := B.bytes
  have hr := B.returns
  have hts := atoms_spec (ws := wsL_balls) B.pre
  have ht : c.exceptionTable.toList = tableOf [(0, 5, 6, 23)] := vx_table (x := yL_balls) B (hts _ (List.mem_of_getElem? (i := 0) rfl))
  have hown : s.vm.findClass RL = some m.cls := findClass_of_methodNamed B.named
  have hlocks := B.notSynchronized
  have hS : va_S (zA Γ) s.heap s.heap [] := va_S.rf
  have hl := lv_entry ([.ref (lo (10, 0, 0)), .int i_1]) (n := 3) (Nat.le_of_ble_eq_true rfl)
  rw [lg_entry_eq]
  generalize (lg_sl ([.ref (lo (10, 0, 0)), .int i_1]) ++ List.replicate (3 - (lg_sl ([.ref (lo (10, 0, 0)), .int i_1])).length) Slot.unset).toArray = ls at hl ⊢
  have hl : lv_has ls 3 [(0, .ref (lo (10, 0, 0))), (1, .int i_1)] := hl
  generalize ([.ref (lo (10, 0, 0)), .int i_1] : List Value).toArray = args at hts ⊢
  obtain ⟨H, hH0⟩ : ∃ H, H = s.heap := ⟨_, rfl⟩
  obtain ⟨locs, hlo0⟩ : ∃ L : List Loc, L = [] := ⟨_, rfl⟩
  have hS : va_S (zA Γ) s.heap H locs := by rw [hH0, hlo0]; exact hS
  have hW : Wd Γ lo S X H := by rw [hH0]; exact hW
  rw [← hH0, ← hlo0]
  refine lv_aload_n hx hb dL_balls_0 rfl (lv_at hl 0 rfl) ?_
  refine lv_iload_n hx hb dL_balls_1 rfl (lv_at hl 1 rfl) ?_
  refine z_callV (As := [.int i_1]) (rest := []) ⟨hx, hb, hml, hown, hts⟩ (tX9_ballsLeft l Γ lo S X v_z hf) (cwV 1 hts gL_balls_X9_ballsLeft rfl rfl rfl (by decide +kernel) ⟨Nat.le_of_ble_eq_true rfl, Nat.le_of_ble_eq_true rfl⟩) (wd_1 hW v_z) rfl hKK hW hS rfl hl.1 rfl (Nat.le_of_ble_eq_true rfl) dL_balls_2 ⟨Nat.zero_le _, Nat.zero_le _⟩ (fun H locs hW hS hm1 hE => ?_)
  exact n_iret hx hb hr hlocks (Nat.le_of_ble_eq_true rfl) (Nat.le_of_ble_eq_true rfl) rfl rfl hW hS (fun _ _ => rfl) (fun d hd => (hm1 d).trans hd) trivial dL_balls_5
set_option maxHeartbeats 4000000 in
set_option maxRecDepth 100000 in
theorem uL_balls (l : Launch) (hl0 : l.stackTraces = false) (Γ : zG) (lo : zId → Nat) (S : zSt) (X : va_W) {i_1 : Int32} (v_z : zV S (10, 0, 0) = true) {ee : Nat × zSt} (hf : fX9_ballsLeft S i_1 = some (Sum.inl ee)) (hn : ee.1 = 1) : Met l yL_balls wsL_balls rmL_balls (zPL Γ lo S X [.ref (lo (10, 0, 0)), .int i_1]) (zQn Γ lo S ee.2 X (fun _ => some (.int (exC ee.1))) (fun _ => True)) 1 6 (zA Γ) := by
  refine va_MetW (cc := cL_balls) (maxL := 3) (ret := (some .int)) (hh := [(0, 5, 6, 23)]) (by decide) rfl ?_
  intro p e s m args below meth c s₁ B hml hv
  obtain ⟨rfl, hW, hKK, hKX, hKY, hKN⟩ := hv
  have hx := B.exec
  have hb := B.bytes
  have hr := B.returns
  have hts := atoms_spec (ws := wsL_balls) B.pre
  have ht : c.exceptionTable.toList = tableOf [(0, 5, 6, 23)] := vx_table (x := yL_balls) B (hts _ (List.mem_of_getElem? (i := 0) rfl))
  have hown : s.vm.findClass RL = some m.cls := findClass_of_methodNamed B.named
  have hlocks := B.notSynchronized
  have hS : va_S (zA Γ) s.heap s.heap [] := va_S.rf
  have hl := lv_entry ([.ref (lo (10, 0, 0)), .int i_1]) (n := 3) (Nat.le_of_ble_eq_true rfl)
  rw [lg_entry_eq]
  generalize (lg_sl ([.ref (lo (10, 0, 0)), .int i_1]) ++ List.replicate (3 - (lg_sl ([.ref (lo (10, 0, 0)), .int i_1])).length) Slot.unset).toArray = ls at hl ⊢
  have hl : lv_has ls 3 [(0, .ref (lo (10, 0, 0))), (1, .int i_1)] := hl
  generalize ([.ref (lo (10, 0, 0)), .int i_1] : List Value).toArray = args at hts ⊢
  obtain ⟨H, hH0⟩ : ∃ H, H = s.heap := ⟨_, rfl⟩
  obtain ⟨locs, hlo0⟩ : ∃ L : List Loc, L = [] := ⟨_, rfl⟩
  have hS : va_S (zA Γ) s.heap H locs := by rw [hH0, hlo0]; exact hS
  have hW : Wd Γ lo S X H := by rw [hH0]; exact hW
  rw [← hH0, ← hlo0]
  refine lv_aload_n hx hb dL_balls_0 rfl (lv_at hl 0 rfl) ?_
  refine lv_iload_n hx hb dL_balls_1 rfl (lv_at hl 1 rfl) ?_
  refine l_thr (rest := []) (vx_runV (As := [.int i_1]) ⟨hx, hb, hml, hown, hts⟩ (uX9_ballsLeft l hl0 Γ lo S X v_z hf) (cwV 1 hts gL_balls_X9_ballsLeft rfl rfl rfl (by decide +kernel) ⟨Nat.le_of_ble_eq_true rfl, Nat.le_of_ble_eq_true rfl⟩) ⟨fun _ _ _ _ q => q, va_recv (q0 := 0) hKK.1 (wd_1 hW v_z) rfl rfl, fun _ hU hW1 => ⟨rfl, by rw [hU]; exact hW, hKK.go hS hU hW1, hKX.go hW1⟩⟩ rfl rfl hl.1 rfl (lv_room (Nat.le_of_ble_eq_true rfl)) dL_balls_2 ⟨Nat.le_of_ble_eq_true rfl, Nat.le_of_ble_eq_true rfl⟩) hS (fun q H locs ce hW hS hm1 hce hcv hcl => ?_)
  obtain ⟨en, eS⟩ := ee
  dsimp only at hn hW hm1 hcl ⊢
  subst hn
  refine vx_catch (own := RL) (name := "java/lang/IndexOutOfBoundsException") hown [] ⟨0, 5, 6, 23⟩ [] ht (fun z hz => by cases hz) rfl (Nat.succ_ne_zero _) (hts (.classLink RL 23 "java/lang/IndexOutOfBoundsException") (List.mem_of_getElem? (i := 1) rfl)) (va_Nw.use rfl (hKX.2.2 1)) hce hcv hcl ?_
  refine lv_astore_n (lv' := [(2, .ref q), (0, .ref (lo (10, 0, 0))), (1, .int i_1)]) hx hb dL_balls_6 rfl hl (by decide) rfl (fun ls hl => ?_)
  refine lv_ldc hx hb hown (hts (.constant RL 25 (-2000000001)) (List.mem_of_getElem? (i := 2) rfl)) dL_balls_7 ?_
  exact n_iret hx hb hr hlocks (Nat.le_of_ble_eq_true rfl) (Nat.le_of_ble_eq_true rfl) rfl (congrArg (fun z => some (Value.int z)) (show exC 1 = -2000000001 by decide)) hW hS (fun _ _ => rfl) (fun d hd => (hm1 d).trans hd) trivial dL_balls_9

abbrev rmL_stack : Room := { frames := 8, cells := 1, slots := 6, locals := 124 }
set_option maxHeartbeats 4000000 in
set_option maxRecDepth 100000 in
theorem tL_stack (l : Launch) (Γ : zG) (lo : zId → Nat) (S : zSt) (X : va_W) {i_1 : Int32} (v_z : zV S (10, 0, 0) = true) {y : Int32} (hf : fX9_stack S i_1 = some (Sum.inr y)) : Met l yL_stack wsL_stack rmL_stack (zPL Γ lo S X [.ref (lo (10, 0, 0)), .int i_1]) (zQn Γ lo S S X (fun _ => some (.int y)) (fun _ => True)) 1 6 (zA Γ) := by
  refine va_MetW (cc := cL_stack) (maxL := 3) (ret := (some .int)) (hh := [(0, 5, 6, 23)]) (by decide) rfl ?_
  intro p e s m args below meth c s₁ B hml hv
  obtain ⟨rfl, hW, hKK, hKX, hKY, hKN⟩ := hv
  have hx := B.exec
  have hb := B.bytes
  have hr := B.returns
  have hts := atoms_spec (ws := wsL_stack) B.pre
  have ht : c.exceptionTable.toList = tableOf [(0, 5, 6, 23)] := vx_table (x := yL_stack) B (hts _ (List.mem_of_getElem? (i := 0) rfl))
  have hown : s.vm.findClass RL = some m.cls := findClass_of_methodNamed B.named
  have hlocks := B.notSynchronized
  have hS : va_S (zA Γ) s.heap s.heap [] := va_S.rf
  have hl := lv_entry ([.ref (lo (10, 0, 0)), .int i_1]) (n := 3) (Nat.le_of_ble_eq_true rfl)
  rw [lg_entry_eq]
  generalize (lg_sl ([.ref (lo (10, 0, 0)), .int i_1]) ++ List.replicate (3 - (lg_sl ([.ref (lo (10, 0, 0)), .int i_1])).length) Slot.unset).toArray = ls at hl ⊢
  have hl : lv_has ls 3 [(0, .ref (lo (10, 0, 0))), (1, .int i_1)] := hl
  generalize ([.ref (lo (10, 0, 0)), .int i_1] : List Value).toArray = args at hts ⊢
  obtain ⟨H, hH0⟩ : ∃ H, H = s.heap := ⟨_, rfl⟩
  obtain ⟨locs, hlo0⟩ : ∃ L : List Loc, L = [] := ⟨_, rfl⟩
  have hS : va_S (zA Γ) s.heap H locs := by rw [hH0, hlo0]; exact hS
  have hW : Wd Γ lo S X H := by rw [hH0]; exact hW
  rw [← hH0, ← hlo0]
  refine lv_aload_n hx hb dL_stack_0 rfl (lv_at hl 0 rfl) ?_
  refine lv_iload_n hx hb dL_stack_1 rfl (lv_at hl 1 rfl) ?_
  refine z_callV (As := [.int i_1]) (rest := []) ⟨hx, hb, hml, hown, hts⟩ (tX9_stack l Γ lo S X v_z hf) (cwV 1 hts gL_stack_X9_stack rfl rfl rfl (by decide +kernel) ⟨Nat.le_of_ble_eq_true rfl, Nat.le_of_ble_eq_true rfl⟩) (wd_1 hW v_z) rfl hKK hW hS rfl hl.1 rfl (Nat.le_of_ble_eq_true rfl) dL_stack_2 ⟨Nat.zero_le _, Nat.zero_le _⟩ (fun H locs hW hS hm1 hE => ?_)
  exact n_iret hx hb hr hlocks (Nat.le_of_ble_eq_true rfl) (Nat.le_of_ble_eq_true rfl) rfl rfl hW hS (fun _ _ => rfl) (fun d hd => (hm1 d).trans hd) trivial dL_stack_5
set_option maxHeartbeats 4000000 in
set_option maxRecDepth 100000 in
theorem uL_stack (l : Launch) (hl0 : l.stackTraces = false) (Γ : zG) (lo : zId → Nat) (S : zSt) (X : va_W) {i_1 : Int32} (v_z : zV S (10, 0, 0) = true) {ee : Nat × zSt} (hf : fX9_stack S i_1 = some (Sum.inl ee)) (hn : ee.1 = 1) : Met l yL_stack wsL_stack rmL_stack (zPL Γ lo S X [.ref (lo (10, 0, 0)), .int i_1]) (zQn Γ lo S ee.2 X (fun _ => some (.int (exC ee.1))) (fun _ => True)) 1 6 (zA Γ) := by
  refine va_MetW (cc := cL_stack) (maxL := 3) (ret := (some .int)) (hh := [(0, 5, 6, 23)]) (by decide) rfl ?_
  intro p e s m args below meth c s₁ B hml hv
  obtain ⟨rfl, hW, hKK, hKX, hKY, hKN⟩ := hv
  have hx := B.exec
  have hb := B.bytes
  have hr := B.returns
  have hts := atoms_spec (ws := wsL_stack) B.pre
  have ht : c.exceptionTable.toList = tableOf [(0, 5, 6, 23)] := vx_table (x := yL_stack) B (hts _ (List.mem_of_getElem? (i := 0) rfl))
  have hown : s.vm.findClass RL = some m.cls := findClass_of_methodNamed B.named
  have hlocks := B.notSynchronized
  have hS : va_S (zA Γ) s.heap s.heap [] := va_S.rf
  have hl := lv_entry ([.ref (lo (10, 0, 0)), .int i_1]) (n := 3) (Nat.le_of_ble_eq_true rfl)
  rw [lg_entry_eq]
  generalize (lg_sl ([.ref (lo (10, 0, 0)), .int i_1]) ++ List.replicate (3 - (lg_sl ([.ref (lo (10, 0, 0)), .int i_1])).length) Slot.unset).toArray = ls at hl ⊢
  have hl : lv_has ls 3 [(0, .ref (lo (10, 0, 0))), (1, .int i_1)] := hl
  generalize ([.ref (lo (10, 0, 0)), .int i_1] : List Value).toArray = args at hts ⊢
  obtain ⟨H, hH0⟩ : ∃ H, H = s.heap := ⟨_, rfl⟩
  obtain ⟨locs, hlo0⟩ : ∃ L : List Loc, L = [] := ⟨_, rfl⟩
  have hS : va_S (zA Γ) s.heap H locs := by rw [hH0, hlo0]; exact hS
  have hW : Wd Γ lo S X H := by rw [hH0]; exact hW
  rw [← hH0, ← hlo0]
  refine lv_aload_n hx hb dL_stack_0 rfl (lv_at hl 0 rfl) ?_
  refine lv_iload_n hx hb dL_stack_1 rfl (lv_at hl 1 rfl) ?_
  refine l_thr (rest := []) (vx_runV (As := [.int i_1]) ⟨hx, hb, hml, hown, hts⟩ (uX9_stack l hl0 Γ lo S X v_z hf) (cwV 1 hts gL_stack_X9_stack rfl rfl rfl (by decide +kernel) ⟨Nat.le_of_ble_eq_true rfl, Nat.le_of_ble_eq_true rfl⟩) ⟨fun _ _ _ _ q => q, va_recv (q0 := 0) hKK.1 (wd_1 hW v_z) rfl rfl, fun _ hU hW1 => ⟨rfl, by rw [hU]; exact hW, hKK.go hS hU hW1, hKX.go hW1⟩⟩ rfl rfl hl.1 rfl (lv_room (Nat.le_of_ble_eq_true rfl)) dL_stack_2 ⟨Nat.le_of_ble_eq_true rfl, Nat.le_of_ble_eq_true rfl⟩) hS (fun q H locs ce hW hS hm1 hce hcv hcl => ?_)
  obtain ⟨en, eS⟩ := ee
  dsimp only at hn hW hm1 hcl ⊢
  subst hn
  refine vx_catch (own := RL) (name := "java/lang/IndexOutOfBoundsException") hown [] ⟨0, 5, 6, 23⟩ [] ht (fun z hz => by cases hz) rfl (Nat.succ_ne_zero _) (hts (.classLink RL 23 "java/lang/IndexOutOfBoundsException") (List.mem_of_getElem? (i := 1) rfl)) (va_Nw.use rfl (hKX.2.2 1)) hce hcv hcl ?_
  refine lv_astore_n (lv' := [(2, .ref q), (0, .ref (lo (10, 0, 0))), (1, .int i_1)]) hx hb dL_stack_6 rfl hl (by decide) rfl (fun ls hl => ?_)
  refine lv_ldc hx hb hown (hts (.constant RL 25 (-2000000001)) (List.mem_of_getElem? (i := 2) rfl)) dL_stack_7 ?_
  exact n_iret hx hb hr hlocks (Nat.le_of_ble_eq_true rfl) (Nat.le_of_ble_eq_true rfl) rfl (congrArg (fun z => some (Value.int z)) (show exC 1 = -2000000001 by decide)) hW hS (fun _ _ => rfl) (fun d hd => (hm1 d).trans hd) trivial dL_stack_9

abbrev rmL_score : Room := { frames := 8, cells := 1, slots := 6, locals := 124 }
set_option maxHeartbeats 4000000 in
set_option maxRecDepth 100000 in
theorem tL_score (l : Launch) (Γ : zG) (lo : zId → Nat) (S : zSt) (X : va_W) {i_1 : Int32} (v_z : zV S (10, 0, 0) = true) {y : Int32} (hf : fX9_score S i_1 = some (Sum.inr y)) : Met l yL_score wsL_score rmL_score (zPL Γ lo S X [.ref (lo (10, 0, 0)), .int i_1]) (zQn Γ lo S S X (fun _ => some (.int y)) (fun _ => True)) 1 6 (zA Γ) := by
  refine va_MetW (cc := cL_score) (maxL := 3) (ret := (some .int)) (hh := [(0, 5, 6, 23)]) (by decide) rfl ?_
  intro p e s m args below meth c s₁ B hml hv
  obtain ⟨rfl, hW, hKK, hKX, hKY, hKN⟩ := hv
  have hx := B.exec
  have hb := B.bytes
  have hr := B.returns
  have hts := atoms_spec (ws := wsL_score) B.pre
  have ht : c.exceptionTable.toList = tableOf [(0, 5, 6, 23)] := vx_table (x := yL_score) B (hts _ (List.mem_of_getElem? (i := 0) rfl))
  have hown : s.vm.findClass RL = some m.cls := findClass_of_methodNamed B.named
  have hlocks := B.notSynchronized
  have hS : va_S (zA Γ) s.heap s.heap [] := va_S.rf
  have hl := lv_entry ([.ref (lo (10, 0, 0)), .int i_1]) (n := 3) (Nat.le_of_ble_eq_true rfl)
  rw [lg_entry_eq]
  generalize (lg_sl ([.ref (lo (10, 0, 0)), .int i_1]) ++ List.replicate (3 - (lg_sl ([.ref (lo (10, 0, 0)), .int i_1])).length) Slot.unset).toArray = ls at hl ⊢
  have hl : lv_has ls 3 [(0, .ref (lo (10, 0, 0))), (1, .int i_1)] := hl
  generalize ([.ref (lo (10, 0, 0)), .int i_1] : List Value).toArray = args at hts ⊢
  obtain ⟨H, hH0⟩ : ∃ H, H = s.heap := ⟨_, rfl⟩
  obtain ⟨locs, hlo0⟩ : ∃ L : List Loc, L = [] := ⟨_, rfl⟩
  have hS : va_S (zA Γ) s.heap H locs := by rw [hH0, hlo0]; exact hS
  have hW : Wd Γ lo S X H := by rw [hH0]; exact hW
  rw [← hH0, ← hlo0]
  refine lv_aload_n hx hb dL_score_0 rfl (lv_at hl 0 rfl) ?_
  refine lv_iload_n hx hb dL_score_1 rfl (lv_at hl 1 rfl) ?_
  refine z_callV (As := [.int i_1]) (rest := []) ⟨hx, hb, hml, hown, hts⟩ (tX9_score l Γ lo S X v_z hf) (cwV 1 hts gL_score_X9_score rfl rfl rfl (by decide +kernel) ⟨Nat.le_of_ble_eq_true rfl, Nat.le_of_ble_eq_true rfl⟩) (wd_1 hW v_z) rfl hKK hW hS rfl hl.1 rfl (Nat.le_of_ble_eq_true rfl) dL_score_2 ⟨Nat.zero_le _, Nat.zero_le _⟩ (fun H locs hW hS hm1 hE => ?_)
  exact n_iret hx hb hr hlocks (Nat.le_of_ble_eq_true rfl) (Nat.le_of_ble_eq_true rfl) rfl rfl hW hS (fun _ _ => rfl) (fun d hd => (hm1 d).trans hd) trivial dL_score_5
set_option maxHeartbeats 4000000 in
set_option maxRecDepth 100000 in
theorem uL_score (l : Launch) (hl0 : l.stackTraces = false) (Γ : zG) (lo : zId → Nat) (S : zSt) (X : va_W) {i_1 : Int32} (v_z : zV S (10, 0, 0) = true) {ee : Nat × zSt} (hf : fX9_score S i_1 = some (Sum.inl ee)) (hn : ee.1 = 1) : Met l yL_score wsL_score rmL_score (zPL Γ lo S X [.ref (lo (10, 0, 0)), .int i_1]) (zQn Γ lo S ee.2 X (fun _ => some (.int (exC ee.1))) (fun _ => True)) 1 6 (zA Γ) := by
  refine va_MetW (cc := cL_score) (maxL := 3) (ret := (some .int)) (hh := [(0, 5, 6, 23)]) (by decide) rfl ?_
  intro p e s m args below meth c s₁ B hml hv
  obtain ⟨rfl, hW, hKK, hKX, hKY, hKN⟩ := hv
  have hx := B.exec
  have hb := B.bytes
  have hr := B.returns
  have hts := atoms_spec (ws := wsL_score) B.pre
  have ht : c.exceptionTable.toList = tableOf [(0, 5, 6, 23)] := vx_table (x := yL_score) B (hts _ (List.mem_of_getElem? (i := 0) rfl))
  have hown : s.vm.findClass RL = some m.cls := findClass_of_methodNamed B.named
  have hlocks := B.notSynchronized
  have hS : va_S (zA Γ) s.heap s.heap [] := va_S.rf
  have hl := lv_entry ([.ref (lo (10, 0, 0)), .int i_1]) (n := 3) (Nat.le_of_ble_eq_true rfl)
  rw [lg_entry_eq]
  generalize (lg_sl ([.ref (lo (10, 0, 0)), .int i_1]) ++ List.replicate (3 - (lg_sl ([.ref (lo (10, 0, 0)), .int i_1])).length) Slot.unset).toArray = ls at hl ⊢
  have hl : lv_has ls 3 [(0, .ref (lo (10, 0, 0))), (1, .int i_1)] := hl
  generalize ([.ref (lo (10, 0, 0)), .int i_1] : List Value).toArray = args at hts ⊢
  obtain ⟨H, hH0⟩ : ∃ H, H = s.heap := ⟨_, rfl⟩
  obtain ⟨locs, hlo0⟩ : ∃ L : List Loc, L = [] := ⟨_, rfl⟩
  have hS : va_S (zA Γ) s.heap H locs := by rw [hH0, hlo0]; exact hS
  have hW : Wd Γ lo S X H := by rw [hH0]; exact hW
  rw [← hH0, ← hlo0]
  refine lv_aload_n hx hb dL_score_0 rfl (lv_at hl 0 rfl) ?_
  refine lv_iload_n hx hb dL_score_1 rfl (lv_at hl 1 rfl) ?_
  refine l_thr (rest := []) (vx_runV (As := [.int i_1]) ⟨hx, hb, hml, hown, hts⟩ (uX9_score l hl0 Γ lo S X v_z hf) (cwV 1 hts gL_score_X9_score rfl rfl rfl (by decide +kernel) ⟨Nat.le_of_ble_eq_true rfl, Nat.le_of_ble_eq_true rfl⟩) ⟨fun _ _ _ _ q => q, va_recv (q0 := 0) hKK.1 (wd_1 hW v_z) rfl rfl, fun _ hU hW1 => ⟨rfl, by rw [hU]; exact hW, hKK.go hS hU hW1, hKX.go hW1⟩⟩ rfl rfl hl.1 rfl (lv_room (Nat.le_of_ble_eq_true rfl)) dL_score_2 ⟨Nat.le_of_ble_eq_true rfl, Nat.le_of_ble_eq_true rfl⟩) hS (fun q H locs ce hW hS hm1 hce hcv hcl => ?_)
  obtain ⟨en, eS⟩ := ee
  dsimp only at hn hW hm1 hcl ⊢
  subst hn
  refine vx_catch (own := RL) (name := "java/lang/IndexOutOfBoundsException") hown [] ⟨0, 5, 6, 23⟩ [] ht (fun z hz => by cases hz) rfl (Nat.succ_ne_zero _) (hts (.classLink RL 23 "java/lang/IndexOutOfBoundsException") (List.mem_of_getElem? (i := 1) rfl)) (va_Nw.use rfl (hKX.2.2 1)) hce hcv hcl ?_
  refine lv_astore_n (lv' := [(2, .ref q), (0, .ref (lo (10, 0, 0))), (1, .int i_1)]) hx hb dL_score_6 rfl hl (by decide) rfl (fun ls hl => ?_)
  refine lv_ldc hx hb hown (hts (.constant RL 25 (-2000000001)) (List.mem_of_getElem? (i := 2) rfl)) dL_score_7 ?_
  exact n_iret hx hb hr hlocks (Nat.le_of_ble_eq_true rfl) (Nat.le_of_ble_eq_true rfl) rfl (congrArg (fun z => some (Value.int z)) (show exC 1 = -2000000001 by decide)) hW hS (fun _ _ => rfl) (fun d hd => (hm1 d).trans hd) trivial dL_score_9

abbrev rmL_byLog : Room := { frames := 8, cells := 1, slots := 6, locals := 124 }
set_option maxHeartbeats 4000000 in
set_option maxRecDepth 100000 in
theorem tL_byLog (l : Launch) (Γ : zG) (lo : zId → Nat) (S : zSt) (X : va_W) {i_1 : Int32} (v_z : zV S (10, 0, 0) = true) {y : (Int32 × zSt)} (hf : fX9_scoreByLog S i_1 = some (Sum.inr y)) : Met l yL_byLog wsL_byLog rmL_byLog (zPL Γ lo S X [.ref (lo (10, 0, 0)), .int i_1]) (zQn Γ lo S y.2 X (fun _ => some (.int y.1)) (fun _ => True)) 1 6 (zA Γ) := by
  refine va_MetW (cc := cL_byLog) (maxL := 3) (ret := (some .int)) (hh := [(0, 5, 6, 23)]) (by decide) rfl ?_
  intro p e s m args below meth c s₁ B hml hv
  obtain ⟨rfl, hW, hKK, hKX, hKY, hKN⟩ := hv
  have hx := B.exec
  have hb := B.bytes
  have hr := B.returns
  have hts := atoms_spec (ws := wsL_byLog) B.pre
  have ht : c.exceptionTable.toList = tableOf [(0, 5, 6, 23)] := vx_table (x := yL_byLog) B (hts _ (List.mem_of_getElem? (i := 0) rfl))
  have hown : s.vm.findClass RL = some m.cls := findClass_of_methodNamed B.named
  have hlocks := B.notSynchronized
  have hS : va_S (zA Γ) s.heap s.heap [] := va_S.rf
  have hl := lv_entry ([.ref (lo (10, 0, 0)), .int i_1]) (n := 3) (Nat.le_of_ble_eq_true rfl)
  rw [lg_entry_eq]
  generalize (lg_sl ([.ref (lo (10, 0, 0)), .int i_1]) ++ List.replicate (3 - (lg_sl ([.ref (lo (10, 0, 0)), .int i_1])).length) Slot.unset).toArray = ls at hl ⊢
  have hl : lv_has ls 3 [(0, .ref (lo (10, 0, 0))), (1, .int i_1)] := hl
  generalize ([.ref (lo (10, 0, 0)), .int i_1] : List Value).toArray = args at hts ⊢
  obtain ⟨H, hH0⟩ : ∃ H, H = s.heap := ⟨_, rfl⟩
  obtain ⟨locs, hlo0⟩ : ∃ L : List Loc, L = [] := ⟨_, rfl⟩
  have hS : va_S (zA Γ) s.heap H locs := by rw [hH0, hlo0]; exact hS
  have hW : Wd Γ lo S X H := by rw [hH0]; exact hW
  rw [← hH0, ← hlo0]
  refine lv_aload_n hx hb dL_byLog_0 rfl (lv_at hl 0 rfl) ?_
  refine lv_iload_n hx hb dL_byLog_1 rfl (lv_at hl 1 rfl) ?_
  refine z_callV (As := [.int i_1]) (rest := []) ⟨hx, hb, hml, hown, hts⟩ (tX9_scoreByLog l Γ lo S X v_z hf) (cwV 1 hts gL_byLog_X9_scoreByLog rfl rfl rfl (by decide +kernel) ⟨Nat.le_of_ble_eq_true rfl, Nat.le_of_ble_eq_true rfl⟩) (wd_1 hW v_z) rfl hKK hW hS rfl hl.1 rfl (Nat.le_of_ble_eq_true rfl) dL_byLog_2 ⟨Nat.zero_le _, Nat.zero_le _⟩ (fun H locs hW hS hm1 hE => ?_)
  exact n_iret hx hb hr hlocks (Nat.le_of_ble_eq_true rfl) (Nat.le_of_ble_eq_true rfl) rfl rfl hW hS (fun _ _ => rfl) (fun d hd => (hm1 d).trans hd) trivial dL_byLog_5
set_option maxHeartbeats 4000000 in
set_option maxRecDepth 100000 in
theorem uL_byLog (l : Launch) (hl0 : l.stackTraces = false) (Γ : zG) (lo : zId → Nat) (S : zSt) (X : va_W) {i_1 : Int32} (v_z : zV S (10, 0, 0) = true) {ee : Nat × zSt} (hf : fX9_scoreByLog S i_1 = some (Sum.inl ee)) (hn : ee.1 = 1) : Met l yL_byLog wsL_byLog rmL_byLog (zPL Γ lo S X [.ref (lo (10, 0, 0)), .int i_1]) (zQn Γ lo S ee.2 X (fun _ => some (.int (exC ee.1))) (fun _ => True)) 1 6 (zA Γ) := by
  refine va_MetW (cc := cL_byLog) (maxL := 3) (ret := (some .int)) (hh := [(0, 5, 6, 23)]) (by decide) rfl ?_
  intro p e s m args below meth c s₁ B hml hv
  obtain ⟨rfl, hW, hKK, hKX, hKY, hKN⟩ := hv
  have hx := B.exec
  have hb := B.bytes
  have hr := B.returns
  have hts := atoms_spec (ws := wsL_byLog) B.pre
  have ht : c.exceptionTable.toList = tableOf [(0, 5, 6, 23)] := vx_table (x := yL_byLog) B (hts _ (List.mem_of_getElem? (i := 0) rfl))
  have hown : s.vm.findClass RL = some m.cls := findClass_of_methodNamed B.named
  have hlocks := B.notSynchronized
  have hS : va_S (zA Γ) s.heap s.heap [] := va_S.rf
  have hl := lv_entry ([.ref (lo (10, 0, 0)), .int i_1]) (n := 3) (Nat.le_of_ble_eq_true rfl)
  rw [lg_entry_eq]
  generalize (lg_sl ([.ref (lo (10, 0, 0)), .int i_1]) ++ List.replicate (3 - (lg_sl ([.ref (lo (10, 0, 0)), .int i_1])).length) Slot.unset).toArray = ls at hl ⊢
  have hl : lv_has ls 3 [(0, .ref (lo (10, 0, 0))), (1, .int i_1)] := hl
  generalize ([.ref (lo (10, 0, 0)), .int i_1] : List Value).toArray = args at hts ⊢
  obtain ⟨H, hH0⟩ : ∃ H, H = s.heap := ⟨_, rfl⟩
  obtain ⟨locs, hlo0⟩ : ∃ L : List Loc, L = [] := ⟨_, rfl⟩
  have hS : va_S (zA Γ) s.heap H locs := by rw [hH0, hlo0]; exact hS
  have hW : Wd Γ lo S X H := by rw [hH0]; exact hW
  rw [← hH0, ← hlo0]
  refine lv_aload_n hx hb dL_byLog_0 rfl (lv_at hl 0 rfl) ?_
  refine lv_iload_n hx hb dL_byLog_1 rfl (lv_at hl 1 rfl) ?_
  refine l_thr (rest := []) (vx_runV (As := [.int i_1]) ⟨hx, hb, hml, hown, hts⟩ (uX9_scoreByLog l hl0 Γ lo S X v_z hf) (cwV 1 hts gL_byLog_X9_scoreByLog rfl rfl rfl (by decide +kernel) ⟨Nat.le_of_ble_eq_true rfl, Nat.le_of_ble_eq_true rfl⟩) ⟨fun _ _ _ _ q => q, va_recv (q0 := 0) hKK.1 (wd_1 hW v_z) rfl rfl, fun _ hU hW1 => ⟨rfl, by rw [hU]; exact hW, hKK.go hS hU hW1, hKX.go hW1⟩⟩ rfl rfl hl.1 rfl (lv_room (Nat.le_of_ble_eq_true rfl)) dL_byLog_2 ⟨Nat.le_of_ble_eq_true rfl, Nat.le_of_ble_eq_true rfl⟩) hS (fun q H locs ce hW hS hm1 hce hcv hcl => ?_)
  obtain ⟨en, eS⟩ := ee
  dsimp only at hn hW hm1 hcl ⊢
  subst hn
  refine vx_catch (own := RL) (name := "java/lang/IndexOutOfBoundsException") hown [] ⟨0, 5, 6, 23⟩ [] ht (fun z hz => by cases hz) rfl (Nat.succ_ne_zero _) (hts (.classLink RL 23 "java/lang/IndexOutOfBoundsException") (List.mem_of_getElem? (i := 1) rfl)) (va_Nw.use rfl (hKX.2.2 1)) hce hcv hcl ?_
  refine lv_astore_n (lv' := [(2, .ref q), (0, .ref (lo (10, 0, 0))), (1, .int i_1)]) hx hb dL_byLog_6 rfl hl (by decide) rfl (fun ls hl => ?_)
  refine lv_ldc hx hb hown (hts (.constant RL 25 (-2000000001)) (List.mem_of_getElem? (i := 2) rfl)) dL_byLog_7 ?_
  exact n_iret hx hb hr hlocks (Nat.le_of_ble_eq_true rfl) (Nat.le_of_ble_eq_true rfl) rfl (congrArg (fun z => some (Value.int z)) (show exC 1 = -2000000001 by decide)) hW hS (fun _ _ => rfl) (fun d hd => (hm1 d).trans hd) trivial dL_byLog_9

abbrev rmL_valid : Room := { frames := 8, cells := 1, slots := 6, locals := 124 }
set_option maxHeartbeats 4000000 in
set_option maxRecDepth 100000 in
theorem tL_valid (l : Launch) (Γ : zG) (lo : zId → Nat) (S : zSt) (X : va_W) {i_1 : Int32} (v_z : zV S (10, 0, 0) = true) {y : (Int32 × zSt)} (hf : fX9_valid S i_1 = some (Sum.inr y)) : Met l yL_valid wsL_valid rmL_valid (zPL Γ lo S X [.ref (lo (10, 0, 0)), .int i_1]) (zQn Γ lo S y.2 X (fun _ => some (.int y.1)) (fun _ => True)) 1 6 (zA Γ) := by
  refine va_MetW (cc := cL_valid) (maxL := 3) (ret := (some .int)) (hh := [(0, 5, 6, 23)]) (by decide) rfl ?_
  intro p e s m args below meth c s₁ B hml hv
  obtain ⟨rfl, hW, hKK, hKX, hKY, hKN⟩ := hv
  have hx := B.exec
  have hb := B.bytes
  have hr := B.returns
  have hts := atoms_spec (ws := wsL_valid) B.pre
  have ht : c.exceptionTable.toList = tableOf [(0, 5, 6, 23)] := vx_table (x := yL_valid) B (hts _ (List.mem_of_getElem? (i := 0) rfl))
  have hown : s.vm.findClass RL = some m.cls := findClass_of_methodNamed B.named
  have hlocks := B.notSynchronized
  have hS : va_S (zA Γ) s.heap s.heap [] := va_S.rf
  have hl := lv_entry ([.ref (lo (10, 0, 0)), .int i_1]) (n := 3) (Nat.le_of_ble_eq_true rfl)
  rw [lg_entry_eq]
  generalize (lg_sl ([.ref (lo (10, 0, 0)), .int i_1]) ++ List.replicate (3 - (lg_sl ([.ref (lo (10, 0, 0)), .int i_1])).length) Slot.unset).toArray = ls at hl ⊢
  have hl : lv_has ls 3 [(0, .ref (lo (10, 0, 0))), (1, .int i_1)] := hl
  generalize ([.ref (lo (10, 0, 0)), .int i_1] : List Value).toArray = args at hts ⊢
  obtain ⟨H, hH0⟩ : ∃ H, H = s.heap := ⟨_, rfl⟩
  obtain ⟨locs, hlo0⟩ : ∃ L : List Loc, L = [] := ⟨_, rfl⟩
  have hS : va_S (zA Γ) s.heap H locs := by rw [hH0, hlo0]; exact hS
  have hW : Wd Γ lo S X H := by rw [hH0]; exact hW
  rw [← hH0, ← hlo0]
  refine lv_aload_n hx hb dL_valid_0 rfl (lv_at hl 0 rfl) ?_
  refine lv_iload_n hx hb dL_valid_1 rfl (lv_at hl 1 rfl) ?_
  refine z_callV (As := [.int i_1]) (rest := []) ⟨hx, hb, hml, hown, hts⟩ (tX9_valid l Γ lo S X v_z hf) (cwV 1 hts gL_valid_X9_valid rfl rfl rfl (by decide +kernel) ⟨Nat.le_of_ble_eq_true rfl, Nat.le_of_ble_eq_true rfl⟩) (wd_1 hW v_z) rfl hKK hW hS rfl hl.1 rfl (Nat.le_of_ble_eq_true rfl) dL_valid_2 ⟨Nat.zero_le _, Nat.zero_le _⟩ (fun H locs hW hS hm1 hE => ?_)
  exact n_iret hx hb hr hlocks (Nat.le_of_ble_eq_true rfl) (Nat.le_of_ble_eq_true rfl) rfl rfl hW hS (fun _ _ => rfl) (fun d hd => (hm1 d).trans hd) trivial dL_valid_5
set_option maxHeartbeats 4000000 in
set_option maxRecDepth 100000 in
theorem uL_valid (l : Launch) (hl0 : l.stackTraces = false) (Γ : zG) (lo : zId → Nat) (S : zSt) (X : va_W) {i_1 : Int32} (v_z : zV S (10, 0, 0) = true) {ee : Nat × zSt} (hf : fX9_valid S i_1 = some (Sum.inl ee)) (hn : ee.1 = 1) : Met l yL_valid wsL_valid rmL_valid (zPL Γ lo S X [.ref (lo (10, 0, 0)), .int i_1]) (zQn Γ lo S ee.2 X (fun _ => some (.int (exC ee.1))) (fun _ => True)) 1 6 (zA Γ) := by
  refine va_MetW (cc := cL_valid) (maxL := 3) (ret := (some .int)) (hh := [(0, 5, 6, 23)]) (by decide) rfl ?_
  intro p e s m args below meth c s₁ B hml hv
  obtain ⟨rfl, hW, hKK, hKX, hKY, hKN⟩ := hv
  have hx := B.exec
  have hb := B.bytes
  have hr := B.returns
  have hts := atoms_spec (ws := wsL_valid) B.pre
  have ht : c.exceptionTable.toList = tableOf [(0, 5, 6, 23)] := vx_table (x := yL_valid) B (hts _ (List.mem_of_getElem? (i := 0) rfl))
  have hown : s.vm.findClass RL = some m.cls := findClass_of_methodNamed B.named
  have hlocks := B.notSynchronized
  have hS : va_S (zA Γ) s.heap s.heap [] := va_S.rf
  have hl := lv_entry ([.ref (lo (10, 0, 0)), .int i_1]) (n := 3) (Nat.le_of_ble_eq_true rfl)
  rw [lg_entry_eq]
  generalize (lg_sl ([.ref (lo (10, 0, 0)), .int i_1]) ++ List.replicate (3 - (lg_sl ([.ref (lo (10, 0, 0)), .int i_1])).length) Slot.unset).toArray = ls at hl ⊢
  have hl : lv_has ls 3 [(0, .ref (lo (10, 0, 0))), (1, .int i_1)] := hl
  generalize ([.ref (lo (10, 0, 0)), .int i_1] : List Value).toArray = args at hts ⊢
  obtain ⟨H, hH0⟩ : ∃ H, H = s.heap := ⟨_, rfl⟩
  obtain ⟨locs, hlo0⟩ : ∃ L : List Loc, L = [] := ⟨_, rfl⟩
  have hS : va_S (zA Γ) s.heap H locs := by rw [hH0, hlo0]; exact hS
  have hW : Wd Γ lo S X H := by rw [hH0]; exact hW
  rw [← hH0, ← hlo0]
  refine lv_aload_n hx hb dL_valid_0 rfl (lv_at hl 0 rfl) ?_
  refine lv_iload_n hx hb dL_valid_1 rfl (lv_at hl 1 rfl) ?_
  refine l_thr (rest := []) (vx_runV (As := [.int i_1]) ⟨hx, hb, hml, hown, hts⟩ (uX9_valid l hl0 Γ lo S X v_z hf) (cwV 1 hts gL_valid_X9_valid rfl rfl rfl (by decide +kernel) ⟨Nat.le_of_ble_eq_true rfl, Nat.le_of_ble_eq_true rfl⟩) ⟨fun _ _ _ _ q => q, va_recv (q0 := 0) hKK.1 (wd_1 hW v_z) rfl rfl, fun _ hU hW1 => ⟨rfl, by rw [hU]; exact hW, hKK.go hS hU hW1, hKX.go hW1⟩⟩ rfl rfl hl.1 rfl (lv_room (Nat.le_of_ble_eq_true rfl)) dL_valid_2 ⟨Nat.le_of_ble_eq_true rfl, Nat.le_of_ble_eq_true rfl⟩) hS (fun q H locs ce hW hS hm1 hce hcv hcl => ?_)
  obtain ⟨en, eS⟩ := ee
  dsimp only at hn hW hm1 hcl ⊢
  subst hn
  refine vx_catch (own := RL) (name := "java/lang/IndexOutOfBoundsException") hown [] ⟨0, 5, 6, 23⟩ [] ht (fun z hz => by cases hz) rfl (Nat.succ_ne_zero _) (hts (.classLink RL 23 "java/lang/IndexOutOfBoundsException") (List.mem_of_getElem? (i := 1) rfl)) (va_Nw.use rfl (hKX.2.2 1)) hce hcv hcl ?_
  refine lv_astore_n (lv' := [(2, .ref q), (0, .ref (lo (10, 0, 0))), (1, .int i_1)]) hx hb dL_valid_6 rfl hl (by decide) rfl (fun ls hl => ?_)
  refine lv_ldc hx hb hown (hts (.constant RL 25 (-2000000001)) (List.mem_of_getElem? (i := 2) rfl)) dL_valid_7 ?_
  exact n_iret hx hb hr hlocks (Nat.le_of_ble_eq_true rfl) (Nat.le_of_ble_eq_true rfl) rfl (congrArg (fun z => some (Value.int z)) (show exC 1 = -2000000001 by decide)) hW hS (fun _ _ => rfl) (fun d hd => (hm1 d).trans hd) trivial dL_valid_9

abbrev rmL_logged : Room := { frames := 8, cells := 1, slots := 6, locals := 124 }
set_option maxHeartbeats 4000000 in
set_option maxRecDepth 100000 in
theorem tL_logged (l : Launch) (Γ : zG) (lo : zId → Nat) (S : zSt) (X : va_W) {i_1 : Int32} (v_z : zV S (10, 0, 0) = true) {y : Int32} (hf : fX9_logged S i_1 = some (Sum.inr y)) : Met l yL_logged wsL_logged rmL_logged (zPL Γ lo S X [.ref (lo (10, 0, 0)), .int i_1]) (zQn Γ lo S S X (fun _ => some (.int y)) (fun _ => True)) 1 6 (zA Γ) := by
  refine va_MetW (cc := cL_logged) (maxL := 3) (ret := (some .int)) (hh := [(0, 5, 6, 23)]) (by decide) rfl ?_
  intro p e s m args below meth c s₁ B hml hv
  obtain ⟨rfl, hW, hKK, hKX, hKY, hKN⟩ := hv
  have hx := B.exec
  have hb := B.bytes
  have hr := B.returns
  have hts := atoms_spec (ws := wsL_logged) B.pre
  have ht : c.exceptionTable.toList = tableOf [(0, 5, 6, 23)] := vx_table (x := yL_logged) B (hts _ (List.mem_of_getElem? (i := 0) rfl))
  have hown : s.vm.findClass RL = some m.cls := findClass_of_methodNamed B.named
  have hlocks := B.notSynchronized
  have hS : va_S (zA Γ) s.heap s.heap [] := va_S.rf
  have hl := lv_entry ([.ref (lo (10, 0, 0)), .int i_1]) (n := 3) (Nat.le_of_ble_eq_true rfl)
  rw [lg_entry_eq]
  generalize (lg_sl ([.ref (lo (10, 0, 0)), .int i_1]) ++ List.replicate (3 - (lg_sl ([.ref (lo (10, 0, 0)), .int i_1])).length) Slot.unset).toArray = ls at hl ⊢
  have hl : lv_has ls 3 [(0, .ref (lo (10, 0, 0))), (1, .int i_1)] := hl
  generalize ([.ref (lo (10, 0, 0)), .int i_1] : List Value).toArray = args at hts ⊢
  obtain ⟨H, hH0⟩ : ∃ H, H = s.heap := ⟨_, rfl⟩
  obtain ⟨locs, hlo0⟩ : ∃ L : List Loc, L = [] := ⟨_, rfl⟩
  have hS : va_S (zA Γ) s.heap H locs := by rw [hH0, hlo0]; exact hS
  have hW : Wd Γ lo S X H := by rw [hH0]; exact hW
  rw [← hH0, ← hlo0]
  refine lv_aload_n hx hb dL_logged_0 rfl (lv_at hl 0 rfl) ?_
  refine lv_iload_n hx hb dL_logged_1 rfl (lv_at hl 1 rfl) ?_
  refine z_callV (As := [.int i_1]) (rest := []) ⟨hx, hb, hml, hown, hts⟩ (tX9_logged l Γ lo S X v_z hf) (cwV 1 hts gL_logged_X9_logged rfl rfl rfl (by decide +kernel) ⟨Nat.le_of_ble_eq_true rfl, Nat.le_of_ble_eq_true rfl⟩) (wd_1 hW v_z) rfl hKK hW hS rfl hl.1 rfl (Nat.le_of_ble_eq_true rfl) dL_logged_2 ⟨Nat.zero_le _, Nat.zero_le _⟩ (fun H locs hW hS hm1 hE => ?_)
  exact n_iret hx hb hr hlocks (Nat.le_of_ble_eq_true rfl) (Nat.le_of_ble_eq_true rfl) rfl rfl hW hS (fun _ _ => rfl) (fun d hd => (hm1 d).trans hd) trivial dL_logged_5
set_option maxHeartbeats 4000000 in
set_option maxRecDepth 100000 in
theorem uL_logged (l : Launch) (hl0 : l.stackTraces = false) (Γ : zG) (lo : zId → Nat) (S : zSt) (X : va_W) {i_1 : Int32} (v_z : zV S (10, 0, 0) = true) {ee : Nat × zSt} (hf : fX9_logged S i_1 = some (Sum.inl ee)) (hn : ee.1 = 1) : Met l yL_logged wsL_logged rmL_logged (zPL Γ lo S X [.ref (lo (10, 0, 0)), .int i_1]) (zQn Γ lo S ee.2 X (fun _ => some (.int (exC ee.1))) (fun _ => True)) 1 6 (zA Γ) := by
  refine va_MetW (cc := cL_logged) (maxL := 3) (ret := (some .int)) (hh := [(0, 5, 6, 23)]) (by decide) rfl ?_
  intro p e s m args below meth c s₁ B hml hv
  obtain ⟨rfl, hW, hKK, hKX, hKY, hKN⟩ := hv
  have hx := B.exec
  have hb := B.bytes
  have hr := B.returns
  have hts := atoms_spec (ws := wsL_logged) B.pre
  have ht : c.exceptionTable.toList = tableOf [(0, 5, 6, 23)] := vx_table (x := yL_logged) B (hts _ (List.mem_of_getElem? (i := 0) rfl))
  have hown : s.vm.findClass RL = some m.cls := findClass_of_methodNamed B.named
  have hlocks := B.notSynchronized
  have hS : va_S (zA Γ) s.heap s.heap [] := va_S.rf
  have hl := lv_entry ([.ref (lo (10, 0, 0)), .int i_1]) (n := 3) (Nat.le_of_ble_eq_true rfl)
  rw [lg_entry_eq]
  generalize (lg_sl ([.ref (lo (10, 0, 0)), .int i_1]) ++ List.replicate (3 - (lg_sl ([.ref (lo (10, 0, 0)), .int i_1])).length) Slot.unset).toArray = ls at hl ⊢
  have hl : lv_has ls 3 [(0, .ref (lo (10, 0, 0))), (1, .int i_1)] := hl
  generalize ([.ref (lo (10, 0, 0)), .int i_1] : List Value).toArray = args at hts ⊢
  obtain ⟨H, hH0⟩ : ∃ H, H = s.heap := ⟨_, rfl⟩
  obtain ⟨locs, hlo0⟩ : ∃ L : List Loc, L = [] := ⟨_, rfl⟩
  have hS : va_S (zA Γ) s.heap H locs := by rw [hH0, hlo0]; exact hS
  have hW : Wd Γ lo S X H := by rw [hH0]; exact hW
  rw [← hH0, ← hlo0]
  refine lv_aload_n hx hb dL_logged_0 rfl (lv_at hl 0 rfl) ?_
  refine lv_iload_n hx hb dL_logged_1 rfl (lv_at hl 1 rfl) ?_
  refine l_thr (rest := []) (vx_runV (As := [.int i_1]) ⟨hx, hb, hml, hown, hts⟩ (uX9_logged l hl0 Γ lo S X v_z hf) (cwV 1 hts gL_logged_X9_logged rfl rfl rfl (by decide +kernel) ⟨Nat.le_of_ble_eq_true rfl, Nat.le_of_ble_eq_true rfl⟩) ⟨fun _ _ _ _ q => q, va_recv (q0 := 0) hKK.1 (wd_1 hW v_z) rfl rfl, fun _ hU hW1 => ⟨rfl, by rw [hU]; exact hW, hKK.go hS hU hW1, hKX.go hW1⟩⟩ rfl rfl hl.1 rfl (lv_room (Nat.le_of_ble_eq_true rfl)) dL_logged_2 ⟨Nat.le_of_ble_eq_true rfl, Nat.le_of_ble_eq_true rfl⟩) hS (fun q H locs ce hW hS hm1 hce hcv hcl => ?_)
  obtain ⟨en, eS⟩ := ee
  dsimp only at hn hW hm1 hcl ⊢
  subst hn
  refine vx_catch (own := RL) (name := "java/lang/IndexOutOfBoundsException") hown [] ⟨0, 5, 6, 23⟩ [] ht (fun z hz => by cases hz) rfl (Nat.succ_ne_zero _) (hts (.classLink RL 23 "java/lang/IndexOutOfBoundsException") (List.mem_of_getElem? (i := 1) rfl)) (va_Nw.use rfl (hKX.2.2 1)) hce hcv hcl ?_
  refine lv_astore_n (lv' := [(2, .ref q), (0, .ref (lo (10, 0, 0))), (1, .int i_1)]) hx hb dL_logged_6 rfl hl (by decide) rfl (fun ls hl => ?_)
  refine lv_ldc hx hb hown (hts (.constant RL 25 (-2000000001)) (List.mem_of_getElem? (i := 2) rfl)) dL_logged_7 ?_
  exact n_iret hx hb hr hlocks (Nat.le_of_ble_eq_true rfl) (Nat.le_of_ble_eq_true rfl) rfl (congrArg (fun z => some (Value.int z)) (show exC 1 = -2000000001 by decide)) hW hS (fun _ _ => rfl) (fun d hd => (hm1 d).trans hd) trivial dL_logged_9

abbrev rmL_entry : Room := { frames := 8, cells := 1, slots := 6, locals := 126 }
set_option maxHeartbeats 4000000 in
set_option maxRecDepth 100000 in
theorem tL_entry (l : Launch) (Γ : zG) (lo : zId → Nat) (S : zSt) (X : va_W) {i_1 : Int32} {i_2 : Int32} (v_z : zV S (10, 0, 0) = true) {y : Int64} (hf : fX9_entryAt S i_1 i_2 = some (Sum.inr y)) : Met l yL_entry wsL_entry rmL_entry (zPL Γ lo S X [.ref (lo (10, 0, 0)), .int i_1, .int i_2]) (zQn Γ lo S S X (fun _ => some (.long y)) (fun _ => True)) 1 6 (zA Γ) := by
  refine va_MetW (cc := cL_entry) (maxL := 4) (ret := (some .long)) (hh := [(0, 6, 7, 23)]) (by decide) rfl ?_
  intro p e s m args below meth c s₁ B hml hv
  obtain ⟨rfl, hW, hKK, hKX, hKY, hKN⟩ := hv
  have hx := B.exec
  have hb := B.bytes
  have hr := B.returns
  have hts := atoms_spec (ws := wsL_entry) B.pre
  have ht : c.exceptionTable.toList = tableOf [(0, 6, 7, 23)] := vx_table (x := yL_entry) B (hts _ (List.mem_of_getElem? (i := 0) rfl))
  have hown : s.vm.findClass RL = some m.cls := findClass_of_methodNamed B.named
  have hlocks := B.notSynchronized
  have hS : va_S (zA Γ) s.heap s.heap [] := va_S.rf
  have hl := lv_entry ([.ref (lo (10, 0, 0)), .int i_1, .int i_2]) (n := 4) (Nat.le_of_ble_eq_true rfl)
  rw [lg_entry_eq]
  generalize (lg_sl ([.ref (lo (10, 0, 0)), .int i_1, .int i_2]) ++ List.replicate (4 - (lg_sl ([.ref (lo (10, 0, 0)), .int i_1, .int i_2])).length) Slot.unset).toArray = ls at hl ⊢
  have hl : lv_has ls 4 [(0, .ref (lo (10, 0, 0))), (1, .int i_1), (2, .int i_2)] := hl
  generalize ([.ref (lo (10, 0, 0)), .int i_1, .int i_2] : List Value).toArray = args at hts ⊢
  obtain ⟨H, hH0⟩ : ∃ H, H = s.heap := ⟨_, rfl⟩
  obtain ⟨locs, hlo0⟩ : ∃ L : List Loc, L = [] := ⟨_, rfl⟩
  have hS : va_S (zA Γ) s.heap H locs := by rw [hH0, hlo0]; exact hS
  have hW : Wd Γ lo S X H := by rw [hH0]; exact hW
  rw [← hH0, ← hlo0]
  refine lv_aload_n hx hb dL_entry_0 rfl (lv_at hl 0 rfl) ?_
  refine lv_iload_n hx hb dL_entry_1 rfl (lv_at hl 1 rfl) ?_
  refine lv_iload_n hx hb dL_entry_2 rfl (lv_at hl 2 rfl) ?_
  refine z_callV (As := [.int i_1, .int i_2]) (rest := []) ⟨hx, hb, hml, hown, hts⟩ (tX9_entryAt l Γ lo S X v_z hf) (cwV 2 hts gL_entry_X9_entryAt rfl rfl rfl (by decide +kernel) ⟨Nat.le_of_ble_eq_true rfl, Nat.le_of_ble_eq_true rfl⟩) (wd_1 hW v_z) rfl hKK hW hS rfl hl.1 rfl (Nat.le_of_ble_eq_true rfl) dL_entry_3 ⟨Nat.zero_le _, Nat.zero_le _⟩ (fun H locs hW hS hm1 hE => ?_)
  exact n_lret hx hb hr hlocks (Nat.le_of_ble_eq_true rfl) (Nat.le_of_ble_eq_true rfl) rfl hW hS (fun _ _ => rfl) (fun d hd => (hm1 d).trans hd) trivial dL_entry_6
set_option maxHeartbeats 4000000 in
set_option maxRecDepth 100000 in
theorem uL_entry (l : Launch) (hl0 : l.stackTraces = false) (Γ : zG) (lo : zId → Nat) (S : zSt) (X : va_W) {i_1 : Int32} {i_2 : Int32} (v_z : zV S (10, 0, 0) = true) {ee : Nat × zSt} (hf : fX9_entryAt S i_1 i_2 = some (Sum.inl ee)) (hn : ee.1 = 1) : Met l yL_entry wsL_entry rmL_entry (zPL Γ lo S X [.ref (lo (10, 0, 0)), .int i_1, .int i_2]) (zQn Γ lo S ee.2 X (fun _ => some (.long (-2000000001))) (fun _ => True)) 1 6 (zA Γ) := by
  refine va_MetW (cc := cL_entry) (maxL := 4) (ret := (some .long)) (hh := [(0, 6, 7, 23)]) (by decide) rfl ?_
  intro p e s m args below meth c s₁ B hml hv
  obtain ⟨rfl, hW, hKK, hKX, hKY, hKN⟩ := hv
  have hx := B.exec
  have hb := B.bytes
  have hr := B.returns
  have hts := atoms_spec (ws := wsL_entry) B.pre
  have ht : c.exceptionTable.toList = tableOf [(0, 6, 7, 23)] := vx_table (x := yL_entry) B (hts _ (List.mem_of_getElem? (i := 0) rfl))
  have hown : s.vm.findClass RL = some m.cls := findClass_of_methodNamed B.named
  have hlocks := B.notSynchronized
  have hS : va_S (zA Γ) s.heap s.heap [] := va_S.rf
  have hl := lv_entry ([.ref (lo (10, 0, 0)), .int i_1, .int i_2]) (n := 4) (Nat.le_of_ble_eq_true rfl)
  rw [lg_entry_eq]
  generalize (lg_sl ([.ref (lo (10, 0, 0)), .int i_1, .int i_2]) ++ List.replicate (4 - (lg_sl ([.ref (lo (10, 0, 0)), .int i_1, .int i_2])).length) Slot.unset).toArray = ls at hl ⊢
  have hl : lv_has ls 4 [(0, .ref (lo (10, 0, 0))), (1, .int i_1), (2, .int i_2)] := hl
  generalize ([.ref (lo (10, 0, 0)), .int i_1, .int i_2] : List Value).toArray = args at hts ⊢
  obtain ⟨H, hH0⟩ : ∃ H, H = s.heap := ⟨_, rfl⟩
  obtain ⟨locs, hlo0⟩ : ∃ L : List Loc, L = [] := ⟨_, rfl⟩
  have hS : va_S (zA Γ) s.heap H locs := by rw [hH0, hlo0]; exact hS
  have hW : Wd Γ lo S X H := by rw [hH0]; exact hW
  rw [← hH0, ← hlo0]
  refine lv_aload_n hx hb dL_entry_0 rfl (lv_at hl 0 rfl) ?_
  refine lv_iload_n hx hb dL_entry_1 rfl (lv_at hl 1 rfl) ?_
  refine lv_iload_n hx hb dL_entry_2 rfl (lv_at hl 2 rfl) ?_
  refine l_thr (rest := []) (vx_runV (As := [.int i_1, .int i_2]) ⟨hx, hb, hml, hown, hts⟩ (uX9_entryAt l hl0 Γ lo S X v_z hf) (cwV 2 hts gL_entry_X9_entryAt rfl rfl rfl (by decide +kernel) ⟨Nat.le_of_ble_eq_true rfl, Nat.le_of_ble_eq_true rfl⟩) ⟨fun _ _ _ _ q => q, va_recv (q0 := 0) hKK.1 (wd_1 hW v_z) rfl rfl, fun _ hU hW1 => ⟨rfl, by rw [hU]; exact hW, hKK.go hS hU hW1, hKX.go hW1⟩⟩ rfl rfl hl.1 rfl (lv_room (Nat.le_of_ble_eq_true rfl)) dL_entry_3 ⟨Nat.le_of_ble_eq_true rfl, Nat.le_of_ble_eq_true rfl⟩) hS (fun q H locs ce hW hS hm1 hce hcv hcl => ?_)
  obtain ⟨en, eS⟩ := ee
  dsimp only at hn hW hm1 hcl ⊢
  subst hn
  refine vx_catch (own := RL) (name := "java/lang/IndexOutOfBoundsException") hown [] ⟨0, 6, 7, 23⟩ [] ht (fun z hz => by cases hz) rfl (Nat.succ_ne_zero _) (hts (.classLink RL 23 "java/lang/IndexOutOfBoundsException") (List.mem_of_getElem? (i := 1) rfl)) (va_Nw.use rfl (hKX.2.2 1)) hce hcv hcl ?_
  refine lv_astore_n (lv' := [(3, .ref q), (0, .ref (lo (10, 0, 0))), (1, .int i_1), (2, .int i_2)]) hx hb dL_entry_7 rfl hl (by decide) rfl (fun ls hl => ?_)
  refine lv_ldc2 hx hb hown (hts (.constantLong RL 77 (-2000000001)) (List.mem_of_getElem? (i := 2) rfl)) dL_entry_8 ?_
  exact n_lret hx hb hr hlocks (Nat.le_of_ble_eq_true rfl) (Nat.le_of_ble_eq_true rfl) rfl hW hS (fun _ _ => rfl) (fun d hd => (hm1 d).trans hd) trivial dL_entry_11

abbrev rmL_twin : Room := { frames := 8, cells := 1, slots := 6, locals := 127 }
set_option maxHeartbeats 4000000 in
set_option maxRecDepth 100000 in
theorem tL_twin (l : Launch) (Γ : zG) (lo : zId → Nat) (S : zSt) (X : va_W) {i_1 : Int32} (v_z : zV S (10, 0, 0) = true) {y : Int32} (hf : fX9_twin S i_1 = some (Sum.inr y)) : Met l yL_twin wsL_twin rmL_twin (zPL Γ lo S X [.ref (lo (10, 0, 0)), .int i_1]) (zQn Γ lo S S X (fun _ => some (.int y)) (fun _ => True)) 1 6 (zA Γ) := by
  refine va_MetW (cc := cL_twin) (maxL := 3) (ret := (some .int)) (hh := [(0, 5, 6, 23)]) (by decide) rfl ?_
  intro p e s m args below meth c s₁ B hml hv
  obtain ⟨rfl, hW, hKK, hKX, hKY, hKN⟩ := hv
  have hx := B.exec
  have hb := B.bytes
  have hr := B.returns
  have hts := atoms_spec (ws := wsL_twin) B.pre
  have ht : c.exceptionTable.toList = tableOf [(0, 5, 6, 23)] := vx_table (x := yL_twin) B (hts _ (List.mem_of_getElem? (i := 0) rfl))
  have hown : s.vm.findClass RL = some m.cls := findClass_of_methodNamed B.named
  have hlocks := B.notSynchronized
  have hS : va_S (zA Γ) s.heap s.heap [] := va_S.rf
  have hl := lv_entry ([.ref (lo (10, 0, 0)), .int i_1]) (n := 3) (Nat.le_of_ble_eq_true rfl)
  rw [lg_entry_eq]
  generalize (lg_sl ([.ref (lo (10, 0, 0)), .int i_1]) ++ List.replicate (3 - (lg_sl ([.ref (lo (10, 0, 0)), .int i_1])).length) Slot.unset).toArray = ls at hl ⊢
  have hl : lv_has ls 3 [(0, .ref (lo (10, 0, 0))), (1, .int i_1)] := hl
  generalize ([.ref (lo (10, 0, 0)), .int i_1] : List Value).toArray = args at hts ⊢
  obtain ⟨H, hH0⟩ : ∃ H, H = s.heap := ⟨_, rfl⟩
  obtain ⟨locs, hlo0⟩ : ∃ L : List Loc, L = [] := ⟨_, rfl⟩
  have hS : va_S (zA Γ) s.heap H locs := by rw [hH0, hlo0]; exact hS
  have hW : Wd Γ lo S X H := by rw [hH0]; exact hW
  rw [← hH0, ← hlo0]
  refine lv_aload_n hx hb dL_twin_0 rfl (lv_at hl 0 rfl) ?_
  refine lv_iload_n hx hb dL_twin_1 rfl (lv_at hl 1 rfl) ?_
  refine z_callV (As := [.int i_1]) (rest := []) ⟨hx, hb, hml, hown, hts⟩ (tX9_twin l Γ lo S X v_z hf) (cwV 1 hts gL_twin_X9_twin rfl rfl rfl (by decide +kernel) ⟨Nat.le_of_ble_eq_true rfl, Nat.le_of_ble_eq_true rfl⟩) (wd_1 hW v_z) rfl hKK hW hS rfl hl.1 rfl (Nat.le_of_ble_eq_true rfl) dL_twin_2 ⟨Nat.zero_le _, Nat.zero_le _⟩ (fun H locs hW hS hm1 hE => ?_)
  exact n_iret hx hb hr hlocks (Nat.le_of_ble_eq_true rfl) (Nat.le_of_ble_eq_true rfl) rfl rfl hW hS (fun _ _ => rfl) (fun d hd => (hm1 d).trans hd) trivial dL_twin_5
set_option maxHeartbeats 4000000 in
set_option maxRecDepth 100000 in
theorem uL_twin (l : Launch) (hl0 : l.stackTraces = false) (Γ : zG) (lo : zId → Nat) (S : zSt) (X : va_W) {i_1 : Int32} (v_z : zV S (10, 0, 0) = true) {ee : Nat × zSt} (hf : fX9_twin S i_1 = some (Sum.inl ee)) (hn : ee.1 = 1) : Met l yL_twin wsL_twin rmL_twin (zPL Γ lo S X [.ref (lo (10, 0, 0)), .int i_1]) (zQn Γ lo S ee.2 X (fun _ => some (.int (exC ee.1))) (fun _ => True)) 1 6 (zA Γ) := by
  refine va_MetW (cc := cL_twin) (maxL := 3) (ret := (some .int)) (hh := [(0, 5, 6, 23)]) (by decide) rfl ?_
  intro p e s m args below meth c s₁ B hml hv
  obtain ⟨rfl, hW, hKK, hKX, hKY, hKN⟩ := hv
  have hx := B.exec
  have hb := B.bytes
  have hr := B.returns
  have hts := atoms_spec (ws := wsL_twin) B.pre
  have ht : c.exceptionTable.toList = tableOf [(0, 5, 6, 23)] := vx_table (x := yL_twin) B (hts _ (List.mem_of_getElem? (i := 0) rfl))
  have hown : s.vm.findClass RL = some m.cls := findClass_of_methodNamed B.named
  have hlocks := B.notSynchronized
  have hS : va_S (zA Γ) s.heap s.heap [] := va_S.rf
  have hl := lv_entry ([.ref (lo (10, 0, 0)), .int i_1]) (n := 3) (Nat.le_of_ble_eq_true rfl)
  rw [lg_entry_eq]
  generalize (lg_sl ([.ref (lo (10, 0, 0)), .int i_1]) ++ List.replicate (3 - (lg_sl ([.ref (lo (10, 0, 0)), .int i_1])).length) Slot.unset).toArray = ls at hl ⊢
  have hl : lv_has ls 3 [(0, .ref (lo (10, 0, 0))), (1, .int i_1)] := hl
  generalize ([.ref (lo (10, 0, 0)), .int i_1] : List Value).toArray = args at hts ⊢
  obtain ⟨H, hH0⟩ : ∃ H, H = s.heap := ⟨_, rfl⟩
  obtain ⟨locs, hlo0⟩ : ∃ L : List Loc, L = [] := ⟨_, rfl⟩
  have hS : va_S (zA Γ) s.heap H locs := by rw [hH0, hlo0]; exact hS
  have hW : Wd Γ lo S X H := by rw [hH0]; exact hW
  rw [← hH0, ← hlo0]
  refine lv_aload_n hx hb dL_twin_0 rfl (lv_at hl 0 rfl) ?_
  refine lv_iload_n hx hb dL_twin_1 rfl (lv_at hl 1 rfl) ?_
  refine l_thr (rest := []) (vx_runV (As := [.int i_1]) ⟨hx, hb, hml, hown, hts⟩ (uX9_twin l hl0 Γ lo S X v_z hf) (cwV 1 hts gL_twin_X9_twin rfl rfl rfl (by decide +kernel) ⟨Nat.le_of_ble_eq_true rfl, Nat.le_of_ble_eq_true rfl⟩) ⟨fun _ _ _ _ q => q, va_recv (q0 := 0) hKK.1 (wd_1 hW v_z) rfl rfl, fun _ hU hW1 => ⟨rfl, by rw [hU]; exact hW, hKK.go hS hU hW1, hKX.go hW1⟩⟩ rfl rfl hl.1 rfl (lv_room (Nat.le_of_ble_eq_true rfl)) dL_twin_2 ⟨Nat.le_of_ble_eq_true rfl, Nat.le_of_ble_eq_true rfl⟩) hS (fun q H locs ce hW hS hm1 hce hcv hcl => ?_)
  obtain ⟨en, eS⟩ := ee
  dsimp only at hn hW hm1 hcl ⊢
  subst hn
  refine vx_catch (own := RL) (name := "java/lang/IndexOutOfBoundsException") hown [] ⟨0, 5, 6, 23⟩ [] ht (fun z hz => by cases hz) rfl (Nat.succ_ne_zero _) (hts (.classLink RL 23 "java/lang/IndexOutOfBoundsException") (List.mem_of_getElem? (i := 1) rfl)) (va_Nw.use rfl (hKX.2.2 1)) hce hcv hcl ?_
  refine lv_astore_n (lv' := [(2, .ref q), (0, .ref (lo (10, 0, 0))), (1, .int i_1)]) hx hb dL_twin_6 rfl hl (by decide) rfl (fun ls hl => ?_)
  refine lv_ldc hx hb hown (hts (.constant RL 25 (-2000000001)) (List.mem_of_getElem? (i := 2) rfl)) dL_twin_7 ?_
  exact n_iret hx hb hr hlocks (Nat.le_of_ble_eq_true rfl) (Nat.le_of_ble_eq_true rfl) rfl (congrArg (fun z => some (Value.int z)) (show exC 1 = -2000000001 by decide)) hW hS (fun _ _ => rfl) (fun d hd => (hm1 d).trans hd) trivial dL_twin_9

abbrev rmL_high : Room := { frames := 8, cells := 1, slots := 6, locals := 126 }
set_option maxHeartbeats 4000000 in
set_option maxRecDepth 100000 in
theorem tL_high (l : Launch) (Γ : zG) (lo : zId → Nat) (S : zSt) (X : va_W) {i_1 : Int32} {i_2 : Int32} (v_z : zV S (10, 0, 0) = true) {y : (Int32 × zSt)} (hf : fX9_high S i_1 i_2 = some (Sum.inr y)) : Met l yL_high wsL_high rmL_high (zPL Γ lo S X [.ref (lo (10, 0, 0)), .int i_1, .int i_2]) (zQn Γ lo S y.2 X (fun _ => some (.int y.1)) (fun _ => True)) 1 6 (zA Γ) := by
  refine va_MetW (cc := cL_high) (maxL := 4) (ret := (some .int)) (hh := [(0, 6, 7, 23), (0, 6, 11, 13)]) (by decide) rfl ?_
  intro p e s m args below meth c s₁ B hml hv
  obtain ⟨rfl, hW, hKK, hKX, hKY, hKN⟩ := hv
  have hx := B.exec
  have hb := B.bytes
  have hr := B.returns
  have hts := atoms_spec (ws := wsL_high) B.pre
  have ht : c.exceptionTable.toList = tableOf [(0, 6, 7, 23), (0, 6, 11, 13)] := vx_table (x := yL_high) B (hts _ (List.mem_of_getElem? (i := 0) rfl))
  have hown : s.vm.findClass RL = some m.cls := findClass_of_methodNamed B.named
  have hlocks := B.notSynchronized
  have hS : va_S (zA Γ) s.heap s.heap [] := va_S.rf
  have hl := lv_entry ([.ref (lo (10, 0, 0)), .int i_1, .int i_2]) (n := 4) (Nat.le_of_ble_eq_true rfl)
  rw [lg_entry_eq]
  generalize (lg_sl ([.ref (lo (10, 0, 0)), .int i_1, .int i_2]) ++ List.replicate (4 - (lg_sl ([.ref (lo (10, 0, 0)), .int i_1, .int i_2])).length) Slot.unset).toArray = ls at hl ⊢
  have hl : lv_has ls 4 [(0, .ref (lo (10, 0, 0))), (1, .int i_1), (2, .int i_2)] := hl
  generalize ([.ref (lo (10, 0, 0)), .int i_1, .int i_2] : List Value).toArray = args at hts ⊢
  obtain ⟨H, hH0⟩ : ∃ H, H = s.heap := ⟨_, rfl⟩
  obtain ⟨locs, hlo0⟩ : ∃ L : List Loc, L = [] := ⟨_, rfl⟩
  have hS : va_S (zA Γ) s.heap H locs := by rw [hH0, hlo0]; exact hS
  have hW : Wd Γ lo S X H := by rw [hH0]; exact hW
  rw [← hH0, ← hlo0]
  refine lv_aload_n hx hb dL_high_0 rfl (lv_at hl 0 rfl) ?_
  refine lv_iload_n hx hb dL_high_1 rfl (lv_at hl 1 rfl) ?_
  refine lv_iload_n hx hb dL_high_2 rfl (lv_at hl 2 rfl) ?_
  refine z_callV (As := [.int i_1, .int i_2]) (rest := []) ⟨hx, hb, hml, hown, hts⟩ (tX9_high l Γ lo S X v_z hf) (cwV 2 hts gL_high_X9_high rfl rfl rfl (by decide +kernel) ⟨Nat.le_of_ble_eq_true rfl, Nat.le_of_ble_eq_true rfl⟩) (wd_1 hW v_z) rfl hKK hW hS rfl hl.1 rfl (Nat.le_of_ble_eq_true rfl) dL_high_3 ⟨Nat.zero_le _, Nat.zero_le _⟩ (fun H locs hW hS hm1 hE => ?_)
  exact n_iret hx hb hr hlocks (Nat.le_of_ble_eq_true rfl) (Nat.le_of_ble_eq_true rfl) rfl rfl hW hS (fun _ _ => rfl) (fun d hd => (hm1 d).trans hd) trivial dL_high_6
set_option maxHeartbeats 4000000 in
set_option maxRecDepth 100000 in
theorem uL_high (l : Launch) (hl0 : l.stackTraces = false) (Γ : zG) (lo : zId → Nat) (S : zSt) (X : va_W) {i_1 : Int32} {i_2 : Int32} (v_z : zV S (10, 0, 0) = true) {ee : Nat × zSt} (hf : fX9_high S i_1 i_2 = some (Sum.inl ee)) (hn : ee.1 = 1 ∨ ee.1 = 2) : Met l yL_high wsL_high rmL_high (zPL Γ lo S X [.ref (lo (10, 0, 0)), .int i_1, .int i_2]) (zQn Γ lo S ee.2 X (fun _ => some (.int (exC ee.1))) (fun _ => True)) 1 6 (zA Γ) := by
  refine va_MetW (cc := cL_high) (maxL := 4) (ret := (some .int)) (hh := [(0, 6, 7, 23), (0, 6, 11, 13)]) (by decide) rfl ?_
  intro p e s m args below meth c s₁ B hml hv
  obtain ⟨rfl, hW, hKK, hKX, hKY, hKN⟩ := hv
  have hx := B.exec
  have hb := B.bytes
  have hr := B.returns
  have hts := atoms_spec (ws := wsL_high) B.pre
  have ht : c.exceptionTable.toList = tableOf [(0, 6, 7, 23), (0, 6, 11, 13)] := vx_table (x := yL_high) B (hts _ (List.mem_of_getElem? (i := 0) rfl))
  have hown : s.vm.findClass RL = some m.cls := findClass_of_methodNamed B.named
  have hlocks := B.notSynchronized
  have hS : va_S (zA Γ) s.heap s.heap [] := va_S.rf
  have hl := lv_entry ([.ref (lo (10, 0, 0)), .int i_1, .int i_2]) (n := 4) (Nat.le_of_ble_eq_true rfl)
  rw [lg_entry_eq]
  generalize (lg_sl ([.ref (lo (10, 0, 0)), .int i_1, .int i_2]) ++ List.replicate (4 - (lg_sl ([.ref (lo (10, 0, 0)), .int i_1, .int i_2])).length) Slot.unset).toArray = ls at hl ⊢
  have hl : lv_has ls 4 [(0, .ref (lo (10, 0, 0))), (1, .int i_1), (2, .int i_2)] := hl
  generalize ([.ref (lo (10, 0, 0)), .int i_1, .int i_2] : List Value).toArray = args at hts ⊢
  obtain ⟨H, hH0⟩ : ∃ H, H = s.heap := ⟨_, rfl⟩
  obtain ⟨locs, hlo0⟩ : ∃ L : List Loc, L = [] := ⟨_, rfl⟩
  have hS : va_S (zA Γ) s.heap H locs := by rw [hH0, hlo0]; exact hS
  have hW : Wd Γ lo S X H := by rw [hH0]; exact hW
  rw [← hH0, ← hlo0]
  refine lv_aload_n hx hb dL_high_0 rfl (lv_at hl 0 rfl) ?_
  refine lv_iload_n hx hb dL_high_1 rfl (lv_at hl 1 rfl) ?_
  refine lv_iload_n hx hb dL_high_2 rfl (lv_at hl 2 rfl) ?_
  refine l_thr (rest := []) (vx_runV (As := [.int i_1, .int i_2]) ⟨hx, hb, hml, hown, hts⟩ (uX9_high l hl0 Γ lo S X v_z hf) (cwV 2 hts gL_high_X9_high rfl rfl rfl (by decide +kernel) ⟨Nat.le_of_ble_eq_true rfl, Nat.le_of_ble_eq_true rfl⟩) ⟨fun _ _ _ _ q => q, va_recv (q0 := 0) hKK.1 (wd_1 hW v_z) rfl rfl, fun _ hU hW1 => ⟨rfl, by rw [hU]; exact hW, hKK.go hS hU hW1, hKX.go hW1⟩⟩ rfl rfl hl.1 rfl (lv_room (Nat.le_of_ble_eq_true rfl)) dL_high_3 ⟨Nat.le_of_ble_eq_true rfl, Nat.le_of_ble_eq_true rfl⟩) hS (fun q H locs ce hW hS hm1 hce hcv hcl => ?_)
  obtain ⟨en, eS⟩ := ee
  dsimp only at hn hW hm1 hcl ⊢
  rcases hn with rfl | rfl
  · refine vx_catch (own := RL) (name := "java/lang/IndexOutOfBoundsException") hown [] ⟨0, 6, 7, 23⟩ [⟨0, 6, 11, 13⟩] ht (fun z hz => by cases hz) rfl (Nat.succ_ne_zero _) (hts (.classLink RL 23 "java/lang/IndexOutOfBoundsException") (List.mem_of_getElem? (i := 1) rfl)) (va_Nw.use rfl (hKX.2.2 1)) hce hcv hcl ?_
    refine lv_astore_n (lv' := [(3, .ref q), (0, .ref (lo (10, 0, 0))), (1, .int i_1), (2, .int i_2)]) hx hb dL_high_7 rfl hl (by decide) rfl (fun ls hl => ?_)
    refine lv_ldc hx hb hown (hts (.constant RL 25 (-2000000001)) (List.mem_of_getElem? (i := 3) rfl)) dL_high_8 ?_
    exact n_iret hx hb hr hlocks (Nat.le_of_ble_eq_true rfl) (Nat.le_of_ble_eq_true rfl) rfl (congrArg (fun z => some (Value.int z)) (show exC 1 = -2000000001 by decide)) hW hS (fun _ _ => rfl) (fun d hd => (hm1 d).trans hd) trivial dL_high_10
  · refine vx_catch (own := RL) (name := "java/lang/IllegalArgumentException") hown [⟨0, 6, 7, 23⟩] ⟨0, 6, 11, 13⟩ [] ht (fun z hz => by cases hz with | head => exact Or.inr ⟨Nat.succ_ne_zero _, _, (hts (.classLink RL 23 "java/lang/IndexOutOfBoundsException") (List.mem_of_getElem? (i := 1) rfl)), hKN _ (List.mem_of_getElem? (i := 0) rfl)⟩ | tail _ hz => cases hz) rfl (Nat.succ_ne_zero _) (hts (.classLink RL 13 "java/lang/IllegalArgumentException") (List.mem_of_getElem? (i := 2) rfl)) (va_Nw.use rfl (hKX.2.2 2)) hce hcv hcl ?_
    refine lv_astore_n (lv' := [(3, .ref q), (0, .ref (lo (10, 0, 0))), (1, .int i_1), (2, .int i_2)]) hx hb dL_high_11 rfl hl (by decide) rfl (fun ls hl => ?_)
    refine lv_ldc hx hb hown (hts (.constant RL 15 (-2000000002)) (List.mem_of_getElem? (i := 4) rfl)) dL_high_12 ?_
    exact n_iret hx hb hr hlocks (Nat.le_of_ble_eq_true rfl) (Nat.le_of_ble_eq_true rfl) rfl (congrArg (fun z => some (Value.int z)) (show exC 2 = -2000000002 by decide)) hW hS (fun _ _ => rfl) (fun d hd => (hm1 d).trans hd) trivial dL_high_14

abbrev rmL_rob : Room := { frames := 8, cells := 1, slots := 6, locals := 127 }
set_option maxHeartbeats 4000000 in
set_option maxRecDepth 100000 in
theorem tL_rob (l : Launch) (Γ : zG) (lo : zId → Nat) (S : zSt) (X : va_W) {i_1 : Int32} {i_2 : Int32} (v_z : zV S (10, 0, 0) = true) {y : (Int32 × zSt)} (hf : fX9_rob S i_1 i_2 = some (Sum.inr y)) : Met l yL_rob wsL_rob rmL_rob (zPL Γ lo S X [.ref (lo (10, 0, 0)), .int i_1, .int i_2]) (zQn Γ lo S y.2 X (fun _ => some (.int y.1)) (fun _ => True)) 1 6 (zA Γ) := by
  refine va_MetW (cc := cL_rob) (maxL := 4) (ret := (some .int)) (hh := [(0, 6, 7, 23), (0, 6, 11, 13), (0, 6, 15, 16)]) (by decide) rfl ?_
  intro p e s m args below meth c s₁ B hml hv
  obtain ⟨rfl, hW, hKK, hKX, hKY, hKN⟩ := hv
  have hx := B.exec
  have hb := B.bytes
  have hr := B.returns
  have hts := atoms_spec (ws := wsL_rob) B.pre
  have ht : c.exceptionTable.toList = tableOf [(0, 6, 7, 23), (0, 6, 11, 13), (0, 6, 15, 16)] := vx_table (x := yL_rob) B (hts _ (List.mem_of_getElem? (i := 0) rfl))
  have hown : s.vm.findClass RL = some m.cls := findClass_of_methodNamed B.named
  have hlocks := B.notSynchronized
  have hS : va_S (zA Γ) s.heap s.heap [] := va_S.rf
  have hl := lv_entry ([.ref (lo (10, 0, 0)), .int i_1, .int i_2]) (n := 4) (Nat.le_of_ble_eq_true rfl)
  rw [lg_entry_eq]
  generalize (lg_sl ([.ref (lo (10, 0, 0)), .int i_1, .int i_2]) ++ List.replicate (4 - (lg_sl ([.ref (lo (10, 0, 0)), .int i_1, .int i_2])).length) Slot.unset).toArray = ls at hl ⊢
  have hl : lv_has ls 4 [(0, .ref (lo (10, 0, 0))), (1, .int i_1), (2, .int i_2)] := hl
  generalize ([.ref (lo (10, 0, 0)), .int i_1, .int i_2] : List Value).toArray = args at hts ⊢
  obtain ⟨H, hH0⟩ : ∃ H, H = s.heap := ⟨_, rfl⟩
  obtain ⟨locs, hlo0⟩ : ∃ L : List Loc, L = [] := ⟨_, rfl⟩
  have hS : va_S (zA Γ) s.heap H locs := by rw [hH0, hlo0]; exact hS
  have hW : Wd Γ lo S X H := by rw [hH0]; exact hW
  rw [← hH0, ← hlo0]
  refine lv_aload_n hx hb dL_rob_0 rfl (lv_at hl 0 rfl) ?_
  refine lv_iload_n hx hb dL_rob_1 rfl (lv_at hl 1 rfl) ?_
  refine lv_iload_n hx hb dL_rob_2 rfl (lv_at hl 2 rfl) ?_
  refine z_callV (As := [.int i_1, .int i_2]) (rest := []) ⟨hx, hb, hml, hown, hts⟩ (tX9_rob l Γ lo S X v_z hf) (cwV 2 hts gL_rob_X9_rob rfl rfl rfl (by decide +kernel) ⟨Nat.le_of_ble_eq_true rfl, Nat.le_of_ble_eq_true rfl⟩) (wd_1 hW v_z) rfl hKK hW hS rfl hl.1 rfl (Nat.le_of_ble_eq_true rfl) dL_rob_3 ⟨Nat.zero_le _, Nat.zero_le _⟩ (fun H locs hW hS hm1 hE => ?_)
  exact n_iret hx hb hr hlocks (Nat.le_of_ble_eq_true rfl) (Nat.le_of_ble_eq_true rfl) rfl rfl hW hS (fun _ _ => rfl) (fun d hd => (hm1 d).trans hd) trivial dL_rob_6
set_option maxHeartbeats 4000000 in
set_option maxRecDepth 100000 in
theorem uL_rob (l : Launch) (hl0 : l.stackTraces = false) (Γ : zG) (lo : zId → Nat) (S : zSt) (X : va_W) {i_1 : Int32} {i_2 : Int32} (v_z : zV S (10, 0, 0) = true) {ee : Nat × zSt} (hf : fX9_rob S i_1 i_2 = some (Sum.inl ee)) (hn : ee.1 = 1 ∨ ee.1 = 2 ∨ ee.1 = 3) : Met l yL_rob wsL_rob rmL_rob (zPL Γ lo S X [.ref (lo (10, 0, 0)), .int i_1, .int i_2]) (zQn Γ lo S ee.2 X (fun _ => some (.int (exC ee.1))) (fun _ => True)) 1 6 (zA Γ) := by
  refine va_MetW (cc := cL_rob) (maxL := 4) (ret := (some .int)) (hh := [(0, 6, 7, 23), (0, 6, 11, 13), (0, 6, 15, 16)]) (by decide) rfl ?_
  intro p e s m args below meth c s₁ B hml hv
  obtain ⟨rfl, hW, hKK, hKX, hKY, hKN⟩ := hv
  have hx := B.exec
  have hb := B.bytes
  have hr := B.returns
  have hts := atoms_spec (ws := wsL_rob) B.pre
  have ht : c.exceptionTable.toList = tableOf [(0, 6, 7, 23), (0, 6, 11, 13), (0, 6, 15, 16)] := vx_table (x := yL_rob) B (hts _ (List.mem_of_getElem? (i := 0) rfl))
  have hown : s.vm.findClass RL = some m.cls := findClass_of_methodNamed B.named
  have hlocks := B.notSynchronized
  have hS : va_S (zA Γ) s.heap s.heap [] := va_S.rf
  have hl := lv_entry ([.ref (lo (10, 0, 0)), .int i_1, .int i_2]) (n := 4) (Nat.le_of_ble_eq_true rfl)
  rw [lg_entry_eq]
  generalize (lg_sl ([.ref (lo (10, 0, 0)), .int i_1, .int i_2]) ++ List.replicate (4 - (lg_sl ([.ref (lo (10, 0, 0)), .int i_1, .int i_2])).length) Slot.unset).toArray = ls at hl ⊢
  have hl : lv_has ls 4 [(0, .ref (lo (10, 0, 0))), (1, .int i_1), (2, .int i_2)] := hl
  generalize ([.ref (lo (10, 0, 0)), .int i_1, .int i_2] : List Value).toArray = args at hts ⊢
  obtain ⟨H, hH0⟩ : ∃ H, H = s.heap := ⟨_, rfl⟩
  obtain ⟨locs, hlo0⟩ : ∃ L : List Loc, L = [] := ⟨_, rfl⟩
  have hS : va_S (zA Γ) s.heap H locs := by rw [hH0, hlo0]; exact hS
  have hW : Wd Γ lo S X H := by rw [hH0]; exact hW
  rw [← hH0, ← hlo0]
  refine lv_aload_n hx hb dL_rob_0 rfl (lv_at hl 0 rfl) ?_
  refine lv_iload_n hx hb dL_rob_1 rfl (lv_at hl 1 rfl) ?_
  refine lv_iload_n hx hb dL_rob_2 rfl (lv_at hl 2 rfl) ?_
  refine l_thr (rest := []) (vx_runV (As := [.int i_1, .int i_2]) ⟨hx, hb, hml, hown, hts⟩ (uX9_rob l hl0 Γ lo S X v_z hf) (cwV 2 hts gL_rob_X9_rob rfl rfl rfl (by decide +kernel) ⟨Nat.le_of_ble_eq_true rfl, Nat.le_of_ble_eq_true rfl⟩) ⟨fun _ _ _ _ q => q, va_recv (q0 := 0) hKK.1 (wd_1 hW v_z) rfl rfl, fun _ hU hW1 => ⟨rfl, by rw [hU]; exact hW, hKK.go hS hU hW1, hKX.go hW1⟩⟩ rfl rfl hl.1 rfl (lv_room (Nat.le_of_ble_eq_true rfl)) dL_rob_3 ⟨Nat.le_of_ble_eq_true rfl, Nat.le_of_ble_eq_true rfl⟩) hS (fun q H locs ce hW hS hm1 hce hcv hcl => ?_)
  obtain ⟨en, eS⟩ := ee
  dsimp only at hn hW hm1 hcl ⊢
  rcases hn with rfl | rfl | rfl
  · refine vx_catch (own := RL) (name := "java/lang/IndexOutOfBoundsException") hown [] ⟨0, 6, 7, 23⟩ [⟨0, 6, 11, 13⟩, ⟨0, 6, 15, 16⟩] ht (fun z hz => by cases hz) rfl (Nat.succ_ne_zero _) (hts (.classLink RL 23 "java/lang/IndexOutOfBoundsException") (List.mem_of_getElem? (i := 1) rfl)) (va_Nw.use rfl (hKX.2.2 1)) hce hcv hcl ?_
    refine lv_astore_n (lv' := [(3, .ref q), (0, .ref (lo (10, 0, 0))), (1, .int i_1), (2, .int i_2)]) hx hb dL_rob_7 rfl hl (by decide) rfl (fun ls hl => ?_)
    refine lv_ldc hx hb hown (hts (.constant RL 25 (-2000000001)) (List.mem_of_getElem? (i := 4) rfl)) dL_rob_8 ?_
    exact n_iret hx hb hr hlocks (Nat.le_of_ble_eq_true rfl) (Nat.le_of_ble_eq_true rfl) rfl (congrArg (fun z => some (Value.int z)) (show exC 1 = -2000000001 by decide)) hW hS (fun _ _ => rfl) (fun d hd => (hm1 d).trans hd) trivial dL_rob_10
  · refine vx_catch (own := RL) (name := "java/lang/IllegalArgumentException") hown [⟨0, 6, 7, 23⟩] ⟨0, 6, 11, 13⟩ [⟨0, 6, 15, 16⟩] ht (fun z hz => by cases hz with | head => exact Or.inr ⟨Nat.succ_ne_zero _, _, (hts (.classLink RL 23 "java/lang/IndexOutOfBoundsException") (List.mem_of_getElem? (i := 1) rfl)), hKN _ (List.mem_of_getElem? (i := 0) rfl)⟩ | tail _ hz => cases hz) rfl (Nat.succ_ne_zero _) (hts (.classLink RL 13 "java/lang/IllegalArgumentException") (List.mem_of_getElem? (i := 2) rfl)) (va_Nw.use rfl (hKX.2.2 2)) hce hcv hcl ?_
    refine lv_astore_n (lv' := [(3, .ref q), (0, .ref (lo (10, 0, 0))), (1, .int i_1), (2, .int i_2)]) hx hb dL_rob_11 rfl hl (by decide) rfl (fun ls hl => ?_)
    refine lv_ldc hx hb hown (hts (.constant RL 15 (-2000000002)) (List.mem_of_getElem? (i := 5) rfl)) dL_rob_12 ?_
    exact n_iret hx hb hr hlocks (Nat.le_of_ble_eq_true rfl) (Nat.le_of_ble_eq_true rfl) rfl (congrArg (fun z => some (Value.int z)) (show exC 2 = -2000000002 by decide)) hW hS (fun _ _ => rfl) (fun d hd => (hm1 d).trans hd) trivial dL_rob_14
  · refine vx_catch (own := RL) (name := "java/lang/IllegalStateException") hown [⟨0, 6, 7, 23⟩, ⟨0, 6, 11, 13⟩] ⟨0, 6, 15, 16⟩ [] ht (fun z hz => by cases hz with | head => exact Or.inr ⟨Nat.succ_ne_zero _, _, (hts (.classLink RL 23 "java/lang/IndexOutOfBoundsException") (List.mem_of_getElem? (i := 1) rfl)), hKN _ (List.mem_of_getElem? (i := 1) rfl)⟩ | tail _ hz => cases hz with | head => exact Or.inr ⟨Nat.succ_ne_zero _, _, (hts (.classLink RL 13 "java/lang/IllegalArgumentException") (List.mem_of_getElem? (i := 2) rfl)), hKN _ (List.mem_of_getElem? (i := 2) rfl)⟩ | tail _ hz => cases hz) rfl (Nat.succ_ne_zero _) (hts (.classLink RL 16 "java/lang/IllegalStateException") (List.mem_of_getElem? (i := 3) rfl)) (va_Nw.use rfl (hKX.2.2 3)) hce hcv hcl ?_
    refine lv_astore_n (lv' := [(3, .ref q), (0, .ref (lo (10, 0, 0))), (1, .int i_1), (2, .int i_2)]) hx hb dL_rob_15 rfl hl (by decide) rfl (fun ls hl => ?_)
    refine lv_ldc hx hb hown (hts (.constant RL 18 (-2000000003)) (List.mem_of_getElem? (i := 6) rfl)) dL_rob_16 ?_
    exact n_iret hx hb hr hlocks (Nat.le_of_ble_eq_true rfl) (Nat.le_of_ble_eq_true rfl) rfl (congrArg (fun z => some (Value.int z)) (show exC 3 = -2000000003 by decide)) hW hS (fun _ _ => rfl) (fun d hd => (hm1 d).trans hd) trivial dL_rob_18

abbrev rmL_box : Room := { frames := 8, cells := 1, slots := 6, locals := 124 }
set_option maxHeartbeats 4000000 in
set_option maxRecDepth 100000 in
theorem tL_box (l : Launch) (Γ : zG) (lo : zId → Nat) (S : zSt) (X : va_W) {i_1 : Int32} (v_z : zV S (10, 0, 0) = true) {y : Int32} (hf : fX9_box S i_1 = some (Sum.inr y)) : Met l yL_box wsL_box rmL_box (zPL Γ lo S X [.ref (lo (10, 0, 0)), .int i_1]) (zQn Γ lo S S X (fun _ => some (.int y)) (fun _ => True)) 1 6 (zA Γ) := by
  refine va_MetW (cc := cL_box) (maxL := 3) (ret := (some .int)) (hh := [(0, 5, 6, 23)]) (by decide) rfl ?_
  intro p e s m args below meth c s₁ B hml hv
  obtain ⟨rfl, hW, hKK, hKX, hKY, hKN⟩ := hv
  have hx := B.exec
  have hb := B.bytes
  have hr := B.returns
  have hts := atoms_spec (ws := wsL_box) B.pre
  have ht : c.exceptionTable.toList = tableOf [(0, 5, 6, 23)] := vx_table (x := yL_box) B (hts _ (List.mem_of_getElem? (i := 0) rfl))
  have hown : s.vm.findClass RL = some m.cls := findClass_of_methodNamed B.named
  have hlocks := B.notSynchronized
  have hS : va_S (zA Γ) s.heap s.heap [] := va_S.rf
  have hl := lv_entry ([.ref (lo (10, 0, 0)), .int i_1]) (n := 3) (Nat.le_of_ble_eq_true rfl)
  rw [lg_entry_eq]
  generalize (lg_sl ([.ref (lo (10, 0, 0)), .int i_1]) ++ List.replicate (3 - (lg_sl ([.ref (lo (10, 0, 0)), .int i_1])).length) Slot.unset).toArray = ls at hl ⊢
  have hl : lv_has ls 3 [(0, .ref (lo (10, 0, 0))), (1, .int i_1)] := hl
  generalize ([.ref (lo (10, 0, 0)), .int i_1] : List Value).toArray = args at hts ⊢
  obtain ⟨H, hH0⟩ : ∃ H, H = s.heap := ⟨_, rfl⟩
  obtain ⟨locs, hlo0⟩ : ∃ L : List Loc, L = [] := ⟨_, rfl⟩
  have hS : va_S (zA Γ) s.heap H locs := by rw [hH0, hlo0]; exact hS
  have hW : Wd Γ lo S X H := by rw [hH0]; exact hW
  rw [← hH0, ← hlo0]
  refine lv_aload_n hx hb dL_box_0 rfl (lv_at hl 0 rfl) ?_
  refine lv_iload_n hx hb dL_box_1 rfl (lv_at hl 1 rfl) ?_
  refine z_callV (As := [.int i_1]) (rest := []) ⟨hx, hb, hml, hown, hts⟩ (tX9_box l Γ lo S X v_z hf) (cwV 1 hts gL_box_X9_box rfl rfl rfl (by decide +kernel) ⟨Nat.le_of_ble_eq_true rfl, Nat.le_of_ble_eq_true rfl⟩) (wd_1 hW v_z) rfl hKK hW hS rfl hl.1 rfl (Nat.le_of_ble_eq_true rfl) dL_box_2 ⟨Nat.zero_le _, Nat.zero_le _⟩ (fun H locs hW hS hm1 hE => ?_)
  exact n_iret hx hb hr hlocks (Nat.le_of_ble_eq_true rfl) (Nat.le_of_ble_eq_true rfl) rfl rfl hW hS (fun _ _ => rfl) (fun d hd => (hm1 d).trans hd) trivial dL_box_5
set_option maxHeartbeats 4000000 in
set_option maxRecDepth 100000 in
theorem uL_box (l : Launch) (hl0 : l.stackTraces = false) (Γ : zG) (lo : zId → Nat) (S : zSt) (X : va_W) {i_1 : Int32} (v_z : zV S (10, 0, 0) = true) {ee : Nat × zSt} (hf : fX9_box S i_1 = some (Sum.inl ee)) (hn : ee.1 = 1) : Met l yL_box wsL_box rmL_box (zPL Γ lo S X [.ref (lo (10, 0, 0)), .int i_1]) (zQn Γ lo S ee.2 X (fun _ => some (.int (exC ee.1))) (fun _ => True)) 1 6 (zA Γ) := by
  refine va_MetW (cc := cL_box) (maxL := 3) (ret := (some .int)) (hh := [(0, 5, 6, 23)]) (by decide) rfl ?_
  intro p e s m args below meth c s₁ B hml hv
  obtain ⟨rfl, hW, hKK, hKX, hKY, hKN⟩ := hv
  have hx := B.exec
  have hb := B.bytes
  have hr := B.returns
  have hts := atoms_spec (ws := wsL_box) B.pre
  have ht : c.exceptionTable.toList = tableOf [(0, 5, 6, 23)] := vx_table (x := yL_box) B (hts _ (List.mem_of_getElem? (i := 0) rfl))
  have hown : s.vm.findClass RL = some m.cls := findClass_of_methodNamed B.named
  have hlocks := B.notSynchronized
  have hS : va_S (zA Γ) s.heap s.heap [] := va_S.rf
  have hl := lv_entry ([.ref (lo (10, 0, 0)), .int i_1]) (n := 3) (Nat.le_of_ble_eq_true rfl)
  rw [lg_entry_eq]
  generalize (lg_sl ([.ref (lo (10, 0, 0)), .int i_1]) ++ List.replicate (3 - (lg_sl ([.ref (lo (10, 0, 0)), .int i_1])).length) Slot.unset).toArray = ls at hl ⊢
  have hl : lv_has ls 3 [(0, .ref (lo (10, 0, 0))), (1, .int i_1)] := hl
  generalize ([.ref (lo (10, 0, 0)), .int i_1] : List Value).toArray = args at hts ⊢
  obtain ⟨H, hH0⟩ : ∃ H, H = s.heap := ⟨_, rfl⟩
  obtain ⟨locs, hlo0⟩ : ∃ L : List Loc, L = [] := ⟨_, rfl⟩
  have hS : va_S (zA Γ) s.heap H locs := by rw [hH0, hlo0]; exact hS
  have hW : Wd Γ lo S X H := by rw [hH0]; exact hW
  rw [← hH0, ← hlo0]
  refine lv_aload_n hx hb dL_box_0 rfl (lv_at hl 0 rfl) ?_
  refine lv_iload_n hx hb dL_box_1 rfl (lv_at hl 1 rfl) ?_
  refine l_thr (rest := []) (vx_runV (As := [.int i_1]) ⟨hx, hb, hml, hown, hts⟩ (uX9_box l hl0 Γ lo S X v_z hf) (cwV 1 hts gL_box_X9_box rfl rfl rfl (by decide +kernel) ⟨Nat.le_of_ble_eq_true rfl, Nat.le_of_ble_eq_true rfl⟩) ⟨fun _ _ _ _ q => q, va_recv (q0 := 0) hKK.1 (wd_1 hW v_z) rfl rfl, fun _ hU hW1 => ⟨rfl, by rw [hU]; exact hW, hKK.go hS hU hW1, hKX.go hW1⟩⟩ rfl rfl hl.1 rfl (lv_room (Nat.le_of_ble_eq_true rfl)) dL_box_2 ⟨Nat.le_of_ble_eq_true rfl, Nat.le_of_ble_eq_true rfl⟩) hS (fun q H locs ce hW hS hm1 hce hcv hcl => ?_)
  obtain ⟨en, eS⟩ := ee
  dsimp only at hn hW hm1 hcl ⊢
  subst hn
  refine vx_catch (own := RL) (name := "java/lang/IndexOutOfBoundsException") hown [] ⟨0, 5, 6, 23⟩ [] ht (fun z hz => by cases hz) rfl (Nat.succ_ne_zero _) (hts (.classLink RL 23 "java/lang/IndexOutOfBoundsException") (List.mem_of_getElem? (i := 1) rfl)) (va_Nw.use rfl (hKX.2.2 1)) hce hcv hcl ?_
  refine lv_astore_n (lv' := [(2, .ref q), (0, .ref (lo (10, 0, 0))), (1, .int i_1)]) hx hb dL_box_6 rfl hl (by decide) rfl (fun ls hl => ?_)
  refine lv_ldc hx hb hown (hts (.constant RL 25 (-2000000001)) (List.mem_of_getElem? (i := 2) rfl)) dL_box_7 ?_
  exact n_iret hx hb hr hlocks (Nat.le_of_ble_eq_true rfl) (Nat.le_of_ble_eq_true rfl) rfl (congrArg (fun z => some (Value.int z)) (show exC 1 = -2000000001 by decide)) hW hS (fun _ _ => rfl) (fun d hd => (hm1 d).trans hd) trivial dL_box_9

abbrev rmL_missing : Room := { frames := 8, cells := 1, slots := 6, locals := 124 }
set_option maxHeartbeats 4000000 in
set_option maxRecDepth 100000 in
theorem tL_missing (l : Launch) (Γ : zG) (lo : zId → Nat) (S : zSt) (X : va_W) {i_1 : Int32} (v_z : zV S (10, 0, 0) = true) {y : Int32} (hf : fX9_missing S i_1 = some (Sum.inr y)) : Met l yL_missing wsL_missing rmL_missing (zPL Γ lo S X [.ref (lo (10, 0, 0)), .int i_1]) (zQn Γ lo S S X (fun _ => some (.int y)) (fun _ => True)) 1 6 (zA Γ) := by
  refine va_MetW (cc := cL_missing) (maxL := 3) (ret := (some .int)) (hh := [(0, 5, 6, 23)]) (by decide) rfl ?_
  intro p e s m args below meth c s₁ B hml hv
  obtain ⟨rfl, hW, hKK, hKX, hKY, hKN⟩ := hv
  have hx := B.exec
  have hb := B.bytes
  have hr := B.returns
  have hts := atoms_spec (ws := wsL_missing) B.pre
  have ht : c.exceptionTable.toList = tableOf [(0, 5, 6, 23)] := vx_table (x := yL_missing) B (hts _ (List.mem_of_getElem? (i := 0) rfl))
  have hown : s.vm.findClass RL = some m.cls := findClass_of_methodNamed B.named
  have hlocks := B.notSynchronized
  have hS : va_S (zA Γ) s.heap s.heap [] := va_S.rf
  have hl := lv_entry ([.ref (lo (10, 0, 0)), .int i_1]) (n := 3) (Nat.le_of_ble_eq_true rfl)
  rw [lg_entry_eq]
  generalize (lg_sl ([.ref (lo (10, 0, 0)), .int i_1]) ++ List.replicate (3 - (lg_sl ([.ref (lo (10, 0, 0)), .int i_1])).length) Slot.unset).toArray = ls at hl ⊢
  have hl : lv_has ls 3 [(0, .ref (lo (10, 0, 0))), (1, .int i_1)] := hl
  generalize ([.ref (lo (10, 0, 0)), .int i_1] : List Value).toArray = args at hts ⊢
  obtain ⟨H, hH0⟩ : ∃ H, H = s.heap := ⟨_, rfl⟩
  obtain ⟨locs, hlo0⟩ : ∃ L : List Loc, L = [] := ⟨_, rfl⟩
  have hS : va_S (zA Γ) s.heap H locs := by rw [hH0, hlo0]; exact hS
  have hW : Wd Γ lo S X H := by rw [hH0]; exact hW
  rw [← hH0, ← hlo0]
  refine lv_aload_n hx hb dL_missing_0 rfl (lv_at hl 0 rfl) ?_
  refine lv_iload_n hx hb dL_missing_1 rfl (lv_at hl 1 rfl) ?_
  refine z_callV (As := [.int i_1]) (rest := []) ⟨hx, hb, hml, hown, hts⟩ (tX9_missing l Γ lo S X v_z hf) (cwV 1 hts gL_missing_X9_missing rfl rfl rfl (by decide +kernel) ⟨Nat.le_of_ble_eq_true rfl, Nat.le_of_ble_eq_true rfl⟩) (wd_1 hW v_z) rfl hKK hW hS rfl hl.1 rfl (Nat.le_of_ble_eq_true rfl) dL_missing_2 ⟨Nat.zero_le _, Nat.zero_le _⟩ (fun H locs hW hS hm1 hE => ?_)
  exact n_iret hx hb hr hlocks (Nat.le_of_ble_eq_true rfl) (Nat.le_of_ble_eq_true rfl) rfl rfl hW hS (fun _ _ => rfl) (fun d hd => (hm1 d).trans hd) trivial dL_missing_5
set_option maxHeartbeats 4000000 in
set_option maxRecDepth 100000 in
theorem uL_missing (l : Launch) (hl0 : l.stackTraces = false) (Γ : zG) (lo : zId → Nat) (S : zSt) (X : va_W) {i_1 : Int32} (v_z : zV S (10, 0, 0) = true) {ee : Nat × zSt} (hf : fX9_missing S i_1 = some (Sum.inl ee)) (hn : ee.1 = 1) : Met l yL_missing wsL_missing rmL_missing (zPL Γ lo S X [.ref (lo (10, 0, 0)), .int i_1]) (zQn Γ lo S ee.2 X (fun _ => some (.int (exC ee.1))) (fun _ => True)) 1 6 (zA Γ) := by
  refine va_MetW (cc := cL_missing) (maxL := 3) (ret := (some .int)) (hh := [(0, 5, 6, 23)]) (by decide) rfl ?_
  intro p e s m args below meth c s₁ B hml hv
  obtain ⟨rfl, hW, hKK, hKX, hKY, hKN⟩ := hv
  have hx := B.exec
  have hb := B.bytes
  have hr := B.returns
  have hts := atoms_spec (ws := wsL_missing) B.pre
  have ht : c.exceptionTable.toList = tableOf [(0, 5, 6, 23)] := vx_table (x := yL_missing) B (hts _ (List.mem_of_getElem? (i := 0) rfl))
  have hown : s.vm.findClass RL = some m.cls := findClass_of_methodNamed B.named
  have hlocks := B.notSynchronized
  have hS : va_S (zA Γ) s.heap s.heap [] := va_S.rf
  have hl := lv_entry ([.ref (lo (10, 0, 0)), .int i_1]) (n := 3) (Nat.le_of_ble_eq_true rfl)
  rw [lg_entry_eq]
  generalize (lg_sl ([.ref (lo (10, 0, 0)), .int i_1]) ++ List.replicate (3 - (lg_sl ([.ref (lo (10, 0, 0)), .int i_1])).length) Slot.unset).toArray = ls at hl ⊢
  have hl : lv_has ls 3 [(0, .ref (lo (10, 0, 0))), (1, .int i_1)] := hl
  generalize ([.ref (lo (10, 0, 0)), .int i_1] : List Value).toArray = args at hts ⊢
  obtain ⟨H, hH0⟩ : ∃ H, H = s.heap := ⟨_, rfl⟩
  obtain ⟨locs, hlo0⟩ : ∃ L : List Loc, L = [] := ⟨_, rfl⟩
  have hS : va_S (zA Γ) s.heap H locs := by rw [hH0, hlo0]; exact hS
  have hW : Wd Γ lo S X H := by rw [hH0]; exact hW
  rw [← hH0, ← hlo0]
  refine lv_aload_n hx hb dL_missing_0 rfl (lv_at hl 0 rfl) ?_
  refine lv_iload_n hx hb dL_missing_1 rfl (lv_at hl 1 rfl) ?_
  refine l_thr (rest := []) (vx_runV (As := [.int i_1]) ⟨hx, hb, hml, hown, hts⟩ (uX9_missing l hl0 Γ lo S X v_z hf) (cwV 1 hts gL_missing_X9_missing rfl rfl rfl (by decide +kernel) ⟨Nat.le_of_ble_eq_true rfl, Nat.le_of_ble_eq_true rfl⟩) ⟨fun _ _ _ _ q => q, va_recv (q0 := 0) hKK.1 (wd_1 hW v_z) rfl rfl, fun _ hU hW1 => ⟨rfl, by rw [hU]; exact hW, hKK.go hS hU hW1, hKX.go hW1⟩⟩ rfl rfl hl.1 rfl (lv_room (Nat.le_of_ble_eq_true rfl)) dL_missing_2 ⟨Nat.le_of_ble_eq_true rfl, Nat.le_of_ble_eq_true rfl⟩) hS (fun q H locs ce hW hS hm1 hce hcv hcl => ?_)
  obtain ⟨en, eS⟩ := ee
  dsimp only at hn hW hm1 hcl ⊢
  subst hn
  refine vx_catch (own := RL) (name := "java/lang/IndexOutOfBoundsException") hown [] ⟨0, 5, 6, 23⟩ [] ht (fun z hz => by cases hz) rfl (Nat.succ_ne_zero _) (hts (.classLink RL 23 "java/lang/IndexOutOfBoundsException") (List.mem_of_getElem? (i := 1) rfl)) (va_Nw.use rfl (hKX.2.2 1)) hce hcv hcl ?_
  refine lv_astore_n (lv' := [(2, .ref q), (0, .ref (lo (10, 0, 0))), (1, .int i_1)]) hx hb dL_missing_6 rfl hl (by decide) rfl (fun ls hl => ?_)
  refine lv_ldc hx hb hown (hts (.constant RL 25 (-2000000001)) (List.mem_of_getElem? (i := 2) rfl)) dL_missing_7 ?_
  exact n_iret hx hb hr hlocks (Nat.le_of_ble_eq_true rfl) (Nat.le_of_ble_eq_true rfl) rfl (congrArg (fun z => some (Value.int z)) (show exC 1 = -2000000001 by decide)) hW hS (fun _ _ => rfl) (fun d hd => (hm1 d).trans hd) trivial dL_missing_9

abbrev rmL_load : Room := { frames := 8, cells := 1, slots := 6, locals := 128 }
set_option maxHeartbeats 4000000 in
set_option maxRecDepth 100000 in
theorem tL_load (l : Launch) (Γ : zG) (lo : zId → Nat) (S : zSt) (X : va_W) {i_1 : Int32} {i_2 : Int32} {i_3 : Int32} (v_z : zV S (10, 0, 0) = true) {y : (Int32 × zSt)} (hf : fX9_load S i_1 i_2 i_3 = some (Sum.inr y)) : Met l yL_load wsL_load rmL_load (zPL Γ lo S X [.ref (lo (10, 0, 0)), .int i_1, .int i_2, .int i_3]) (zQn Γ lo S y.2 X (fun _ => some (.int y.1)) (fun _ => True)) 1 6 (zA Γ) := by
  refine va_MetW (cc := cL_load) (maxL := 5) (ret := (some .int)) (hh := [(0, 7, 8, 23), (0, 7, 13, 13), (0, 7, 18, 16)]) (by decide) rfl ?_
  intro p e s m args below meth c s₁ B hml hv
  obtain ⟨rfl, hW, hKK, hKX, hKY, hKN⟩ := hv
  have hx := B.exec
  have hb := B.bytes
  have hr := B.returns
  have hts := atoms_spec (ws := wsL_load) B.pre
  have ht : c.exceptionTable.toList = tableOf [(0, 7, 8, 23), (0, 7, 13, 13), (0, 7, 18, 16)] := vx_table (x := yL_load) B (hts _ (List.mem_of_getElem? (i := 0) rfl))
  have hown : s.vm.findClass RL = some m.cls := findClass_of_methodNamed B.named
  have hlocks := B.notSynchronized
  have hS : va_S (zA Γ) s.heap s.heap [] := va_S.rf
  have hl := lv_entry ([.ref (lo (10, 0, 0)), .int i_1, .int i_2, .int i_3]) (n := 5) (Nat.le_of_ble_eq_true rfl)
  rw [lg_entry_eq]
  generalize (lg_sl ([.ref (lo (10, 0, 0)), .int i_1, .int i_2, .int i_3]) ++ List.replicate (5 - (lg_sl ([.ref (lo (10, 0, 0)), .int i_1, .int i_2, .int i_3])).length) Slot.unset).toArray = ls at hl ⊢
  have hl : lv_has ls 5 [(0, .ref (lo (10, 0, 0))), (1, .int i_1), (2, .int i_2), (3, .int i_3)] := hl
  generalize ([.ref (lo (10, 0, 0)), .int i_1, .int i_2, .int i_3] : List Value).toArray = args at hts ⊢
  obtain ⟨H, hH0⟩ : ∃ H, H = s.heap := ⟨_, rfl⟩
  obtain ⟨locs, hlo0⟩ : ∃ L : List Loc, L = [] := ⟨_, rfl⟩
  have hS : va_S (zA Γ) s.heap H locs := by rw [hH0, hlo0]; exact hS
  have hW : Wd Γ lo S X H := by rw [hH0]; exact hW
  rw [← hH0, ← hlo0]
  refine lv_aload_n hx hb dL_load_0 rfl (lv_at hl 0 rfl) ?_
  refine lv_iload_n hx hb dL_load_1 rfl (lv_at hl 1 rfl) ?_
  refine lv_iload_n hx hb dL_load_2 rfl (lv_at hl 2 rfl) ?_
  refine lv_iload_n hx hb dL_load_3 rfl (lv_at hl 3 rfl) ?_
  refine z_callV (As := [.int i_1, .int i_2, .int i_3]) (rest := []) ⟨hx, hb, hml, hown, hts⟩ (tX9_load l Γ lo S X v_z hf) (cwV 3 hts gL_load_X9_load rfl rfl rfl (by decide +kernel) ⟨Nat.le_of_ble_eq_true rfl, Nat.le_of_ble_eq_true rfl⟩) (wd_1 hW v_z) rfl hKK hW hS rfl hl.1 rfl (Nat.le_of_ble_eq_true rfl) dL_load_4 ⟨Nat.zero_le _, Nat.zero_le _⟩ (fun H locs hW hS hm1 hE => ?_)
  exact n_iret hx hb hr hlocks (Nat.le_of_ble_eq_true rfl) (Nat.le_of_ble_eq_true rfl) rfl rfl hW hS (fun _ _ => rfl) (fun d hd => (hm1 d).trans hd) trivial dL_load_7
set_option maxHeartbeats 4000000 in
set_option maxRecDepth 100000 in
theorem uL_load (l : Launch) (hl0 : l.stackTraces = false) (Γ : zG) (lo : zId → Nat) (S : zSt) (X : va_W) {i_1 : Int32} {i_2 : Int32} {i_3 : Int32} (v_z : zV S (10, 0, 0) = true) {ee : Nat × zSt} (hf : fX9_load S i_1 i_2 i_3 = some (Sum.inl ee)) (hn : ee.1 = 1 ∨ ee.1 = 2 ∨ ee.1 = 3) : Met l yL_load wsL_load rmL_load (zPL Γ lo S X [.ref (lo (10, 0, 0)), .int i_1, .int i_2, .int i_3]) (zQn Γ lo S ee.2 X (fun _ => some (.int (exC ee.1))) (fun _ => True)) 1 6 (zA Γ) := by
  refine va_MetW (cc := cL_load) (maxL := 5) (ret := (some .int)) (hh := [(0, 7, 8, 23), (0, 7, 13, 13), (0, 7, 18, 16)]) (by decide) rfl ?_
  intro p e s m args below meth c s₁ B hml hv
  obtain ⟨rfl, hW, hKK, hKX, hKY, hKN⟩ := hv
  have hx := B.exec
  have hb := B.bytes
  have hr := B.returns
  have hts := atoms_spec (ws := wsL_load) B.pre
  have ht : c.exceptionTable.toList = tableOf [(0, 7, 8, 23), (0, 7, 13, 13), (0, 7, 18, 16)] := vx_table (x := yL_load) B (hts _ (List.mem_of_getElem? (i := 0) rfl))
  have hown : s.vm.findClass RL = some m.cls := findClass_of_methodNamed B.named
  have hlocks := B.notSynchronized
  have hS : va_S (zA Γ) s.heap s.heap [] := va_S.rf
  have hl := lv_entry ([.ref (lo (10, 0, 0)), .int i_1, .int i_2, .int i_3]) (n := 5) (Nat.le_of_ble_eq_true rfl)
  rw [lg_entry_eq]
  generalize (lg_sl ([.ref (lo (10, 0, 0)), .int i_1, .int i_2, .int i_3]) ++ List.replicate (5 - (lg_sl ([.ref (lo (10, 0, 0)), .int i_1, .int i_2, .int i_3])).length) Slot.unset).toArray = ls at hl ⊢
  have hl : lv_has ls 5 [(0, .ref (lo (10, 0, 0))), (1, .int i_1), (2, .int i_2), (3, .int i_3)] := hl
  generalize ([.ref (lo (10, 0, 0)), .int i_1, .int i_2, .int i_3] : List Value).toArray = args at hts ⊢
  obtain ⟨H, hH0⟩ : ∃ H, H = s.heap := ⟨_, rfl⟩
  obtain ⟨locs, hlo0⟩ : ∃ L : List Loc, L = [] := ⟨_, rfl⟩
  have hS : va_S (zA Γ) s.heap H locs := by rw [hH0, hlo0]; exact hS
  have hW : Wd Γ lo S X H := by rw [hH0]; exact hW
  rw [← hH0, ← hlo0]
  refine lv_aload_n hx hb dL_load_0 rfl (lv_at hl 0 rfl) ?_
  refine lv_iload_n hx hb dL_load_1 rfl (lv_at hl 1 rfl) ?_
  refine lv_iload_n hx hb dL_load_2 rfl (lv_at hl 2 rfl) ?_
  refine lv_iload_n hx hb dL_load_3 rfl (lv_at hl 3 rfl) ?_
  refine l_thr (rest := []) (vx_runV (As := [.int i_1, .int i_2, .int i_3]) ⟨hx, hb, hml, hown, hts⟩ (uX9_load l hl0 Γ lo S X v_z hf) (cwV 3 hts gL_load_X9_load rfl rfl rfl (by decide +kernel) ⟨Nat.le_of_ble_eq_true rfl, Nat.le_of_ble_eq_true rfl⟩) ⟨fun _ _ _ _ q => q, va_recv (q0 := 0) hKK.1 (wd_1 hW v_z) rfl rfl, fun _ hU hW1 => ⟨rfl, by rw [hU]; exact hW, hKK.go hS hU hW1, hKX.go hW1⟩⟩ rfl rfl hl.1 rfl (lv_room (Nat.le_of_ble_eq_true rfl)) dL_load_4 ⟨Nat.le_of_ble_eq_true rfl, Nat.le_of_ble_eq_true rfl⟩) hS (fun q H locs ce hW hS hm1 hce hcv hcl => ?_)
  obtain ⟨en, eS⟩ := ee
  dsimp only at hn hW hm1 hcl ⊢
  rcases hn with rfl | rfl | rfl
  · refine vx_catch (own := RL) (name := "java/lang/IndexOutOfBoundsException") hown [] ⟨0, 7, 8, 23⟩ [⟨0, 7, 13, 13⟩, ⟨0, 7, 18, 16⟩] ht (fun z hz => by cases hz) rfl (Nat.succ_ne_zero _) (hts (.classLink RL 23 "java/lang/IndexOutOfBoundsException") (List.mem_of_getElem? (i := 1) rfl)) (va_Nw.use rfl (hKX.2.2 1)) hce hcv hcl ?_
    refine lv_astore (lv' := [(4, .ref q), (0, .ref (lo (10, 0, 0))), (1, .int i_1), (2, .int i_2), (3, .int i_3)]) hx hb dL_load_8 hl (by decide) rfl (fun ls hl => ?_)
    refine lv_ldc hx hb hown (hts (.constant RL 25 (-2000000001)) (List.mem_of_getElem? (i := 4) rfl)) dL_load_10 ?_
    exact n_iret hx hb hr hlocks (Nat.le_of_ble_eq_true rfl) (Nat.le_of_ble_eq_true rfl) rfl (congrArg (fun z => some (Value.int z)) (show exC 1 = -2000000001 by decide)) hW hS (fun _ _ => rfl) (fun d hd => (hm1 d).trans hd) trivial dL_load_12
  · refine vx_catch (own := RL) (name := "java/lang/IllegalArgumentException") hown [⟨0, 7, 8, 23⟩] ⟨0, 7, 13, 13⟩ [⟨0, 7, 18, 16⟩] ht (fun z hz => by cases hz with | head => exact Or.inr ⟨Nat.succ_ne_zero _, _, (hts (.classLink RL 23 "java/lang/IndexOutOfBoundsException") (List.mem_of_getElem? (i := 1) rfl)), hKN _ (List.mem_of_getElem? (i := 0) rfl)⟩ | tail _ hz => cases hz) rfl (Nat.succ_ne_zero _) (hts (.classLink RL 13 "java/lang/IllegalArgumentException") (List.mem_of_getElem? (i := 2) rfl)) (va_Nw.use rfl (hKX.2.2 2)) hce hcv hcl ?_
    refine lv_astore (lv' := [(4, .ref q), (0, .ref (lo (10, 0, 0))), (1, .int i_1), (2, .int i_2), (3, .int i_3)]) hx hb dL_load_13 hl (by decide) rfl (fun ls hl => ?_)
    refine lv_ldc hx hb hown (hts (.constant RL 15 (-2000000002)) (List.mem_of_getElem? (i := 5) rfl)) dL_load_15 ?_
    exact n_iret hx hb hr hlocks (Nat.le_of_ble_eq_true rfl) (Nat.le_of_ble_eq_true rfl) rfl (congrArg (fun z => some (Value.int z)) (show exC 2 = -2000000002 by decide)) hW hS (fun _ _ => rfl) (fun d hd => (hm1 d).trans hd) trivial dL_load_17
  · refine vx_catch (own := RL) (name := "java/lang/IllegalStateException") hown [⟨0, 7, 8, 23⟩, ⟨0, 7, 13, 13⟩] ⟨0, 7, 18, 16⟩ [] ht (fun z hz => by cases hz with | head => exact Or.inr ⟨Nat.succ_ne_zero _, _, (hts (.classLink RL 23 "java/lang/IndexOutOfBoundsException") (List.mem_of_getElem? (i := 1) rfl)), hKN _ (List.mem_of_getElem? (i := 1) rfl)⟩ | tail _ hz => cases hz with | head => exact Or.inr ⟨Nat.succ_ne_zero _, _, (hts (.classLink RL 13 "java/lang/IllegalArgumentException") (List.mem_of_getElem? (i := 2) rfl)), hKN _ (List.mem_of_getElem? (i := 2) rfl)⟩ | tail _ hz => cases hz) rfl (Nat.succ_ne_zero _) (hts (.classLink RL 16 "java/lang/IllegalStateException") (List.mem_of_getElem? (i := 3) rfl)) (va_Nw.use rfl (hKX.2.2 3)) hce hcv hcl ?_
    refine lv_astore (lv' := [(4, .ref q), (0, .ref (lo (10, 0, 0))), (1, .int i_1), (2, .int i_2), (3, .int i_3)]) hx hb dL_load_18 hl (by decide) rfl (fun ls hl => ?_)
    refine lv_ldc hx hb hown (hts (.constant RL 18 (-2000000003)) (List.mem_of_getElem? (i := 6) rfl)) dL_load_20 ?_
    exact n_iret hx hb hr hlocks (Nat.le_of_ble_eq_true rfl) (Nat.le_of_ble_eq_true rfl) rfl (congrArg (fun z => some (Value.int z)) (show exC 3 = -2000000003 by decide)) hW hS (fun _ _ => rfl) (fun d hd => (hm1 d).trans hd) trivial dL_load_22

abbrev rmL_parts : Room := { frames := 8, cells := 1, slots := 6, locals := 127 }
set_option maxHeartbeats 4000000 in
set_option maxRecDepth 100000 in
theorem tL_parts (l : Launch) (Γ : zG) (lo : zId → Nat) (S : zSt) (X : va_W) {i_1 : Int32} {i_2 : Int32} (v_z : zV S (10, 0, 0) = true) {y : Int32} (hf : fX9_parts S i_1 i_2 = some (Sum.inr y)) : Met l yL_parts wsL_parts rmL_parts (zPL Γ lo S X [.ref (lo (10, 0, 0)), .int i_1, .int i_2]) (zQn Γ lo S S X (fun _ => some (.int y)) (fun _ => True)) 1 6 (zA Γ) := by
  refine va_MetW (cc := cL_parts) (maxL := 4) (ret := (some .int)) (hh := [(0, 6, 7, 23), (0, 6, 11, 13)]) (by decide) rfl ?_
  intro p e s m args below meth c s₁ B hml hv
  obtain ⟨rfl, hW, hKK, hKX, hKY, hKN⟩ := hv
  have hx := B.exec
  have hb := B.bytes
  have hr := B.returns
  have hts := atoms_spec (ws := wsL_parts) B.pre
  have ht : c.exceptionTable.toList = tableOf [(0, 6, 7, 23), (0, 6, 11, 13)] := vx_table (x := yL_parts) B (hts _ (List.mem_of_getElem? (i := 0) rfl))
  have hown : s.vm.findClass RL = some m.cls := findClass_of_methodNamed B.named
  have hlocks := B.notSynchronized
  have hS : va_S (zA Γ) s.heap s.heap [] := va_S.rf
  have hl := lv_entry ([.ref (lo (10, 0, 0)), .int i_1, .int i_2]) (n := 4) (Nat.le_of_ble_eq_true rfl)
  rw [lg_entry_eq]
  generalize (lg_sl ([.ref (lo (10, 0, 0)), .int i_1, .int i_2]) ++ List.replicate (4 - (lg_sl ([.ref (lo (10, 0, 0)), .int i_1, .int i_2])).length) Slot.unset).toArray = ls at hl ⊢
  have hl : lv_has ls 4 [(0, .ref (lo (10, 0, 0))), (1, .int i_1), (2, .int i_2)] := hl
  generalize ([.ref (lo (10, 0, 0)), .int i_1, .int i_2] : List Value).toArray = args at hts ⊢
  obtain ⟨H, hH0⟩ : ∃ H, H = s.heap := ⟨_, rfl⟩
  obtain ⟨locs, hlo0⟩ : ∃ L : List Loc, L = [] := ⟨_, rfl⟩
  have hS : va_S (zA Γ) s.heap H locs := by rw [hH0, hlo0]; exact hS
  have hW : Wd Γ lo S X H := by rw [hH0]; exact hW
  rw [← hH0, ← hlo0]
  refine lv_aload_n hx hb dL_parts_0 rfl (lv_at hl 0 rfl) ?_
  refine lv_iload_n hx hb dL_parts_1 rfl (lv_at hl 1 rfl) ?_
  refine lv_iload_n hx hb dL_parts_2 rfl (lv_at hl 2 rfl) ?_
  refine z_callV (As := [.int i_1, .int i_2]) (rest := []) ⟨hx, hb, hml, hown, hts⟩ (tX9_parts l Γ lo S X v_z hf) (cwV 2 hts gL_parts_X9_parts rfl rfl rfl (by decide +kernel) ⟨Nat.le_of_ble_eq_true rfl, Nat.le_of_ble_eq_true rfl⟩) (wd_1 hW v_z) rfl hKK hW hS rfl hl.1 rfl (Nat.le_of_ble_eq_true rfl) dL_parts_3 ⟨Nat.zero_le _, Nat.zero_le _⟩ (fun H locs hW hS hm1 hE => ?_)
  exact n_iret hx hb hr hlocks (Nat.le_of_ble_eq_true rfl) (Nat.le_of_ble_eq_true rfl) rfl rfl hW hS (fun _ _ => rfl) (fun d hd => (hm1 d).trans hd) trivial dL_parts_6
set_option maxHeartbeats 4000000 in
set_option maxRecDepth 100000 in
theorem uL_parts (l : Launch) (hl0 : l.stackTraces = false) (Γ : zG) (lo : zId → Nat) (S : zSt) (X : va_W) {i_1 : Int32} {i_2 : Int32} (v_z : zV S (10, 0, 0) = true) {ee : Nat × zSt} (hf : fX9_parts S i_1 i_2 = some (Sum.inl ee)) (hn : ee.1 = 1 ∨ ee.1 = 2) : Met l yL_parts wsL_parts rmL_parts (zPL Γ lo S X [.ref (lo (10, 0, 0)), .int i_1, .int i_2]) (zQn Γ lo S ee.2 X (fun _ => some (.int (exC ee.1))) (fun _ => True)) 1 6 (zA Γ) := by
  refine va_MetW (cc := cL_parts) (maxL := 4) (ret := (some .int)) (hh := [(0, 6, 7, 23), (0, 6, 11, 13)]) (by decide) rfl ?_
  intro p e s m args below meth c s₁ B hml hv
  obtain ⟨rfl, hW, hKK, hKX, hKY, hKN⟩ := hv
  have hx := B.exec
  have hb := B.bytes
  have hr := B.returns
  have hts := atoms_spec (ws := wsL_parts) B.pre
  have ht : c.exceptionTable.toList = tableOf [(0, 6, 7, 23), (0, 6, 11, 13)] := vx_table (x := yL_parts) B (hts _ (List.mem_of_getElem? (i := 0) rfl))
  have hown : s.vm.findClass RL = some m.cls := findClass_of_methodNamed B.named
  have hlocks := B.notSynchronized
  have hS : va_S (zA Γ) s.heap s.heap [] := va_S.rf
  have hl := lv_entry ([.ref (lo (10, 0, 0)), .int i_1, .int i_2]) (n := 4) (Nat.le_of_ble_eq_true rfl)
  rw [lg_entry_eq]
  generalize (lg_sl ([.ref (lo (10, 0, 0)), .int i_1, .int i_2]) ++ List.replicate (4 - (lg_sl ([.ref (lo (10, 0, 0)), .int i_1, .int i_2])).length) Slot.unset).toArray = ls at hl ⊢
  have hl : lv_has ls 4 [(0, .ref (lo (10, 0, 0))), (1, .int i_1), (2, .int i_2)] := hl
  generalize ([.ref (lo (10, 0, 0)), .int i_1, .int i_2] : List Value).toArray = args at hts ⊢
  obtain ⟨H, hH0⟩ : ∃ H, H = s.heap := ⟨_, rfl⟩
  obtain ⟨locs, hlo0⟩ : ∃ L : List Loc, L = [] := ⟨_, rfl⟩
  have hS : va_S (zA Γ) s.heap H locs := by rw [hH0, hlo0]; exact hS
  have hW : Wd Γ lo S X H := by rw [hH0]; exact hW
  rw [← hH0, ← hlo0]
  refine lv_aload_n hx hb dL_parts_0 rfl (lv_at hl 0 rfl) ?_
  refine lv_iload_n hx hb dL_parts_1 rfl (lv_at hl 1 rfl) ?_
  refine lv_iload_n hx hb dL_parts_2 rfl (lv_at hl 2 rfl) ?_
  refine l_thr (rest := []) (vx_runV (As := [.int i_1, .int i_2]) ⟨hx, hb, hml, hown, hts⟩ (uX9_parts l hl0 Γ lo S X v_z hf) (cwV 2 hts gL_parts_X9_parts rfl rfl rfl (by decide +kernel) ⟨Nat.le_of_ble_eq_true rfl, Nat.le_of_ble_eq_true rfl⟩) ⟨fun _ _ _ _ q => q, va_recv (q0 := 0) hKK.1 (wd_1 hW v_z) rfl rfl, fun _ hU hW1 => ⟨rfl, by rw [hU]; exact hW, hKK.go hS hU hW1, hKX.go hW1⟩⟩ rfl rfl hl.1 rfl (lv_room (Nat.le_of_ble_eq_true rfl)) dL_parts_3 ⟨Nat.le_of_ble_eq_true rfl, Nat.le_of_ble_eq_true rfl⟩) hS (fun q H locs ce hW hS hm1 hce hcv hcl => ?_)
  obtain ⟨en, eS⟩ := ee
  dsimp only at hn hW hm1 hcl ⊢
  rcases hn with rfl | rfl
  · refine vx_catch (own := RL) (name := "java/lang/IndexOutOfBoundsException") hown [] ⟨0, 6, 7, 23⟩ [⟨0, 6, 11, 13⟩] ht (fun z hz => by cases hz) rfl (Nat.succ_ne_zero _) (hts (.classLink RL 23 "java/lang/IndexOutOfBoundsException") (List.mem_of_getElem? (i := 1) rfl)) (va_Nw.use rfl (hKX.2.2 1)) hce hcv hcl ?_
    refine lv_astore_n (lv' := [(3, .ref q), (0, .ref (lo (10, 0, 0))), (1, .int i_1), (2, .int i_2)]) hx hb dL_parts_7 rfl hl (by decide) rfl (fun ls hl => ?_)
    refine lv_ldc hx hb hown (hts (.constant RL 25 (-2000000001)) (List.mem_of_getElem? (i := 3) rfl)) dL_parts_8 ?_
    exact n_iret hx hb hr hlocks (Nat.le_of_ble_eq_true rfl) (Nat.le_of_ble_eq_true rfl) rfl (congrArg (fun z => some (Value.int z)) (show exC 1 = -2000000001 by decide)) hW hS (fun _ _ => rfl) (fun d hd => (hm1 d).trans hd) trivial dL_parts_10
  · refine vx_catch (own := RL) (name := "java/lang/IllegalArgumentException") hown [⟨0, 6, 7, 23⟩] ⟨0, 6, 11, 13⟩ [] ht (fun z hz => by cases hz with | head => exact Or.inr ⟨Nat.succ_ne_zero _, _, (hts (.classLink RL 23 "java/lang/IndexOutOfBoundsException") (List.mem_of_getElem? (i := 1) rfl)), hKN _ (List.mem_of_getElem? (i := 0) rfl)⟩ | tail _ hz => cases hz) rfl (Nat.succ_ne_zero _) (hts (.classLink RL 13 "java/lang/IllegalArgumentException") (List.mem_of_getElem? (i := 2) rfl)) (va_Nw.use rfl (hKX.2.2 2)) hce hcv hcl ?_
    refine lv_astore_n (lv' := [(3, .ref q), (0, .ref (lo (10, 0, 0))), (1, .int i_1), (2, .int i_2)]) hx hb dL_parts_11 rfl hl (by decide) rfl (fun ls hl => ?_)
    refine lv_ldc hx hb hown (hts (.constant RL 15 (-2000000002)) (List.mem_of_getElem? (i := 4) rfl)) dL_parts_12 ?_
    exact n_iret hx hb hr hlocks (Nat.le_of_ble_eq_true rfl) (Nat.le_of_ble_eq_true rfl) rfl (congrArg (fun z => some (Value.int z)) (show exC 2 = -2000000002 by decide)) hW hS (fun _ _ => rfl) (fun d hd => (hm1 d).trans hd) trivial dL_parts_14

abbrev rmL_wanted : Room := { frames := 8, cells := 1, slots := 6, locals := 127 }
set_option maxHeartbeats 4000000 in
set_option maxRecDepth 100000 in
theorem tL_wanted (l : Launch) (Γ : zG) (lo : zId → Nat) (S : zSt) (X : va_W) {i_1 : Int32} (v_z : zV S (10, 0, 0) = true) {y : Int32} (hf : fX9_wanted S i_1 = some (Sum.inr y)) : Met l yL_wanted wsL_wanted rmL_wanted (zPL Γ lo S X [.ref (lo (10, 0, 0)), .int i_1]) (zQn Γ lo S S X (fun _ => some (.int y)) (fun _ => True)) 1 6 (zA Γ) := by
  refine va_MetW (cc := cL_wanted) (maxL := 3) (ret := (some .int)) (hh := [(0, 5, 6, 13)]) (by decide) rfl ?_
  intro p e s m args below meth c s₁ B hml hv
  obtain ⟨rfl, hW, hKK, hKX, hKY, hKN⟩ := hv
  have hx := B.exec
  have hb := B.bytes
  have hr := B.returns
  have hts := atoms_spec (ws := wsL_wanted) B.pre
  have ht : c.exceptionTable.toList = tableOf [(0, 5, 6, 13)] := vx_table (x := yL_wanted) B (hts _ (List.mem_of_getElem? (i := 0) rfl))
  have hown : s.vm.findClass RL = some m.cls := findClass_of_methodNamed B.named
  have hlocks := B.notSynchronized
  have hS : va_S (zA Γ) s.heap s.heap [] := va_S.rf
  have hl := lv_entry ([.ref (lo (10, 0, 0)), .int i_1]) (n := 3) (Nat.le_of_ble_eq_true rfl)
  rw [lg_entry_eq]
  generalize (lg_sl ([.ref (lo (10, 0, 0)), .int i_1]) ++ List.replicate (3 - (lg_sl ([.ref (lo (10, 0, 0)), .int i_1])).length) Slot.unset).toArray = ls at hl ⊢
  have hl : lv_has ls 3 [(0, .ref (lo (10, 0, 0))), (1, .int i_1)] := hl
  generalize ([.ref (lo (10, 0, 0)), .int i_1] : List Value).toArray = args at hts ⊢
  obtain ⟨H, hH0⟩ : ∃ H, H = s.heap := ⟨_, rfl⟩
  obtain ⟨locs, hlo0⟩ : ∃ L : List Loc, L = [] := ⟨_, rfl⟩
  have hS : va_S (zA Γ) s.heap H locs := by rw [hH0, hlo0]; exact hS
  have hW : Wd Γ lo S X H := by rw [hH0]; exact hW
  rw [← hH0, ← hlo0]
  refine lv_aload_n hx hb dL_wanted_0 rfl (lv_at hl 0 rfl) ?_
  refine lv_iload_n hx hb dL_wanted_1 rfl (lv_at hl 1 rfl) ?_
  refine z_callV (As := [.int i_1]) (rest := []) ⟨hx, hb, hml, hown, hts⟩ (tX9_wanted l Γ lo S X v_z hf) (cwV 1 hts gL_wanted_X9_wanted rfl rfl rfl (by decide +kernel) ⟨Nat.le_of_ble_eq_true rfl, Nat.le_of_ble_eq_true rfl⟩) (wd_1 hW v_z) rfl hKK hW hS rfl hl.1 rfl (Nat.le_of_ble_eq_true rfl) dL_wanted_2 ⟨Nat.zero_le _, Nat.zero_le _⟩ (fun H locs hW hS hm1 hE => ?_)
  exact n_iret hx hb hr hlocks (Nat.le_of_ble_eq_true rfl) (Nat.le_of_ble_eq_true rfl) rfl rfl hW hS (fun _ _ => rfl) (fun d hd => (hm1 d).trans hd) trivial dL_wanted_5
set_option maxHeartbeats 4000000 in
set_option maxRecDepth 100000 in
theorem uL_wanted (l : Launch) (hl0 : l.stackTraces = false) (Γ : zG) (lo : zId → Nat) (S : zSt) (X : va_W) {i_1 : Int32} (v_z : zV S (10, 0, 0) = true) {ee : Nat × zSt} (hf : fX9_wanted S i_1 = some (Sum.inl ee)) (hn : ee.1 = 2) : Met l yL_wanted wsL_wanted rmL_wanted (zPL Γ lo S X [.ref (lo (10, 0, 0)), .int i_1]) (zQn Γ lo S ee.2 X (fun _ => some (.int (exC ee.1))) (fun _ => True)) 1 6 (zA Γ) := by
  refine va_MetW (cc := cL_wanted) (maxL := 3) (ret := (some .int)) (hh := [(0, 5, 6, 13)]) (by decide) rfl ?_
  intro p e s m args below meth c s₁ B hml hv
  obtain ⟨rfl, hW, hKK, hKX, hKY, hKN⟩ := hv
  have hx := B.exec
  have hb := B.bytes
  have hr := B.returns
  have hts := atoms_spec (ws := wsL_wanted) B.pre
  have ht : c.exceptionTable.toList = tableOf [(0, 5, 6, 13)] := vx_table (x := yL_wanted) B (hts _ (List.mem_of_getElem? (i := 0) rfl))
  have hown : s.vm.findClass RL = some m.cls := findClass_of_methodNamed B.named
  have hlocks := B.notSynchronized
  have hS : va_S (zA Γ) s.heap s.heap [] := va_S.rf
  have hl := lv_entry ([.ref (lo (10, 0, 0)), .int i_1]) (n := 3) (Nat.le_of_ble_eq_true rfl)
  rw [lg_entry_eq]
  generalize (lg_sl ([.ref (lo (10, 0, 0)), .int i_1]) ++ List.replicate (3 - (lg_sl ([.ref (lo (10, 0, 0)), .int i_1])).length) Slot.unset).toArray = ls at hl ⊢
  have hl : lv_has ls 3 [(0, .ref (lo (10, 0, 0))), (1, .int i_1)] := hl
  generalize ([.ref (lo (10, 0, 0)), .int i_1] : List Value).toArray = args at hts ⊢
  obtain ⟨H, hH0⟩ : ∃ H, H = s.heap := ⟨_, rfl⟩
  obtain ⟨locs, hlo0⟩ : ∃ L : List Loc, L = [] := ⟨_, rfl⟩
  have hS : va_S (zA Γ) s.heap H locs := by rw [hH0, hlo0]; exact hS
  have hW : Wd Γ lo S X H := by rw [hH0]; exact hW
  rw [← hH0, ← hlo0]
  refine lv_aload_n hx hb dL_wanted_0 rfl (lv_at hl 0 rfl) ?_
  refine lv_iload_n hx hb dL_wanted_1 rfl (lv_at hl 1 rfl) ?_
  refine l_thr (rest := []) (vx_runV (As := [.int i_1]) ⟨hx, hb, hml, hown, hts⟩ (uX9_wanted l hl0 Γ lo S X v_z hf) (cwV 1 hts gL_wanted_X9_wanted rfl rfl rfl (by decide +kernel) ⟨Nat.le_of_ble_eq_true rfl, Nat.le_of_ble_eq_true rfl⟩) ⟨fun _ _ _ _ q => q, va_recv (q0 := 0) hKK.1 (wd_1 hW v_z) rfl rfl, fun _ hU hW1 => ⟨rfl, by rw [hU]; exact hW, hKK.go hS hU hW1, hKX.go hW1⟩⟩ rfl rfl hl.1 rfl (lv_room (Nat.le_of_ble_eq_true rfl)) dL_wanted_2 ⟨Nat.le_of_ble_eq_true rfl, Nat.le_of_ble_eq_true rfl⟩) hS (fun q H locs ce hW hS hm1 hce hcv hcl => ?_)
  obtain ⟨en, eS⟩ := ee
  dsimp only at hn hW hm1 hcl ⊢
  subst hn
  refine vx_catch (own := RL) (name := "java/lang/IllegalArgumentException") hown [] ⟨0, 5, 6, 13⟩ [] ht (fun z hz => by cases hz) rfl (Nat.succ_ne_zero _) (hts (.classLink RL 13 "java/lang/IllegalArgumentException") (List.mem_of_getElem? (i := 1) rfl)) (va_Nw.use rfl (hKX.2.2 2)) hce hcv hcl ?_
  refine lv_astore_n (lv' := [(2, .ref q), (0, .ref (lo (10, 0, 0))), (1, .int i_1)]) hx hb dL_wanted_6 rfl hl (by decide) rfl (fun ls hl => ?_)
  refine lv_ldc hx hb hown (hts (.constant RL 15 (-2000000002)) (List.mem_of_getElem? (i := 2) rfl)) dL_wanted_7 ?_
  exact n_iret hx hb hr hlocks (Nat.le_of_ble_eq_true rfl) (Nat.le_of_ble_eq_true rfl) rfl (congrArg (fun z => some (Value.int z)) (show exC 2 = -2000000002 by decide)) hW hS (fun _ _ => rfl) (fun d hd => (hm1 d).trans hd) trivial dL_wanted_9

abbrev rmL_way : Room := { frames := 8, cells := 1, slots := 6, locals := 176 }
set_option maxHeartbeats 4000000 in
set_option maxRecDepth 100000 in
theorem tL_way (l : Launch) (Γ : zG) (lo : zId → Nat) (S : zSt) (X : va_W) {i_1 : Int32} (v_z : zV S (10, 0, 0) = true) {y : (Int32 × zSt)} (hf : fX9_way S i_1 = some (Sum.inr y)) : Met l yL_way wsL_way rmL_way (zPL Γ lo S X [.ref (lo (10, 0, 0)), .int i_1]) (zQn Γ lo S y.2 X (fun _ => some (.int y.1)) (fun _ => True)) 1 6 (zA Γ) := by
  refine va_MetW (cc := cL_way) (maxL := 3) (ret := (some .int)) (hh := [(0, 5, 6, 23)]) (by decide) rfl ?_
  intro p e s m args below meth c s₁ B hml hv
  obtain ⟨rfl, hW, hKK, hKX, hKY, hKN⟩ := hv
  have hx := B.exec
  have hb := B.bytes
  have hr := B.returns
  have hts := atoms_spec (ws := wsL_way) B.pre
  have ht : c.exceptionTable.toList = tableOf [(0, 5, 6, 23)] := vx_table (x := yL_way) B (hts _ (List.mem_of_getElem? (i := 0) rfl))
  have hown : s.vm.findClass RL = some m.cls := findClass_of_methodNamed B.named
  have hlocks := B.notSynchronized
  have hS : va_S (zA Γ) s.heap s.heap [] := va_S.rf
  have hl := lv_entry ([.ref (lo (10, 0, 0)), .int i_1]) (n := 3) (Nat.le_of_ble_eq_true rfl)
  rw [lg_entry_eq]
  generalize (lg_sl ([.ref (lo (10, 0, 0)), .int i_1]) ++ List.replicate (3 - (lg_sl ([.ref (lo (10, 0, 0)), .int i_1])).length) Slot.unset).toArray = ls at hl ⊢
  have hl : lv_has ls 3 [(0, .ref (lo (10, 0, 0))), (1, .int i_1)] := hl
  generalize ([.ref (lo (10, 0, 0)), .int i_1] : List Value).toArray = args at hts ⊢
  obtain ⟨H, hH0⟩ : ∃ H, H = s.heap := ⟨_, rfl⟩
  obtain ⟨locs, hlo0⟩ : ∃ L : List Loc, L = [] := ⟨_, rfl⟩
  have hS : va_S (zA Γ) s.heap H locs := by rw [hH0, hlo0]; exact hS
  have hW : Wd Γ lo S X H := by rw [hH0]; exact hW
  rw [← hH0, ← hlo0]
  refine lv_aload_n hx hb dL_way_0 rfl (lv_at hl 0 rfl) ?_
  refine lv_iload_n hx hb dL_way_1 rfl (lv_at hl 1 rfl) ?_
  refine z_callV (As := [.int i_1]) (rest := []) ⟨hx, hb, hml, hown, hts⟩ (tX9_way l Γ lo S X v_z hf) (cwV 1 hts gL_way_X9_way rfl rfl rfl (by decide +kernel) ⟨Nat.le_of_ble_eq_true rfl, Nat.le_of_ble_eq_true rfl⟩) (wd_1 hW v_z) rfl hKK hW hS rfl hl.1 rfl (Nat.le_of_ble_eq_true rfl) dL_way_2 ⟨Nat.zero_le _, Nat.zero_le _⟩ (fun H locs hW hS hm1 hE => ?_)
  exact n_iret hx hb hr hlocks (Nat.le_of_ble_eq_true rfl) (Nat.le_of_ble_eq_true rfl) rfl rfl hW hS (fun _ _ => rfl) (fun d hd => (hm1 d).trans hd) trivial dL_way_5
set_option maxHeartbeats 4000000 in
set_option maxRecDepth 100000 in
theorem uL_way (l : Launch) (hl0 : l.stackTraces = false) (Γ : zG) (lo : zId → Nat) (S : zSt) (X : va_W) {i_1 : Int32} (v_z : zV S (10, 0, 0) = true) {ee : Nat × zSt} (hf : fX9_way S i_1 = some (Sum.inl ee)) (hn : ee.1 = 1) : Met l yL_way wsL_way rmL_way (zPL Γ lo S X [.ref (lo (10, 0, 0)), .int i_1]) (zQn Γ lo S ee.2 X (fun _ => some (.int (exC ee.1))) (fun _ => True)) 1 6 (zA Γ) := by
  refine va_MetW (cc := cL_way) (maxL := 3) (ret := (some .int)) (hh := [(0, 5, 6, 23)]) (by decide) rfl ?_
  intro p e s m args below meth c s₁ B hml hv
  obtain ⟨rfl, hW, hKK, hKX, hKY, hKN⟩ := hv
  have hx := B.exec
  have hb := B.bytes
  have hr := B.returns
  have hts := atoms_spec (ws := wsL_way) B.pre
  have ht : c.exceptionTable.toList = tableOf [(0, 5, 6, 23)] := vx_table (x := yL_way) B (hts _ (List.mem_of_getElem? (i := 0) rfl))
  have hown : s.vm.findClass RL = some m.cls := findClass_of_methodNamed B.named
  have hlocks := B.notSynchronized
  have hS : va_S (zA Γ) s.heap s.heap [] := va_S.rf
  have hl := lv_entry ([.ref (lo (10, 0, 0)), .int i_1]) (n := 3) (Nat.le_of_ble_eq_true rfl)
  rw [lg_entry_eq]
  generalize (lg_sl ([.ref (lo (10, 0, 0)), .int i_1]) ++ List.replicate (3 - (lg_sl ([.ref (lo (10, 0, 0)), .int i_1])).length) Slot.unset).toArray = ls at hl ⊢
  have hl : lv_has ls 3 [(0, .ref (lo (10, 0, 0))), (1, .int i_1)] := hl
  generalize ([.ref (lo (10, 0, 0)), .int i_1] : List Value).toArray = args at hts ⊢
  obtain ⟨H, hH0⟩ : ∃ H, H = s.heap := ⟨_, rfl⟩
  obtain ⟨locs, hlo0⟩ : ∃ L : List Loc, L = [] := ⟨_, rfl⟩
  have hS : va_S (zA Γ) s.heap H locs := by rw [hH0, hlo0]; exact hS
  have hW : Wd Γ lo S X H := by rw [hH0]; exact hW
  rw [← hH0, ← hlo0]
  refine lv_aload_n hx hb dL_way_0 rfl (lv_at hl 0 rfl) ?_
  refine lv_iload_n hx hb dL_way_1 rfl (lv_at hl 1 rfl) ?_
  refine l_thr (rest := []) (vx_runV (As := [.int i_1]) ⟨hx, hb, hml, hown, hts⟩ (uX9_way l hl0 Γ lo S X v_z hf) (cwV 1 hts gL_way_X9_way rfl rfl rfl (by decide +kernel) ⟨Nat.le_of_ble_eq_true rfl, Nat.le_of_ble_eq_true rfl⟩) ⟨fun _ _ _ _ q => q, va_recv (q0 := 0) hKK.1 (wd_1 hW v_z) rfl rfl, fun _ hU hW1 => ⟨rfl, by rw [hU]; exact hW, hKK.go hS hU hW1, hKX.go hW1⟩⟩ rfl rfl hl.1 rfl (lv_room (Nat.le_of_ble_eq_true rfl)) dL_way_2 ⟨Nat.le_of_ble_eq_true rfl, Nat.le_of_ble_eq_true rfl⟩) hS (fun q H locs ce hW hS hm1 hce hcv hcl => ?_)
  obtain ⟨en, eS⟩ := ee
  dsimp only at hn hW hm1 hcl ⊢
  subst hn
  refine vx_catch (own := RL) (name := "java/lang/IndexOutOfBoundsException") hown [] ⟨0, 5, 6, 23⟩ [] ht (fun z hz => by cases hz) rfl (Nat.succ_ne_zero _) (hts (.classLink RL 23 "java/lang/IndexOutOfBoundsException") (List.mem_of_getElem? (i := 1) rfl)) (va_Nw.use rfl (hKX.2.2 1)) hce hcv hcl ?_
  refine lv_astore_n (lv' := [(2, .ref q), (0, .ref (lo (10, 0, 0))), (1, .int i_1)]) hx hb dL_way_6 rfl hl (by decide) rfl (fun ls hl => ?_)
  refine lv_ldc hx hb hown (hts (.constant RL 25 (-2000000001)) (List.mem_of_getElem? (i := 2) rfl)) dL_way_7 ?_
  exact n_iret hx hb hr hlocks (Nat.le_of_ble_eq_true rfl) (Nat.le_of_ble_eq_true rfl) rfl (congrArg (fun z => some (Value.int z)) (show exC 1 = -2000000001 by decide)) hW hS (fun _ _ => rfl) (fun d hd => (hm1 d).trans hd) trivial dL_way_9

abbrev rmL_planned : Room := { frames := 8, cells := 1, slots := 6, locals := 177 }
set_option maxHeartbeats 4000000 in
set_option maxRecDepth 100000 in
theorem tL_planned (l : Launch) (Γ : zG) (lo : zId → Nat) (S : zSt) (X : va_W) {i_1 : Int32} {i_2 : Int32} (v_z : zV S (10, 0, 0) = true) {y : (Int32 × zSt)} (hf : fX9_planned S i_1 i_2 = some (Sum.inr y)) : Met l yL_planned wsL_planned rmL_planned (zPL Γ lo S X [.ref (lo (10, 0, 0)), .int i_1, .int i_2]) (zQn Γ lo S y.2 X (fun _ => some (.int y.1)) (fun _ => True)) 1 6 (zA Γ) := by
  refine va_MetW (cc := cL_planned) (maxL := 4) (ret := (some .int)) (hh := [(0, 6, 7, 23)]) (by decide) rfl ?_
  intro p e s m args below meth c s₁ B hml hv
  obtain ⟨rfl, hW, hKK, hKX, hKY, hKN⟩ := hv
  have hx := B.exec
  have hb := B.bytes
  have hr := B.returns
  have hts := atoms_spec (ws := wsL_planned) B.pre
  have ht : c.exceptionTable.toList = tableOf [(0, 6, 7, 23)] := vx_table (x := yL_planned) B (hts _ (List.mem_of_getElem? (i := 0) rfl))
  have hown : s.vm.findClass RL = some m.cls := findClass_of_methodNamed B.named
  have hlocks := B.notSynchronized
  have hS : va_S (zA Γ) s.heap s.heap [] := va_S.rf
  have hl := lv_entry ([.ref (lo (10, 0, 0)), .int i_1, .int i_2]) (n := 4) (Nat.le_of_ble_eq_true rfl)
  rw [lg_entry_eq]
  generalize (lg_sl ([.ref (lo (10, 0, 0)), .int i_1, .int i_2]) ++ List.replicate (4 - (lg_sl ([.ref (lo (10, 0, 0)), .int i_1, .int i_2])).length) Slot.unset).toArray = ls at hl ⊢
  have hl : lv_has ls 4 [(0, .ref (lo (10, 0, 0))), (1, .int i_1), (2, .int i_2)] := hl
  generalize ([.ref (lo (10, 0, 0)), .int i_1, .int i_2] : List Value).toArray = args at hts ⊢
  obtain ⟨H, hH0⟩ : ∃ H, H = s.heap := ⟨_, rfl⟩
  obtain ⟨locs, hlo0⟩ : ∃ L : List Loc, L = [] := ⟨_, rfl⟩
  have hS : va_S (zA Γ) s.heap H locs := by rw [hH0, hlo0]; exact hS
  have hW : Wd Γ lo S X H := by rw [hH0]; exact hW
  rw [← hH0, ← hlo0]
  refine lv_aload_n hx hb dL_planned_0 rfl (lv_at hl 0 rfl) ?_
  refine lv_iload_n hx hb dL_planned_1 rfl (lv_at hl 1 rfl) ?_
  refine lv_iload_n hx hb dL_planned_2 rfl (lv_at hl 2 rfl) ?_
  refine z_callV (As := [.int i_1, .int i_2]) (rest := []) ⟨hx, hb, hml, hown, hts⟩ (tX9_planned l Γ lo S X v_z hf) (cwV 2 hts gL_planned_X9_planned rfl rfl rfl (by decide +kernel) ⟨Nat.le_of_ble_eq_true rfl, Nat.le_of_ble_eq_true rfl⟩) (wd_1 hW v_z) rfl hKK hW hS rfl hl.1 rfl (Nat.le_of_ble_eq_true rfl) dL_planned_3 ⟨Nat.zero_le _, Nat.zero_le _⟩ (fun H locs hW hS hm1 hE => ?_)
  exact n_iret hx hb hr hlocks (Nat.le_of_ble_eq_true rfl) (Nat.le_of_ble_eq_true rfl) rfl rfl hW hS (fun _ _ => rfl) (fun d hd => (hm1 d).trans hd) trivial dL_planned_6
set_option maxHeartbeats 4000000 in
set_option maxRecDepth 100000 in
theorem uL_planned (l : Launch) (hl0 : l.stackTraces = false) (Γ : zG) (lo : zId → Nat) (S : zSt) (X : va_W) {i_1 : Int32} {i_2 : Int32} (v_z : zV S (10, 0, 0) = true) {ee : Nat × zSt} (hf : fX9_planned S i_1 i_2 = some (Sum.inl ee)) (hn : ee.1 = 1) : Met l yL_planned wsL_planned rmL_planned (zPL Γ lo S X [.ref (lo (10, 0, 0)), .int i_1, .int i_2]) (zQn Γ lo S ee.2 X (fun _ => some (.int (exC ee.1))) (fun _ => True)) 1 6 (zA Γ) := by
  refine va_MetW (cc := cL_planned) (maxL := 4) (ret := (some .int)) (hh := [(0, 6, 7, 23)]) (by decide) rfl ?_
  intro p e s m args below meth c s₁ B hml hv
  obtain ⟨rfl, hW, hKK, hKX, hKY, hKN⟩ := hv
  have hx := B.exec
  have hb := B.bytes
  have hr := B.returns
  have hts := atoms_spec (ws := wsL_planned) B.pre
  have ht : c.exceptionTable.toList = tableOf [(0, 6, 7, 23)] := vx_table (x := yL_planned) B (hts _ (List.mem_of_getElem? (i := 0) rfl))
  have hown : s.vm.findClass RL = some m.cls := findClass_of_methodNamed B.named
  have hlocks := B.notSynchronized
  have hS : va_S (zA Γ) s.heap s.heap [] := va_S.rf
  have hl := lv_entry ([.ref (lo (10, 0, 0)), .int i_1, .int i_2]) (n := 4) (Nat.le_of_ble_eq_true rfl)
  rw [lg_entry_eq]
  generalize (lg_sl ([.ref (lo (10, 0, 0)), .int i_1, .int i_2]) ++ List.replicate (4 - (lg_sl ([.ref (lo (10, 0, 0)), .int i_1, .int i_2])).length) Slot.unset).toArray = ls at hl ⊢
  have hl : lv_has ls 4 [(0, .ref (lo (10, 0, 0))), (1, .int i_1), (2, .int i_2)] := hl
  generalize ([.ref (lo (10, 0, 0)), .int i_1, .int i_2] : List Value).toArray = args at hts ⊢
  obtain ⟨H, hH0⟩ : ∃ H, H = s.heap := ⟨_, rfl⟩
  obtain ⟨locs, hlo0⟩ : ∃ L : List Loc, L = [] := ⟨_, rfl⟩
  have hS : va_S (zA Γ) s.heap H locs := by rw [hH0, hlo0]; exact hS
  have hW : Wd Γ lo S X H := by rw [hH0]; exact hW
  rw [← hH0, ← hlo0]
  refine lv_aload_n hx hb dL_planned_0 rfl (lv_at hl 0 rfl) ?_
  refine lv_iload_n hx hb dL_planned_1 rfl (lv_at hl 1 rfl) ?_
  refine lv_iload_n hx hb dL_planned_2 rfl (lv_at hl 2 rfl) ?_
  refine l_thr (rest := []) (vx_runV (As := [.int i_1, .int i_2]) ⟨hx, hb, hml, hown, hts⟩ (uX9_planned l hl0 Γ lo S X v_z hf) (cwV 2 hts gL_planned_X9_planned rfl rfl rfl (by decide +kernel) ⟨Nat.le_of_ble_eq_true rfl, Nat.le_of_ble_eq_true rfl⟩) ⟨fun _ _ _ _ q => q, va_recv (q0 := 0) hKK.1 (wd_1 hW v_z) rfl rfl, fun _ hU hW1 => ⟨rfl, by rw [hU]; exact hW, hKK.go hS hU hW1, hKX.go hW1⟩⟩ rfl rfl hl.1 rfl (lv_room (Nat.le_of_ble_eq_true rfl)) dL_planned_3 ⟨Nat.le_of_ble_eq_true rfl, Nat.le_of_ble_eq_true rfl⟩) hS (fun q H locs ce hW hS hm1 hce hcv hcl => ?_)
  obtain ⟨en, eS⟩ := ee
  dsimp only at hn hW hm1 hcl ⊢
  subst hn
  refine vx_catch (own := RL) (name := "java/lang/IndexOutOfBoundsException") hown [] ⟨0, 6, 7, 23⟩ [] ht (fun z hz => by cases hz) rfl (Nat.succ_ne_zero _) (hts (.classLink RL 23 "java/lang/IndexOutOfBoundsException") (List.mem_of_getElem? (i := 1) rfl)) (va_Nw.use rfl (hKX.2.2 1)) hce hcv hcl ?_
  refine lv_astore_n (lv' := [(3, .ref q), (0, .ref (lo (10, 0, 0))), (1, .int i_1), (2, .int i_2)]) hx hb dL_planned_7 rfl hl (by decide) rfl (fun ls hl => ?_)
  refine lv_ldc hx hb hown (hts (.constant RL 25 (-2000000001)) (List.mem_of_getElem? (i := 2) rfl)) dL_planned_8 ?_
  exact n_iret hx hb hr hlocks (Nat.le_of_ble_eq_true rfl) (Nat.le_of_ble_eq_true rfl) rfl (congrArg (fun z => some (Value.int z)) (show exC 1 = -2000000001 by decide)) hW hS (fun _ _ => rfl) (fun d hd => (hm1 d).trans hd) trivial dL_planned_10

abbrev rmL_go : Room := { frames := 8, cells := 1, slots := 6, locals := 180 }
set_option maxHeartbeats 4000000 in
set_option maxRecDepth 100000 in
theorem tL_go (l : Launch) (Γ : zG) (lo : zId → Nat) (S : zSt) (X : va_W) {i_1 : Int32} (v_z : zV S (10, 0, 0) = true) {y : (Int32 × zSt)} (hf : fX9_go S i_1 = some (Sum.inr y)) : Met l yL_go wsL_go rmL_go (zPL Γ lo S X [.ref (lo (10, 0, 0)), .int i_1]) (zQn Γ lo S y.2 X (fun _ => some (.int y.1)) (fun _ => True)) 1 6 (zA Γ) := by
  refine va_MetW (cc := cL_go) (maxL := 3) (ret := (some .int)) (hh := [(0, 5, 6, 23), (0, 5, 10, 16)]) (by decide) rfl ?_
  intro p e s m args below meth c s₁ B hml hv
  obtain ⟨rfl, hW, hKK, hKX, hKY, hKN⟩ := hv
  have hx := B.exec
  have hb := B.bytes
  have hr := B.returns
  have hts := atoms_spec (ws := wsL_go) B.pre
  have ht : c.exceptionTable.toList = tableOf [(0, 5, 6, 23), (0, 5, 10, 16)] := vx_table (x := yL_go) B (hts _ (List.mem_of_getElem? (i := 0) rfl))
  have hown : s.vm.findClass RL = some m.cls := findClass_of_methodNamed B.named
  have hlocks := B.notSynchronized
  have hS : va_S (zA Γ) s.heap s.heap [] := va_S.rf
  have hl := lv_entry ([.ref (lo (10, 0, 0)), .int i_1]) (n := 3) (Nat.le_of_ble_eq_true rfl)
  rw [lg_entry_eq]
  generalize (lg_sl ([.ref (lo (10, 0, 0)), .int i_1]) ++ List.replicate (3 - (lg_sl ([.ref (lo (10, 0, 0)), .int i_1])).length) Slot.unset).toArray = ls at hl ⊢
  have hl : lv_has ls 3 [(0, .ref (lo (10, 0, 0))), (1, .int i_1)] := hl
  generalize ([.ref (lo (10, 0, 0)), .int i_1] : List Value).toArray = args at hts ⊢
  obtain ⟨H, hH0⟩ : ∃ H, H = s.heap := ⟨_, rfl⟩
  obtain ⟨locs, hlo0⟩ : ∃ L : List Loc, L = [] := ⟨_, rfl⟩
  have hS : va_S (zA Γ) s.heap H locs := by rw [hH0, hlo0]; exact hS
  have hW : Wd Γ lo S X H := by rw [hH0]; exact hW
  rw [← hH0, ← hlo0]
  refine lv_aload_n hx hb dL_go_0 rfl (lv_at hl 0 rfl) ?_
  refine lv_iload_n hx hb dL_go_1 rfl (lv_at hl 1 rfl) ?_
  refine z_callV (As := [.int i_1]) (rest := []) ⟨hx, hb, hml, hown, hts⟩ (tX9_go l Γ lo S X v_z hf) (cwV 1 hts gL_go_X9_go rfl rfl rfl (by decide +kernel) ⟨Nat.le_of_ble_eq_true rfl, Nat.le_of_ble_eq_true rfl⟩) (wd_1 hW v_z) rfl hKK hW hS rfl hl.1 rfl (Nat.le_of_ble_eq_true rfl) dL_go_2 ⟨Nat.zero_le _, Nat.zero_le _⟩ (fun H locs hW hS hm1 hE => ?_)
  exact n_iret hx hb hr hlocks (Nat.le_of_ble_eq_true rfl) (Nat.le_of_ble_eq_true rfl) rfl rfl hW hS (fun _ _ => rfl) (fun d hd => (hm1 d).trans hd) trivial dL_go_5
set_option maxHeartbeats 4000000 in
set_option maxRecDepth 100000 in
theorem uL_go (l : Launch) (hl0 : l.stackTraces = false) (Γ : zG) (lo : zId → Nat) (S : zSt) (X : va_W) {i_1 : Int32} (v_z : zV S (10, 0, 0) = true) {ee : Nat × zSt} (hf : fX9_go S i_1 = some (Sum.inl ee)) (hn : ee.1 = 1 ∨ ee.1 = 3) : Met l yL_go wsL_go rmL_go (zPL Γ lo S X [.ref (lo (10, 0, 0)), .int i_1]) (zQn Γ lo S ee.2 X (fun _ => some (.int (exC ee.1))) (fun _ => True)) 1 6 (zA Γ) := by
  refine va_MetW (cc := cL_go) (maxL := 3) (ret := (some .int)) (hh := [(0, 5, 6, 23), (0, 5, 10, 16)]) (by decide) rfl ?_
  intro p e s m args below meth c s₁ B hml hv
  obtain ⟨rfl, hW, hKK, hKX, hKY, hKN⟩ := hv
  have hx := B.exec
  have hb := B.bytes
  have hr := B.returns
  have hts := atoms_spec (ws := wsL_go) B.pre
  have ht : c.exceptionTable.toList = tableOf [(0, 5, 6, 23), (0, 5, 10, 16)] := vx_table (x := yL_go) B (hts _ (List.mem_of_getElem? (i := 0) rfl))
  have hown : s.vm.findClass RL = some m.cls := findClass_of_methodNamed B.named
  have hlocks := B.notSynchronized
  have hS : va_S (zA Γ) s.heap s.heap [] := va_S.rf
  have hl := lv_entry ([.ref (lo (10, 0, 0)), .int i_1]) (n := 3) (Nat.le_of_ble_eq_true rfl)
  rw [lg_entry_eq]
  generalize (lg_sl ([.ref (lo (10, 0, 0)), .int i_1]) ++ List.replicate (3 - (lg_sl ([.ref (lo (10, 0, 0)), .int i_1])).length) Slot.unset).toArray = ls at hl ⊢
  have hl : lv_has ls 3 [(0, .ref (lo (10, 0, 0))), (1, .int i_1)] := hl
  generalize ([.ref (lo (10, 0, 0)), .int i_1] : List Value).toArray = args at hts ⊢
  obtain ⟨H, hH0⟩ : ∃ H, H = s.heap := ⟨_, rfl⟩
  obtain ⟨locs, hlo0⟩ : ∃ L : List Loc, L = [] := ⟨_, rfl⟩
  have hS : va_S (zA Γ) s.heap H locs := by rw [hH0, hlo0]; exact hS
  have hW : Wd Γ lo S X H := by rw [hH0]; exact hW
  rw [← hH0, ← hlo0]
  refine lv_aload_n hx hb dL_go_0 rfl (lv_at hl 0 rfl) ?_
  refine lv_iload_n hx hb dL_go_1 rfl (lv_at hl 1 rfl) ?_
  refine l_thr (rest := []) (vx_runV (As := [.int i_1]) ⟨hx, hb, hml, hown, hts⟩ (uX9_go l hl0 Γ lo S X v_z hf) (cwV 1 hts gL_go_X9_go rfl rfl rfl (by decide +kernel) ⟨Nat.le_of_ble_eq_true rfl, Nat.le_of_ble_eq_true rfl⟩) ⟨fun _ _ _ _ q => q, va_recv (q0 := 0) hKK.1 (wd_1 hW v_z) rfl rfl, fun _ hU hW1 => ⟨rfl, by rw [hU]; exact hW, hKK.go hS hU hW1, hKX.go hW1⟩⟩ rfl rfl hl.1 rfl (lv_room (Nat.le_of_ble_eq_true rfl)) dL_go_2 ⟨Nat.le_of_ble_eq_true rfl, Nat.le_of_ble_eq_true rfl⟩) hS (fun q H locs ce hW hS hm1 hce hcv hcl => ?_)
  obtain ⟨en, eS⟩ := ee
  dsimp only at hn hW hm1 hcl ⊢
  rcases hn with rfl | rfl
  · refine vx_catch (own := RL) (name := "java/lang/IndexOutOfBoundsException") hown [] ⟨0, 5, 6, 23⟩ [⟨0, 5, 10, 16⟩] ht (fun z hz => by cases hz) rfl (Nat.succ_ne_zero _) (hts (.classLink RL 23 "java/lang/IndexOutOfBoundsException") (List.mem_of_getElem? (i := 1) rfl)) (va_Nw.use rfl (hKX.2.2 1)) hce hcv hcl ?_
    refine lv_astore_n (lv' := [(2, .ref q), (0, .ref (lo (10, 0, 0))), (1, .int i_1)]) hx hb dL_go_6 rfl hl (by decide) rfl (fun ls hl => ?_)
    refine lv_ldc hx hb hown (hts (.constant RL 25 (-2000000001)) (List.mem_of_getElem? (i := 3) rfl)) dL_go_7 ?_
    exact n_iret hx hb hr hlocks (Nat.le_of_ble_eq_true rfl) (Nat.le_of_ble_eq_true rfl) rfl (congrArg (fun z => some (Value.int z)) (show exC 1 = -2000000001 by decide)) hW hS (fun _ _ => rfl) (fun d hd => (hm1 d).trans hd) trivial dL_go_9
  · refine vx_catch (own := RL) (name := "java/lang/IllegalStateException") hown [⟨0, 5, 6, 23⟩] ⟨0, 5, 10, 16⟩ [] ht (fun z hz => by cases hz with | head => exact Or.inr ⟨Nat.succ_ne_zero _, _, (hts (.classLink RL 23 "java/lang/IndexOutOfBoundsException") (List.mem_of_getElem? (i := 1) rfl)), hKN _ (List.mem_of_getElem? (i := 1) rfl)⟩ | tail _ hz => cases hz) rfl (Nat.succ_ne_zero _) (hts (.classLink RL 16 "java/lang/IllegalStateException") (List.mem_of_getElem? (i := 2) rfl)) (va_Nw.use rfl (hKX.2.2 3)) hce hcv hcl ?_
    refine lv_astore_n (lv' := [(2, .ref q), (0, .ref (lo (10, 0, 0))), (1, .int i_1)]) hx hb dL_go_10 rfl hl (by decide) rfl (fun ls hl => ?_)
    refine lv_ldc hx hb hown (hts (.constant RL 18 (-2000000003)) (List.mem_of_getElem? (i := 4) rfl)) dL_go_11 ?_
    exact n_iret hx hb hr hlocks (Nat.le_of_ble_eq_true rfl) (Nat.le_of_ble_eq_true rfl) rfl (congrArg (fun z => some (Value.int z)) (show exC 3 = -2000000003 by decide)) hW hS (fun _ _ => rfl) (fun d hd => (hm1 d).trans hd) trivial dL_go_13

abbrev rmL_vanAt : Room := { frames := 8, cells := 1, slots := 6, locals := 124 }
set_option maxHeartbeats 4000000 in
set_option maxRecDepth 100000 in
theorem tL_vanAt (l : Launch) (Γ : zG) (lo : zId → Nat) (S : zSt) (X : va_W) {i_1 : Int32} (v_z : zV S (10, 0, 0) = true) {y : Int32} (hf : fX9_vanAt S i_1 = some (Sum.inr y)) : Met l yL_vanAt wsL_vanAt rmL_vanAt (zPL Γ lo S X [.ref (lo (10, 0, 0)), .int i_1]) (zQn Γ lo S S X (fun _ => some (.int y)) (fun _ => True)) 1 6 (zA Γ) := by
  refine va_MetW (cc := cL_vanAt) (maxL := 3) (ret := (some .int)) (hh := [(0, 5, 6, 23)]) (by decide) rfl ?_
  intro p e s m args below meth c s₁ B hml hv
  obtain ⟨rfl, hW, hKK, hKX, hKY, hKN⟩ := hv
  have hx := B.exec
  have hb := B.bytes
  have hr := B.returns
  have hts := atoms_spec (ws := wsL_vanAt) B.pre
  have ht : c.exceptionTable.toList = tableOf [(0, 5, 6, 23)] := vx_table (x := yL_vanAt) B (hts _ (List.mem_of_getElem? (i := 0) rfl))
  have hown : s.vm.findClass RL = some m.cls := findClass_of_methodNamed B.named
  have hlocks := B.notSynchronized
  have hS : va_S (zA Γ) s.heap s.heap [] := va_S.rf
  have hl := lv_entry ([.ref (lo (10, 0, 0)), .int i_1]) (n := 3) (Nat.le_of_ble_eq_true rfl)
  rw [lg_entry_eq]
  generalize (lg_sl ([.ref (lo (10, 0, 0)), .int i_1]) ++ List.replicate (3 - (lg_sl ([.ref (lo (10, 0, 0)), .int i_1])).length) Slot.unset).toArray = ls at hl ⊢
  have hl : lv_has ls 3 [(0, .ref (lo (10, 0, 0))), (1, .int i_1)] := hl
  generalize ([.ref (lo (10, 0, 0)), .int i_1] : List Value).toArray = args at hts ⊢
  obtain ⟨H, hH0⟩ : ∃ H, H = s.heap := ⟨_, rfl⟩
  obtain ⟨locs, hlo0⟩ : ∃ L : List Loc, L = [] := ⟨_, rfl⟩
  have hS : va_S (zA Γ) s.heap H locs := by rw [hH0, hlo0]; exact hS
  have hW : Wd Γ lo S X H := by rw [hH0]; exact hW
  rw [← hH0, ← hlo0]
  refine lv_aload_n hx hb dL_vanAt_0 rfl (lv_at hl 0 rfl) ?_
  refine lv_iload_n hx hb dL_vanAt_1 rfl (lv_at hl 1 rfl) ?_
  refine z_callV (As := [.int i_1]) (rest := []) ⟨hx, hb, hml, hown, hts⟩ (tX9_vanAt l Γ lo S X v_z hf) (cwV 1 hts gL_vanAt_X9_vanAt rfl rfl rfl (by decide +kernel) ⟨Nat.le_of_ble_eq_true rfl, Nat.le_of_ble_eq_true rfl⟩) (wd_1 hW v_z) rfl hKK hW hS rfl hl.1 rfl (Nat.le_of_ble_eq_true rfl) dL_vanAt_2 ⟨Nat.zero_le _, Nat.zero_le _⟩ (fun H locs hW hS hm1 hE => ?_)
  exact n_iret hx hb hr hlocks (Nat.le_of_ble_eq_true rfl) (Nat.le_of_ble_eq_true rfl) rfl rfl hW hS (fun _ _ => rfl) (fun d hd => (hm1 d).trans hd) trivial dL_vanAt_5
set_option maxHeartbeats 4000000 in
set_option maxRecDepth 100000 in
theorem uL_vanAt (l : Launch) (hl0 : l.stackTraces = false) (Γ : zG) (lo : zId → Nat) (S : zSt) (X : va_W) {i_1 : Int32} (v_z : zV S (10, 0, 0) = true) {ee : Nat × zSt} (hf : fX9_vanAt S i_1 = some (Sum.inl ee)) (hn : ee.1 = 1) : Met l yL_vanAt wsL_vanAt rmL_vanAt (zPL Γ lo S X [.ref (lo (10, 0, 0)), .int i_1]) (zQn Γ lo S ee.2 X (fun _ => some (.int (exC ee.1))) (fun _ => True)) 1 6 (zA Γ) := by
  refine va_MetW (cc := cL_vanAt) (maxL := 3) (ret := (some .int)) (hh := [(0, 5, 6, 23)]) (by decide) rfl ?_
  intro p e s m args below meth c s₁ B hml hv
  obtain ⟨rfl, hW, hKK, hKX, hKY, hKN⟩ := hv
  have hx := B.exec
  have hb := B.bytes
  have hr := B.returns
  have hts := atoms_spec (ws := wsL_vanAt) B.pre
  have ht : c.exceptionTable.toList = tableOf [(0, 5, 6, 23)] := vx_table (x := yL_vanAt) B (hts _ (List.mem_of_getElem? (i := 0) rfl))
  have hown : s.vm.findClass RL = some m.cls := findClass_of_methodNamed B.named
  have hlocks := B.notSynchronized
  have hS : va_S (zA Γ) s.heap s.heap [] := va_S.rf
  have hl := lv_entry ([.ref (lo (10, 0, 0)), .int i_1]) (n := 3) (Nat.le_of_ble_eq_true rfl)
  rw [lg_entry_eq]
  generalize (lg_sl ([.ref (lo (10, 0, 0)), .int i_1]) ++ List.replicate (3 - (lg_sl ([.ref (lo (10, 0, 0)), .int i_1])).length) Slot.unset).toArray = ls at hl ⊢
  have hl : lv_has ls 3 [(0, .ref (lo (10, 0, 0))), (1, .int i_1)] := hl
  generalize ([.ref (lo (10, 0, 0)), .int i_1] : List Value).toArray = args at hts ⊢
  obtain ⟨H, hH0⟩ : ∃ H, H = s.heap := ⟨_, rfl⟩
  obtain ⟨locs, hlo0⟩ : ∃ L : List Loc, L = [] := ⟨_, rfl⟩
  have hS : va_S (zA Γ) s.heap H locs := by rw [hH0, hlo0]; exact hS
  have hW : Wd Γ lo S X H := by rw [hH0]; exact hW
  rw [← hH0, ← hlo0]
  refine lv_aload_n hx hb dL_vanAt_0 rfl (lv_at hl 0 rfl) ?_
  refine lv_iload_n hx hb dL_vanAt_1 rfl (lv_at hl 1 rfl) ?_
  refine l_thr (rest := []) (vx_runV (As := [.int i_1]) ⟨hx, hb, hml, hown, hts⟩ (uX9_vanAt l hl0 Γ lo S X v_z hf) (cwV 1 hts gL_vanAt_X9_vanAt rfl rfl rfl (by decide +kernel) ⟨Nat.le_of_ble_eq_true rfl, Nat.le_of_ble_eq_true rfl⟩) ⟨fun _ _ _ _ q => q, va_recv (q0 := 0) hKK.1 (wd_1 hW v_z) rfl rfl, fun _ hU hW1 => ⟨rfl, by rw [hU]; exact hW, hKK.go hS hU hW1, hKX.go hW1⟩⟩ rfl rfl hl.1 rfl (lv_room (Nat.le_of_ble_eq_true rfl)) dL_vanAt_2 ⟨Nat.le_of_ble_eq_true rfl, Nat.le_of_ble_eq_true rfl⟩) hS (fun q H locs ce hW hS hm1 hce hcv hcl => ?_)
  obtain ⟨en, eS⟩ := ee
  dsimp only at hn hW hm1 hcl ⊢
  subst hn
  refine vx_catch (own := RL) (name := "java/lang/IndexOutOfBoundsException") hown [] ⟨0, 5, 6, 23⟩ [] ht (fun z hz => by cases hz) rfl (Nat.succ_ne_zero _) (hts (.classLink RL 23 "java/lang/IndexOutOfBoundsException") (List.mem_of_getElem? (i := 1) rfl)) (va_Nw.use rfl (hKX.2.2 1)) hce hcv hcl ?_
  refine lv_astore_n (lv' := [(2, .ref q), (0, .ref (lo (10, 0, 0))), (1, .int i_1)]) hx hb dL_vanAt_6 rfl hl (by decide) rfl (fun ls hl => ?_)
  refine lv_ldc hx hb hown (hts (.constant RL 25 (-2000000001)) (List.mem_of_getElem? (i := 2) rfl)) dL_vanAt_7 ?_
  exact n_iret hx hb hr hlocks (Nat.le_of_ble_eq_true rfl) (Nat.le_of_ble_eq_true rfl) rfl (congrArg (fun z => some (Value.int z)) (show exC 1 = -2000000001 by decide)) hW hS (fun _ _ => rfl) (fun d hd => (hm1 d).trans hd) trivial dL_vanAt_9

