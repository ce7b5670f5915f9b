def zNcs : List (String × String) := [("java/lang/IllegalArgumentException", "java/lang/IndexOutOfBoundsException"), ("java/lang/IllegalStateException", "java/lang/IndexOutOfBoundsException"), ("java/lang/IllegalStateException", "java/lang/IllegalArgumentException")]
def KN (U : State) : Prop := ∀ z ∈ zNcs, va_Nc z.1 z.2 U
theorem KN.go {s U : State} (h : KN s) (hW : s.WarmedH U.vm) : KN U := fun z hz => (h z hz).moved hW.alike
def zPL (Γ : zG) (lo : zId → Nat) (S : zSt) (X : va_W) (av : List Value) : Array Value → State → Prop := fun v U => v = av.toArray ∧ Wd Γ lo S X U.heap ∧ KK Γ U ∧ KX U ∧ KY U ∧ KN U
def zOut (Γ : zG) (qo : Nat) (O : Nat → Int64) : Nat × va_E := (qo, .inl (Γ.2.1 1, 1, .inr (.inl O)))
section ZL
variable {p : Program} {l : Launch} {e : Env} {R : Room} {s : State} {m : MethodId} {args : Array Value} {below : List Frame} {meth : Method} {c : Code} {H : Heap} {locs : List Loc} {cells slots : Nat} {Q : State → Prop}
variable {cc : ByteArray} {pc : Nat} {ls : Array Slot} {rest : List Value} {Γ : zG} {lo : zId → Nat} {S S0 : zSt} {X Z : va_W} {H0 : Heap}
theorem x_out (hexec : p.tables.exec = Jvm.exec) (hb : c.code = cc) (hK : va_K Γ.1 vwCl (zTy Γ) s) {qo : Nat} {O : Nat → Int64} (hW : Wd Γ lo S (Z ++ [zOut Γ qo O]) H) (hS : va_S (zA Γ) H0 H locs) {x : Int64} (hdg : decode cc pc = .ok (.lastore, 1))
    (kk : ∀ (H1 : Heap) (locs1 : List Loc), Wd Γ lo S (Z ++ [zOut Γ qo (vp_updL O 0 x)]) H1 → va_S (zA Γ) H0 H1 locs1 → W p l e R s m args below meth c H1 locs1 cells slots Q (F0 m (pc + 1) ls rest)) : W p l e R s m args below meth c H locs cells slots Q (F0 m pc ls (.long x :: .int 0 :: .ref qo :: rest)) := by
  have hX : (Z ++ [zOut Γ qo O])[Z.length]? = some (qo, .inl (Γ.2.1 1, 1, .inr (.inl O))) := by
    rw [List.getElem?_append_right (Nat.le_refl _), Nat.sub_self]; rfl
  obtain ⟨ws, hq, hP, hD, hback⟩ := wd_xset hW hX (.inl (Γ.2.1 1, 1, .inr (.inl (vp_updL O 0 x))))
  have e : (Z ++ [zOut Γ qo O]).set Z.length (qo, .inl (Γ.2.1 1, 1, .inr (.inl (vp_updL O 0 x)))) = Z ++ [zOut Γ qo (vp_updL O 0 x)] := by
    rw [List.set_append_right _ _ (Nat.le_refl _), Nat.sub_self]; rfl
  rw [e] at hback
  exact va_last hexec hb hK hP hD hS Z.length 1 hq rfl (by unfold vp_in; decide) hdg (fun H1 locs1 hP1 hD1 hS1 => kk H1 locs1 (hback H1 hP1 hD1) hS1)
theorem l_thr {ee : Nat × zSt} {S1 : zSt} {a : Array Value} {st0 : List Value} (hr : vx_Run p l e R s m args below meth c H locs 0 0 1 6 (F0 m pc ls st0) rest (zF a) (zT Γ lo S1 X ee) (zA Γ)) (hS : va_S (zA Γ) s.heap H locs)
    (kk : ∀ (q : Nat) (H1 : Heap) (locs1 : List Loc) (ce : Cell), Wd Γ lo ee.2 X H1 → va_S (zA Γ) s.heap H1 locs1 → (∀ d, zV ee.2 d = zV S1 d) → H1[q]? = some ce → ce.vm = .none → s.vm.findClass (zEx ee.1) = some ce.cls → vx_W p l e R s m args below meth c H1 locs1 (0 + 1) (0 + 6) Q (F0 m pc ls rest) q) :
    W p l e R s m args below meth c H locs 0 0 Q (F0 m pc ls st0) := by
  intro T hT Xs
  rcases hr T hT Xs with ⟨v, st₀, t, T', L, h0, X', hL, e1, e2, hq, hst⟩ | ⟨q, st₀, t, T', L, E, ce, h0, X', hL, e1, e2, ⟨hE, hw, hm1, hF⟩, hce, hcv, hcl, hst⟩
  · exact hq.elim
  · obtain ⟨k1, k2, k3⟩ := vx_keep h0 e1 hS (fun q _ h => h) (fun q h => h) hL hF
    subst hE
    obtain ⟨t2, a1, b1⟩ := kk q T'.heap (locs ++ L) ce (by rw [e1]; exact hw) k3 hm1 (by rw [e1]; exact hce) hcv hcl T' rfl X'
    exact ⟨t2, hst.trans a1, b1⟩
end ZL

abbrev rmL_addTable : Room := { frames := 9, cells := 6, slots := 89, locals := 343 }
set_option maxHeartbeats 4000000 in
set_option maxRecDepth 100000 in
theorem tL_addTable (l : Launch) (Γ : zG) (lo : zId → Nat) (S : zSt) (Z : va_W) (qo : Nat) (O : Nat → Int64) {i_1 : Int32} {i_2 : Int32} (v_z : zV S (10, 0, 0) = true) {y : (Int32 × zSt)} (hf : fX9_addTable S i_1 i_2 = some (Sum.inr y)) : Met l yL_addTable wsL_addTable rmL_addTable (zPL Γ lo S (Z ++ [zOut Γ qo O]) [.ref (lo (10, 0, 0)), .int i_1, .int i_2, .ref qo]) (zQn Γ lo S y.2 (Z ++ [zOut Γ qo (vp_updL O 0 (y.1).toInt64)]) (fun _ => some (.int 0)) (fun _ => True)) 6 89 (zA Γ) := by
  refine va_MetW (cc := cL_addTable) (maxL := 5) (ret := (some .int)) (hh := [(0, 10, 13, 13), (0, 10, 17, 15)]) (by decide) rfl ?_
  intro p e s m args below meth c s₁ B hml hv
  obtain ⟨rfl, hW, hKK, hKX, hKY, hKN⟩ := hv
  have hx := B.exec
  have hb := B.bytes
  have hr := B.returns
  have hts := atoms_spec (ws := wsL_addTable) B.pre
  have ht : c.exceptionTable.toList = tableOf [(0, 10, 13, 13), (0, 10, 17, 15)] := vx_table (x := yL_addTable) B (hts _ (List.mem_of_getElem? (i := 0) rfl))
  have hown : s.vm.findClass RL = some m.cls := findClass_of_methodNamed B.named
  have hlocks := B.notSynchronized
  have hS : va_S (zA Γ) s.heap s.heap [] := va_S.rf
  have hl := lv_entry ([.ref (lo (10, 0, 0)), .int i_1, .int i_2, .ref qo]) (n := 5) (Nat.le_of_ble_eq_true rfl)
  rw [lg_entry_eq]
  generalize (lg_sl ([.ref (lo (10, 0, 0)), .int i_1, .int i_2, .ref qo]) ++ List.replicate (5 - (lg_sl ([.ref (lo (10, 0, 0)), .int i_1, .int i_2, .ref qo])).length) Slot.unset).toArray = ls at hl ⊢
  have hl : lv_has ls 5 [(0, .ref (lo (10, 0, 0))), (1, .int i_1), (2, .int i_2), (3, .ref qo)] := hl
  generalize ([.ref (lo (10, 0, 0)), .int i_1, .int i_2, .ref qo] : List Value).toArray = args at hts ⊢
  obtain ⟨H, hH0⟩ : ∃ H, H = s.heap := ⟨_, rfl⟩
  obtain ⟨locs, hlo0⟩ : ∃ L : List Loc, L = [] := ⟨_, rfl⟩
  have hS : va_S (zA Γ) s.heap H locs := by rw [hH0, hlo0]; exact hS
  have hW : Wd Γ lo S (Z ++ [zOut Γ qo O]) H := by rw [hH0]; exact hW
  rw [← hH0, ← hlo0]
  refine lv_aload_n hx hb dL_addTable_0 rfl (lv_at hl 3 rfl) ?_
  refine lv_iconst (v := (0)) hx hb dL_addTable_1 (by decide) ?_
  refine lv_aload_n hx hb dL_addTable_2 rfl (lv_at hl 0 rfl) ?_
  refine lv_iload_n hx hb dL_addTable_3 rfl (lv_at hl 1 rfl) ?_
  refine lv_iload_n hx hb dL_addTable_4 rfl (lv_at hl 2 rfl) ?_
  refine n_callV (As := [.int i_1, .int i_2]) (rest := [.int 0, .ref qo]) ⟨hx, hb, hml, hown, hts⟩ (tX9_addTable l Γ lo S (Z ++ [zOut Γ qo O]) v_z hf) (cwV 2 hts gL_addTable_X9_addTable rfl rfl rfl (by decide +kernel) ⟨Nat.le_of_ble_eq_true rfl, Nat.le_of_ble_eq_true rfl⟩) (wd_1 hW v_z) rfl hKK hKY hW hS rfl hl.1 rfl (Nat.le_of_ble_eq_true rfl) dL_addTable_5 ⟨Nat.le_of_ble_eq_true rfl, Nat.le_of_ble_eq_true rfl⟩ (fun lo1 H locs hW hS h1 hmo hE => ?_)
  refine lv_i2l hx hb dL_addTable_8 rfl ?_
  refine x_out hx hb hKK.1 hW hS dL_addTable_9 (fun H locs hW hS => ?_)
  refine lv_goto (tgt := 21) hx hb dL_addTable_10 (by decide) ?_
  refine lv_iconst (v := (0)) hx hb dL_addTable_21 (by decide) ?_
  exact n_iret hx hb hr hlocks (Nat.le_of_ble_eq_true rfl) (Nat.le_of_ble_eq_true rfl) rfl rfl hW hS h1 hmo trivial dL_addTable_22
set_option maxHeartbeats 4000000 in
set_option maxRecDepth 100000 in
theorem uL_addTable (l : Launch) (hl0 : l.stackTraces = false) (Γ : zG) (lo : zId → Nat) (S : zSt) (Z : va_W) (qo : Nat) (O : Nat → Int64) {i_1 : Int32} {i_2 : Int32} (v_z : zV S (10, 0, 0) = true) {ee : Nat × zSt} (hf : fX9_addTable S i_1 i_2 = some (Sum.inl ee)) (hn : ee.1 = 2 ∨ ee.1 = 3) : Met l yL_addTable wsL_addTable rmL_addTable (zPL Γ lo S (Z ++ [zOut Γ qo O]) [.ref (lo (10, 0, 0)), .int i_1, .int i_2, .ref qo]) (zQn Γ lo S ee.2 (Z ++ [zOut Γ qo O]) (fun _ => some (.int (kL [2, 3] ee.1))) (fun _ => True)) 6 89 (zA Γ) := by
  refine va_MetW (cc := cL_addTable) (maxL := 5) (ret := (some .int)) (hh := [(0, 10, 13, 13), (0, 10, 17, 15)]) (by decide) rfl ?_
  intro p e s m args below meth c s₁ B hml hv
  obtain ⟨rfl, hW, hKK, hKX, hKY, hKN⟩ := hv
  have hx := B.exec
  have hb := B.bytes
  have hr := B.returns
  have hts := atoms_spec (ws := wsL_addTable) B.pre
  have ht : c.exceptionTable.toList = tableOf [(0, 10, 13, 13), (0, 10, 17, 15)] := vx_table (x := yL_addTable) B (hts _ (List.mem_of_getElem? (i := 0) rfl))
  have hown : s.vm.findClass RL = some m.cls := findClass_of_methodNamed B.named
  have hlocks := B.notSynchronized
  have hS : va_S (zA Γ) s.heap s.heap [] := va_S.rf
  have hl := lv_entry ([.ref (lo (10, 0, 0)), .int i_1, .int i_2, .ref qo]) (n := 5) (Nat.le_of_ble_eq_true rfl)
  rw [lg_entry_eq]
  generalize (lg_sl ([.ref (lo (10, 0, 0)), .int i_1, .int i_2, .ref qo]) ++ List.replicate (5 - (lg_sl ([.ref (lo (10, 0, 0)), .int i_1, .int i_2, .ref qo])).length) Slot.unset).toArray = ls at hl ⊢
  have hl : lv_has ls 5 [(0, .ref (lo (10, 0, 0))), (1, .int i_1), (2, .int i_2), (3, .ref qo)] := hl
  generalize ([.ref (lo (10, 0, 0)), .int i_1, .int i_2, .ref qo] : List Value).toArray = args at hts ⊢
  obtain ⟨H, hH0⟩ : ∃ H, H = s.heap := ⟨_, rfl⟩
  obtain ⟨locs, hlo0⟩ : ∃ L : List Loc, L = [] := ⟨_, rfl⟩
  have hS : va_S (zA Γ) s.heap H locs := by rw [hH0, hlo0]; exact hS
  have hW : Wd Γ lo S (Z ++ [zOut Γ qo O]) H := by rw [hH0]; exact hW
  rw [← hH0, ← hlo0]
  refine lv_aload_n hx hb dL_addTable_0 rfl (lv_at hl 3 rfl) ?_
  refine lv_iconst (v := (0)) hx hb dL_addTable_1 (by decide) ?_
  refine lv_aload_n hx hb dL_addTable_2 rfl (lv_at hl 0 rfl) ?_
  refine lv_iload_n hx hb dL_addTable_3 rfl (lv_at hl 1 rfl) ?_
  refine lv_iload_n hx hb dL_addTable_4 rfl (lv_at hl 2 rfl) ?_
  refine l_thr (rest := [.int 0, .ref qo]) (vx_runV (As := [.int i_1, .int i_2]) ⟨hx, hb, hml, hown, hts⟩ (uX9_addTable l hl0 Γ lo S (Z ++ [zOut Γ qo O]) v_z hf) (cwV 2 hts gL_addTable_X9_addTable rfl rfl rfl (by decide +kernel) ⟨Nat.le_of_ble_eq_true rfl, Nat.le_of_ble_eq_true rfl⟩) ⟨fun _ _ _ _ q => q, va_recv (q0 := 0) hKK.1 (wd_1 hW v_z) rfl rfl, fun _ hU hW1 => ⟨rfl, by rw [hU]; exact hW, hKK.go hS hU hW1, hKX.go hW1⟩⟩ rfl rfl hl.1 rfl (lv_room (Nat.le_of_ble_eq_true rfl)) dL_addTable_5 ⟨Nat.le_of_ble_eq_true rfl, Nat.le_of_ble_eq_true rfl⟩) hS (fun q H locs ce hW hS hm1 hce hcv hcl => ?_)
  obtain ⟨en, eS⟩ := ee
  dsimp only at hn hW hm1 hcl ⊢
  rcases hn with rfl | rfl
  · refine vx_catch (own := RL) (name := "java/lang/IllegalArgumentException") hown [] ⟨0, 10, 13, 13⟩ [⟨0, 10, 17, 15⟩] ht (fun z hz => by cases hz) rfl (Nat.succ_ne_zero _) (hts (.classLink RL 13 "java/lang/IllegalArgumentException") (List.mem_of_getElem? (i := 1) rfl)) (va_Nw.use rfl (hKX.2.2 2)) hce hcv hcl ?_
    refine lv_astore (lv' := [(4, .ref q), (0, .ref (lo (10, 0, 0))), (1, .int i_1), (2, .int i_2), (3, .ref qo)]) hx hb dL_addTable_13 hl (by decide) rfl (fun ls hl => ?_)
    refine lv_iconst (v := (1)) hx hb dL_addTable_15 (by decide) ?_
    exact n_iret hx hb hr hlocks (Nat.le_of_ble_eq_true rfl) (Nat.le_of_ble_eq_true rfl) rfl rfl hW hS (fun _ _ => rfl) (fun d hd => (hm1 d).trans hd) trivial dL_addTable_16
  · refine vx_catch (own := RL) (name := "java/lang/IllegalStateException") hown [⟨0, 10, 13, 13⟩] ⟨0, 10, 17, 15⟩ [] ht (fun z hz => by cases hz with | head => exact Or.inr ⟨Nat.succ_ne_zero _, _, (hts (.classLink RL 13 "java/lang/IllegalArgumentException") (List.mem_of_getElem? (i := 1) rfl)), hKN _ (List.mem_of_getElem? (i := 2) rfl)⟩ | tail _ hz => cases hz) rfl (Nat.succ_ne_zero _) (hts (.classLink RL 15 "java/lang/IllegalStateException") (List.mem_of_getElem? (i := 2) rfl)) (va_Nw.use rfl (hKX.2.2 3)) hce hcv hcl ?_
    refine lv_astore (lv' := [(4, .ref q), (0, .ref (lo (10, 0, 0))), (1, .int i_1), (2, .int i_2), (3, .ref qo)]) hx hb dL_addTable_17 hl (by decide) rfl (fun ls hl => ?_)
    refine lv_iconst (v := (2)) hx hb dL_addTable_19 (by decide) ?_
    exact n_iret hx hb hr hlocks (Nat.le_of_ble_eq_true rfl) (Nat.le_of_ble_eq_true rfl) rfl rfl hW hS (fun _ _ => rfl) (fun d hd => (hm1 d).trans hd) trivial dL_addTable_20

abbrev rmL_addBumper : Room := { frames := 9, cells := 2, slots := 71, locals := 347 }
set_option maxHeartbeats 4000000 in
set_option maxRecDepth 100000 in
theorem tL_addBumper (l : Launch) (Γ : zG) (lo : zId → Nat) (S : zSt) (Z : va_W) (qo : Nat) (O : Nat → Int64) {i_1 : Int32} {i_2 : Int32} {i_3 : Int32} {i_4 : Int32} {i_5 : Int32} (v_z : zV S (10, 0, 0) = true) {y : (Int32 × zSt)} (hf : fX9_addBumper S i_1 i_2 i_3 i_4 i_5 = some (Sum.inr y)) : Met l yL_addBumper wsL_addBumper rmL_addBumper (zPL Γ lo S (Z ++ [zOut Γ qo O]) [.ref (lo (10, 0, 0)), .int i_1, .int i_2, .int i_3, .int i_4, .int i_5, .ref qo]) (zQn Γ lo S y.2 (Z ++ [zOut Γ qo (vp_updL O 0 (y.1).toInt64)]) (fun _ => some (.int 0)) (fun _ => True)) 2 71 (zA Γ) := by
  refine va_MetW (cc := cL_addBumper) (maxL := 8) (ret := (some .int)) (hh := [(0, 16, 19, 21), (0, 16, 23, 13), (0, 16, 27, 15)]) (by decide) rfl ?_
  intro p e s m args below meth c s₁ B hml hv
  obtain ⟨rfl, hW, hKK, hKX, hKY, hKN⟩ := hv
  have hx := B.exec
  have hb := B.bytes
  have hr := B.returns
  have hts := atoms_spec (ws := wsL_addBumper) B.pre
  have ht : c.exceptionTable.toList = tableOf [(0, 16, 19, 21), (0, 16, 23, 13), (0, 16, 27, 15)] := vx_table (x := yL_addBumper) B (hts _ (List.mem_of_getElem? (i := 0) rfl))
  have hown : s.vm.findClass RL = some m.cls := findClass_of_methodNamed B.named
  have hlocks := B.notSynchronized
  have hS : va_S (zA Γ) s.heap s.heap [] := va_S.rf
  have hl := lv_entry ([.ref (lo (10, 0, 0)), .int i_1, .int i_2, .int i_3, .int i_4, .int i_5, .ref qo]) (n := 8) (Nat.le_of_ble_eq_true rfl)
  rw [lg_entry_eq]
  generalize (lg_sl ([.ref (lo (10, 0, 0)), .int i_1, .int i_2, .int i_3, .int i_4, .int i_5, .ref qo]) ++ List.replicate (8 - (lg_sl ([.ref (lo (10, 0, 0)), .int i_1, .int i_2, .int i_3, .int i_4, .int i_5, .ref qo])).length) Slot.unset).toArray = ls at hl ⊢
  have hl : lv_has ls 8 [(0, .ref (lo (10, 0, 0))), (1, .int i_1), (2, .int i_2), (3, .int i_3), (4, .int i_4), (5, .int i_5), (6, .ref qo)] := hl
  generalize ([.ref (lo (10, 0, 0)), .int i_1, .int i_2, .int i_3, .int i_4, .int i_5, .ref qo] : List Value).toArray = args at hts ⊢
  obtain ⟨H, hH0⟩ : ∃ H, H = s.heap := ⟨_, rfl⟩
  obtain ⟨locs, hlo0⟩ : ∃ L : List Loc, L = [] := ⟨_, rfl⟩
  have hS : va_S (zA Γ) s.heap H locs := by rw [hH0, hlo0]; exact hS
  have hW : Wd Γ lo S (Z ++ [zOut Γ qo O]) H := by rw [hH0]; exact hW
  rw [← hH0, ← hlo0]
  refine lv_aload hx hb dL_addBumper_0 (lv_at hl 6 rfl) ?_
  refine lv_iconst (v := (0)) hx hb dL_addBumper_2 (by decide) ?_
  refine lv_aload_n hx hb dL_addBumper_3 rfl (lv_at hl 0 rfl) ?_
  refine lv_iload_n hx hb dL_addBumper_4 rfl (lv_at hl 1 rfl) ?_
  refine lv_iload_n hx hb dL_addBumper_5 rfl (lv_at hl 2 rfl) ?_
  refine lv_iload_n hx hb dL_addBumper_6 rfl (lv_at hl 3 rfl) ?_
  refine lv_iload hx hb dL_addBumper_7 (lv_at hl 4 rfl) ?_
  refine lv_iload hx hb dL_addBumper_9 (lv_at hl 5 rfl) ?_
  refine n_callV (As := [.int i_1, .int i_2, .int i_3, .int i_4, .int i_5]) (rest := [.int 0, .ref qo]) ⟨hx, hb, hml, hown, hts⟩ (tX9_addBumper l Γ lo S (Z ++ [zOut Γ qo O]) v_z hf) (cwV 5 hts gL_addBumper_X9_addBumper rfl rfl rfl (by decide +kernel) ⟨Nat.le_of_ble_eq_true rfl, Nat.le_of_ble_eq_true rfl⟩) (wd_1 hW v_z) rfl hKK hKY hW hS rfl hl.1 rfl (Nat.le_of_ble_eq_true rfl) dL_addBumper_11 ⟨Nat.le_of_ble_eq_true rfl, Nat.le_of_ble_eq_true rfl⟩ (fun lo1 H locs hW hS h1 hmo hE => ?_)
  refine lv_i2l hx hb dL_addBumper_14 rfl ?_
  refine x_out hx hb hKK.1 hW hS dL_addBumper_15 (fun H locs hW hS => ?_)
  refine lv_goto (tgt := 31) hx hb dL_addBumper_16 (by decide) ?_
  refine lv_iconst (v := (0)) hx hb dL_addBumper_31 (by decide) ?_
  exact n_iret hx hb hr hlocks (Nat.le_of_ble_eq_true rfl) (Nat.le_of_ble_eq_true rfl) rfl rfl hW hS h1 hmo trivial dL_addBumper_32
set_option maxHeartbeats 4000000 in
set_option maxRecDepth 100000 in
theorem uL_addBumper (l : Launch) (hl0 : l.stackTraces = false) (Γ : zG) (lo : zId → Nat) (S : zSt) (Z : va_W) (qo : Nat) (O : Nat → Int64) {i_1 : Int32} {i_2 : Int32} {i_3 : Int32} {i_4 : Int32} {i_5 : Int32} (v_z : zV S (10, 0, 0) = true) {ee : Nat × zSt} (hf : fX9_addBumper S i_1 i_2 i_3 i_4 i_5 = some (Sum.inl ee)) (hn : ee.1 = 1 ∨ ee.1 = 2 ∨ ee.1 = 3) : Met l yL_addBumper wsL_addBumper rmL_addBumper (zPL Γ lo S (Z ++ [zOut Γ qo O]) [.ref (lo (10, 0, 0)), .int i_1, .int i_2, .int i_3, .int i_4, .int i_5, .ref qo]) (zQn Γ lo S ee.2 (Z ++ [zOut Γ qo O]) (fun _ => some (.int (kL [1, 2, 3] ee.1))) (fun _ => True)) 2 71 (zA Γ) := by
  refine va_MetW (cc := cL_addBumper) (maxL := 8) (ret := (some .int)) (hh := [(0, 16, 19, 21), (0, 16, 23, 13), (0, 16, 27, 15)]) (by decide) rfl ?_
  intro p e s m args below meth c s₁ B hml hv
  obtain ⟨rfl, hW, hKK, hKX, hKY, hKN⟩ := hv
  have hx := B.exec
  have hb := B.bytes
  have hr := B.returns
  have hts := atoms_spec (ws := wsL_addBumper) B.pre
  have ht : c.exceptionTable.toList = tableOf [(0, 16, 19, 21), (0, 16, 23, 13), (0, 16, 27, 15)] := vx_table (x := yL_addBumper) B (hts _ (List.mem_of_getElem? (i := 0) rfl))
  have hown : s.vm.findClass RL = some m.cls := findClass_of_methodNamed B.named
  have hlocks := B.notSynchronized
  have hS : va_S (zA Γ) s.heap s.heap [] := va_S.rf
  have hl := lv_entry ([.ref (lo (10, 0, 0)), .int i_1, .int i_2, .int i_3, .int i_4, .int i_5, .ref qo]) (n := 8) (Nat.le_of_ble_eq_true rfl)
  rw [lg_entry_eq]
  generalize (lg_sl ([.ref (lo (10, 0, 0)), .int i_1, .int i_2, .int i_3, .int i_4, .int i_5, .ref qo]) ++ List.replicate (8 - (lg_sl ([.ref (lo (10, 0, 0)), .int i_1, .int i_2, .int i_3, .int i_4, .int i_5, .ref qo])).length) Slot.unset).toArray = ls at hl ⊢
  have hl : lv_has ls 8 [(0, .ref (lo (10, 0, 0))), (1, .int i_1), (2, .int i_2), (3, .int i_3), (4, .int i_4), (5, .int i_5), (6, .ref qo)] := hl
  generalize ([.ref (lo (10, 0, 0)), .int i_1, .int i_2, .int i_3, .int i_4, .int i_5, .ref qo] : List Value).toArray = args at hts ⊢
  obtain ⟨H, hH0⟩ : ∃ H, H = s.heap := ⟨_, rfl⟩
  obtain ⟨locs, hlo0⟩ : ∃ L : List Loc, L = [] := ⟨_, rfl⟩
  have hS : va_S (zA Γ) s.heap H locs := by rw [hH0, hlo0]; exact hS
  have hW : Wd Γ lo S (Z ++ [zOut Γ qo O]) H := by rw [hH0]; exact hW
  rw [← hH0, ← hlo0]
  refine lv_aload hx hb dL_addBumper_0 (lv_at hl 6 rfl) ?_
  refine lv_iconst (v := (0)) hx hb dL_addBumper_2 (by decide) ?_
  refine lv_aload_n hx hb dL_addBumper_3 rfl (lv_at hl 0 rfl) ?_
  refine lv_iload_n hx hb dL_addBumper_4 rfl (lv_at hl 1 rfl) ?_
  refine lv_iload_n hx hb dL_addBumper_5 rfl (lv_at hl 2 rfl) ?_
  refine lv_iload_n hx hb dL_addBumper_6 rfl (lv_at hl 3 rfl) ?_
  refine lv_iload hx hb dL_addBumper_7 (lv_at hl 4 rfl) ?_
  refine lv_iload hx hb dL_addBumper_9 (lv_at hl 5 rfl) ?_
  refine l_thr (rest := [.int 0, .ref qo]) (vx_runV (As := [.int i_1, .int i_2, .int i_3, .int i_4, .int i_5]) ⟨hx, hb, hml, hown, hts⟩ (uX9_addBumper l hl0 Γ lo S (Z ++ [zOut Γ qo O]) v_z hf) (cwV 5 hts gL_addBumper_X9_addBumper rfl rfl rfl (by decide +kernel) ⟨Nat.le_of_ble_eq_true rfl, Nat.le_of_ble_eq_true rfl⟩) ⟨fun _ _ _ _ q => q, va_recv (q0 := 0) hKK.1 (wd_1 hW v_z) rfl rfl, fun _ hU hW1 => ⟨rfl, by rw [hU]; exact hW, hKK.go hS hU hW1, hKX.go hW1⟩⟩ rfl rfl hl.1 rfl (lv_room (Nat.le_of_ble_eq_true rfl)) dL_addBumper_11 ⟨Nat.le_of_ble_eq_true rfl, Nat.le_of_ble_eq_true rfl⟩) hS (fun q H locs ce hW hS hm1 hce hcv hcl => ?_)
  obtain ⟨en, eS⟩ := ee
  dsimp only at hn hW hm1 hcl ⊢
  rcases hn with rfl | rfl | rfl
  · refine vx_catch (own := RL) (name := "java/lang/IndexOutOfBoundsException") hown [] ⟨0, 16, 19, 21⟩ [⟨0, 16, 23, 13⟩, ⟨0, 16, 27, 15⟩] ht (fun z hz => by cases hz) rfl (Nat.succ_ne_zero _) (hts (.classLink RL 21 "java/lang/IndexOutOfBoundsException") (List.mem_of_getElem? (i := 1) rfl)) (va_Nw.use rfl (hKX.2.2 1)) hce hcv hcl ?_
    refine lv_astore (lv' := [(7, .ref q), (0, .ref (lo (10, 0, 0))), (1, .int i_1), (2, .int i_2), (3, .int i_3), (4, .int i_4), (5, .int i_5), (6, .ref qo)]) hx hb dL_addBumper_19 hl (by decide) rfl (fun ls hl => ?_)
    refine lv_iconst (v := (1)) hx hb dL_addBumper_21 (by decide) ?_
    exact n_iret hx hb hr hlocks (Nat.le_of_ble_eq_true rfl) (Nat.le_of_ble_eq_true rfl) rfl rfl hW hS (fun _ _ => rfl) (fun d hd => (hm1 d).trans hd) trivial dL_addBumper_22
  · refine vx_catch (own := RL) (name := "java/lang/IllegalArgumentException") hown [⟨0, 16, 19, 21⟩] ⟨0, 16, 23, 13⟩ [⟨0, 16, 27, 15⟩] ht (fun z hz => by cases hz with | head => exact Or.inr ⟨Nat.succ_ne_zero _, _, (hts (.classLink RL 21 "java/lang/IndexOutOfBoundsException") (List.mem_of_getElem? (i := 1) rfl)), hKN _ (List.mem_of_getElem? (i := 0) rfl)⟩ | tail _ hz => cases hz) rfl (Nat.succ_ne_zero _) (hts (.classLink RL 13 "java/lang/IllegalArgumentException") (List.mem_of_getElem? (i := 2) rfl)) (va_Nw.use rfl (hKX.2.2 2)) hce hcv hcl ?_
    refine lv_astore (lv' := [(7, .ref q), (0, .ref (lo (10, 0, 0))), (1, .int i_1), (2, .int i_2), (3, .int i_3), (4, .int i_4), (5, .int i_5), (6, .ref qo)]) hx hb dL_addBumper_23 hl (by decide) rfl (fun ls hl => ?_)
    refine lv_iconst (v := (2)) hx hb dL_addBumper_25 (by decide) ?_
    exact n_iret hx hb hr hlocks (Nat.le_of_ble_eq_true rfl) (Nat.le_of_ble_eq_true rfl) rfl rfl hW hS (fun _ _ => rfl) (fun d hd => (hm1 d).trans hd) trivial dL_addBumper_26
  · refine vx_catch (own := RL) (name := "java/lang/IllegalStateException") hown [⟨0, 16, 19, 21⟩, ⟨0, 16, 23, 13⟩] ⟨0, 16, 27, 15⟩ [] ht (fun z hz => by cases hz with | head => exact Or.inr ⟨Nat.succ_ne_zero _, _, (hts (.classLink RL 21 "java/lang/IndexOutOfBoundsException") (List.mem_of_getElem? (i := 1) rfl)), hKN _ (List.mem_of_getElem? (i := 1) rfl)⟩ | tail _ hz => cases hz with | head => exact Or.inr ⟨Nat.succ_ne_zero _, _, (hts (.classLink RL 13 "java/lang/IllegalArgumentException") (List.mem_of_getElem? (i := 2) rfl)), hKN _ (List.mem_of_getElem? (i := 2) rfl)⟩ | tail _ hz => cases hz) rfl (Nat.succ_ne_zero _) (hts (.classLink RL 15 "java/lang/IllegalStateException") (List.mem_of_getElem? (i := 3) rfl)) (va_Nw.use rfl (hKX.2.2 3)) hce hcv hcl ?_
    refine lv_astore (lv' := [(7, .ref q), (0, .ref (lo (10, 0, 0))), (1, .int i_1), (2, .int i_2), (3, .int i_3), (4, .int i_4), (5, .int i_5), (6, .ref qo)]) hx hb dL_addBumper_27 hl (by decide) rfl (fun ls hl => ?_)
    refine lv_iconst (v := (3)) hx hb dL_addBumper_29 (by decide) ?_
    exact n_iret hx hb hr hlocks (Nat.le_of_ble_eq_true rfl) (Nat.le_of_ble_eq_true rfl) rfl rfl hW hS (fun _ _ => rfl) (fun d hd => (hm1 d).trans hd) trivial dL_addBumper_30

abbrev rmL_setPoints : Room := { frames := 8, cells := 1, slots := 6, locals := 129 }
set_option maxHeartbeats 4000000 in
set_option maxRecDepth 100000 in
theorem tL_setPoints (l : Launch) (Γ : zG) (lo : zId → Nat) (S : zSt) (Z : va_W) (qo : Nat) (O : Nat → Int64) {i_1 : Int32} {i_2 : Int32} {i_3 : Int32} (v_z : zV S (10, 0, 0) = true) {y : (Int32 × zSt)} (hf : fX9_setPoints S i_1 i_2 i_3 = some (Sum.inr y)) : Met l yL_setPoints wsL_setPoints rmL_setPoints (zPL Γ lo S (Z ++ [zOut Γ qo O]) [.ref (lo (10, 0, 0)), .int i_1, .int i_2, .int i_3, .ref qo]) (zQn Γ lo S y.2 (Z ++ [zOut Γ qo (vp_updL O 0 (y.1).toInt64)]) (fun _ => some (.int 0)) (fun _ => True)) 1 6 (zA Γ) := by
  refine va_MetW (cc := cL_setPoints) (maxL := 6) (ret := (some .int)) (hh := [(0, 12, 15, 21), (0, 12, 19, 13), (0, 12, 23, 15)]) (by decide) rfl ?_
  intro p e s m args below meth c s₁ B hml hv
  obtain ⟨rfl, hW, hKK, hKX, hKY, hKN⟩ := hv
  have hx := B.exec
  have hb := B.bytes
  have hr := B.returns
  have hts := atoms_spec (ws := wsL_setPoints) B.pre
  have ht : c.exceptionTable.toList = tableOf [(0, 12, 15, 21), (0, 12, 19, 13), (0, 12, 23, 15)] := vx_table (x := yL_setPoints) B (hts _ (List.mem_of_getElem? (i := 0) rfl))
  have hown : s.vm.findClass RL = some m.cls := findClass_of_methodNamed B.named
  have hlocks := B.notSynchronized
  have hS : va_S (zA Γ) s.heap s.heap [] := va_S.rf
  have hl := lv_entry ([.ref (lo (10, 0, 0)), .int i_1, .int i_2, .int i_3, .ref qo]) (n := 6) (Nat.le_of_ble_eq_true rfl)
  rw [lg_entry_eq]
  generalize (lg_sl ([.ref (lo (10, 0, 0)), .int i_1, .int i_2, .int i_3, .ref qo]) ++ List.replicate (6 - (lg_sl ([.ref (lo (10, 0, 0)), .int i_1, .int i_2, .int i_3, .ref qo])).length) Slot.unset).toArray = ls at hl ⊢
  have hl : lv_has ls 6 [(0, .ref (lo (10, 0, 0))), (1, .int i_1), (2, .int i_2), (3, .int i_3), (4, .ref qo)] := hl
  generalize ([.ref (lo (10, 0, 0)), .int i_1, .int i_2, .int i_3, .ref qo] : List Value).toArray = args at hts ⊢
  obtain ⟨H, hH0⟩ : ∃ H, H = s.heap := ⟨_, rfl⟩
  obtain ⟨locs, hlo0⟩ : ∃ L : List Loc, L = [] := ⟨_, rfl⟩
  have hS : va_S (zA Γ) s.heap H locs := by rw [hH0, hlo0]; exact hS
  have hW : Wd Γ lo S (Z ++ [zOut Γ qo O]) H := by rw [hH0]; exact hW
  rw [← hH0, ← hlo0]
  refine lv_aload hx hb dL_setPoints_0 (lv_at hl 4 rfl) ?_
  refine lv_iconst (v := (0)) hx hb dL_setPoints_2 (by decide) ?_
  refine lv_aload_n hx hb dL_setPoints_3 rfl (lv_at hl 0 rfl) ?_
  refine lv_iload_n hx hb dL_setPoints_4 rfl (lv_at hl 1 rfl) ?_
  refine lv_iload_n hx hb dL_setPoints_5 rfl (lv_at hl 2 rfl) ?_
  refine lv_iload_n hx hb dL_setPoints_6 rfl (lv_at hl 3 rfl) ?_
  refine z_callV (As := [.int i_1, .int i_2, .int i_3]) (rest := [.int 0, .ref qo]) ⟨hx, hb, hml, hown, hts⟩ (tX9_setPoints l Γ lo S (Z ++ [zOut Γ qo O]) v_z hf) (cwV 3 hts gL_setPoints_X9_setPoints rfl rfl rfl (by decide +kernel) ⟨Nat.le_of_ble_eq_true rfl, Nat.le_of_ble_eq_true rfl⟩) (wd_1 hW v_z) rfl hKK hW hS rfl hl.1 rfl (Nat.le_of_ble_eq_true rfl) dL_setPoints_7 ⟨Nat.zero_le _, Nat.zero_le _⟩ (fun H locs hW hS hm1 hE => ?_)
  refine lv_i2l hx hb dL_setPoints_10 rfl ?_
  refine x_out hx hb hKK.1 hW hS dL_setPoints_11 (fun H locs hW hS => ?_)
  refine lv_goto (tgt := 27) hx hb dL_setPoints_12 (by decide) ?_
  refine lv_iconst (v := (0)) hx hb dL_setPoints_27 (by decide) ?_
  exact n_iret hx hb hr hlocks (Nat.le_of_ble_eq_true rfl) (Nat.le_of_ble_eq_true rfl) rfl rfl hW hS (fun _ _ => rfl) (fun d hd => (hm1 d).trans hd) trivial dL_setPoints_28
set_option maxHeartbeats 4000000 in
set_option maxRecDepth 100000 in
theorem uL_setPoints (l : Launch) (hl0 : l.stackTraces = false) (Γ : zG) (lo : zId → Nat) (S : zSt) (Z : va_W) (qo : Nat) (O : Nat → Int64) {i_1 : Int32} {i_2 : Int32} {i_3 : Int32} (v_z : zV S (10, 0, 0) = true) {ee : Nat × zSt} (hf : fX9_setPoints S i_1 i_2 i_3 = some (Sum.inl ee)) (hn : ee.1 = 1 ∨ ee.1 = 2 ∨ ee.1 = 3) : Met l yL_setPoints wsL_setPoints rmL_setPoints (zPL Γ lo S (Z ++ [zOut Γ qo O]) [.ref (lo (10, 0, 0)), .int i_1, .int i_2, .int i_3, .ref qo]) (zQn Γ lo S ee.2 (Z ++ [zOut Γ qo O]) (fun _ => some (.int (kL [1, 2, 3] ee.1))) (fun _ => True)) 1 6 (zA Γ) := by
  refine va_MetW (cc := cL_setPoints) (maxL := 6) (ret := (some .int)) (hh := [(0, 12, 15, 21), (0, 12, 19, 13), (0, 12, 23, 15)]) (by decide) rfl ?_
  intro p e s m args below meth c s₁ B hml hv
  obtain ⟨rfl, hW, hKK, hKX, hKY, hKN⟩ := hv
  have hx := B.exec
  have hb := B.bytes
  have hr := B.returns
  have hts := atoms_spec (ws := wsL_setPoints) B.pre
  have ht : c.exceptionTable.toList = tableOf [(0, 12, 15, 21), (0, 12, 19, 13), (0, 12, 23, 15)] := vx_table (x := yL_setPoints) B (hts _ (List.mem_of_getElem? (i := 0) rfl))
  have hown : s.vm.findClass RL = some m.cls := findClass_of_methodNamed B.named
  have hlocks := B.notSynchronized
  have hS : va_S (zA Γ) s.heap s.heap [] := va_S.rf
  have hl := lv_entry ([.ref (lo (10, 0, 0)), .int i_1, .int i_2, .int i_3, .ref qo]) (n := 6) (Nat.le_of_ble_eq_true rfl)
  rw [lg_entry_eq]
  generalize (lg_sl ([.ref (lo (10, 0, 0)), .int i_1, .int i_2, .int i_3, .ref qo]) ++ List.replicate (6 - (lg_sl ([.ref (lo (10, 0, 0)), .int i_1, .int i_2, .int i_3, .ref qo])).length) Slot.unset).toArray = ls at hl ⊢
  have hl : lv_has ls 6 [(0, .ref (lo (10, 0, 0))), (1, .int i_1), (2, .int i_2), (3, .int i_3), (4, .ref qo)] := hl
  generalize ([.ref (lo (10, 0, 0)), .int i_1, .int i_2, .int i_3, .ref qo] : List Value).toArray = args at hts ⊢
  obtain ⟨H, hH0⟩ : ∃ H, H = s.heap := ⟨_, rfl⟩
  obtain ⟨locs, hlo0⟩ : ∃ L : List Loc, L = [] := ⟨_, rfl⟩
  have hS : va_S (zA Γ) s.heap H locs := by rw [hH0, hlo0]; exact hS
  have hW : Wd Γ lo S (Z ++ [zOut Γ qo O]) H := by rw [hH0]; exact hW
  rw [← hH0, ← hlo0]
  refine lv_aload hx hb dL_setPoints_0 (lv_at hl 4 rfl) ?_
  refine lv_iconst (v := (0)) hx hb dL_setPoints_2 (by decide) ?_
  refine lv_aload_n hx hb dL_setPoints_3 rfl (lv_at hl 0 rfl) ?_
  refine lv_iload_n hx hb dL_setPoints_4 rfl (lv_at hl 1 rfl) ?_
  refine lv_iload_n hx hb dL_setPoints_5 rfl (lv_at hl 2 rfl) ?_
  refine lv_iload_n hx hb dL_setPoints_6 rfl (lv_at hl 3 rfl) ?_
  refine l_thr (rest := [.int 0, .ref qo]) (vx_runV (As := [.int i_1, .int i_2, .int i_3]) ⟨hx, hb, hml, hown, hts⟩ (uX9_setPoints l hl0 Γ lo S (Z ++ [zOut Γ qo O]) v_z hf) (cwV 3 hts gL_setPoints_X9_setPoints rfl rfl rfl (by decide +kernel) ⟨Nat.le_of_ble_eq_true rfl, Nat.le_of_ble_eq_true rfl⟩) ⟨fun _ _ _ _ q => q, va_recv (q0 := 0) hKK.1 (wd_1 hW v_z) rfl rfl, fun _ hU hW1 => ⟨rfl, by rw [hU]; exact hW, hKK.go hS hU hW1, hKX.go hW1⟩⟩ rfl rfl hl.1 rfl (lv_room (Nat.le_of_ble_eq_true rfl)) dL_setPoints_7 ⟨Nat.le_of_ble_eq_true rfl, Nat.le_of_ble_eq_true rfl⟩) hS (fun q H locs ce hW hS hm1 hce hcv hcl => ?_)
  obtain ⟨en, eS⟩ := ee
  dsimp only at hn hW hm1 hcl ⊢
  rcases hn with rfl | rfl | rfl
  · refine vx_catch (own := RL) (name := "java/lang/IndexOutOfBoundsException") hown [] ⟨0, 12, 15, 21⟩ [⟨0, 12, 19, 13⟩, ⟨0, 12, 23, 15⟩] ht (fun z hz => by cases hz) rfl (Nat.succ_ne_zero _) (hts (.classLink RL 21 "java/lang/IndexOutOfBoundsException") (List.mem_of_getElem? (i := 1) rfl)) (va_Nw.use rfl (hKX.2.2 1)) hce hcv hcl ?_
    refine lv_astore (lv' := [(5, .ref q), (0, .ref (lo (10, 0, 0))), (1, .int i_1), (2, .int i_2), (3, .int i_3), (4, .ref qo)]) hx hb dL_setPoints_15 hl (by decide) rfl (fun ls hl => ?_)
    refine lv_iconst (v := (1)) hx hb dL_setPoints_17 (by decide) ?_
    exact n_iret hx hb hr hlocks (Nat.le_of_ble_eq_true rfl) (Nat.le_of_ble_eq_true rfl) rfl rfl hW hS (fun _ _ => rfl) (fun d hd => (hm1 d).trans hd) trivial dL_setPoints_18
  · refine vx_catch (own := RL) (name := "java/lang/IllegalArgumentException") hown [⟨0, 12, 15, 21⟩] ⟨0, 12, 19, 13⟩ [⟨0, 12, 23, 15⟩] ht (fun z hz => by cases hz with | head => exact Or.inr ⟨Nat.succ_ne_zero _, _, (hts (.classLink RL 21 "java/lang/IndexOutOfBoundsException") (List.mem_of_getElem? (i := 1) rfl)), hKN _ (List.mem_of_getElem? (i := 0) rfl)⟩ | tail _ hz => cases hz) rfl (Nat.succ_ne_zero _) (hts (.classLink RL 13 "java/lang/IllegalArgumentException") (List.mem_of_getElem? (i := 2) rfl)) (va_Nw.use rfl (hKX.2.2 2)) hce hcv hcl ?_
    refine lv_astore (lv' := [(5, .ref q), (0, .ref (lo (10, 0, 0))), (1, .int i_1), (2, .int i_2), (3, .int i_3), (4, .ref qo)]) hx hb dL_setPoints_19 hl (by decide) rfl (fun ls hl => ?_)
    refine lv_iconst (v := (2)) hx hb dL_setPoints_21 (by decide) ?_
    exact n_iret hx hb hr hlocks (Nat.le_of_ble_eq_true rfl) (Nat.le_of_ble_eq_true rfl) rfl rfl hW hS (fun _ _ => rfl) (fun d hd => (hm1 d).trans hd) trivial dL_setPoints_22
  · refine vx_catch (own := RL) (name := "java/lang/IllegalStateException") hown [⟨0, 12, 15, 21⟩, ⟨0, 12, 19, 13⟩] ⟨0, 12, 23, 15⟩ [] ht (fun z hz => by cases hz with | head => exact Or.inr ⟨Nat.succ_ne_zero _, _, (hts (.classLink RL 21 "java/lang/IndexOutOfBoundsException") (List.mem_of_getElem? (i := 1) rfl)), hKN _ (List.mem_of_getElem? (i := 1) rfl)⟩ | tail _ hz => cases hz with | head => exact Or.inr ⟨Nat.succ_ne_zero _, _, (hts (.classLink RL 13 "java/lang/IllegalArgumentException") (List.mem_of_getElem? (i := 2) rfl)), hKN _ (List.mem_of_getElem? (i := 2) rfl)⟩ | tail _ hz => cases hz) rfl (Nat.succ_ne_zero _) (hts (.classLink RL 15 "java/lang/IllegalStateException") (List.mem_of_getElem? (i := 3) rfl)) (va_Nw.use rfl (hKX.2.2 3)) hce hcv hcl ?_
    refine lv_astore (lv' := [(5, .ref q), (0, .ref (lo (10, 0, 0))), (1, .int i_1), (2, .int i_2), (3, .int i_3), (4, .ref qo)]) hx hb dL_setPoints_23 hl (by decide) rfl (fun ls hl => ?_)
    refine lv_iconst (v := (3)) hx hb dL_setPoints_25 (by decide) ?_
    exact n_iret hx hb hr hlocks (Nat.le_of_ble_eq_true rfl) (Nat.le_of_ble_eq_true rfl) rfl rfl hW hS (fun _ _ => rfl) (fun d hd => (hm1 d).trans hd) trivial dL_setPoints_26

abbrev rmL_setMode : Room := { frames := 8, cells := 1, slots := 6, locals := 131 }
set_option maxHeartbeats 4000000 in
set_option maxRecDepth 100000 in
theorem tL_setMode (l : Launch) (Γ : zG) (lo : zId → Nat) (S : zSt) (Z : va_W) (qo : Nat) (O : Nat → Int64) {i_1 : Int32} {i_2 : Int32} {i_3 : Int32} {i_4 : Int32} {i_5 : Int32} (v_z : zV S (10, 0, 0) = true) {y : (Int32 × zSt)} (hf : fX9_setMode S i_1 i_2 i_3 i_4 i_5 = some (Sum.inr y)) : Met l yL_setMode wsL_setMode rmL_setMode (zPL Γ lo S (Z ++ [zOut Γ qo O]) [.ref (lo (10, 0, 0)), .int i_1, .int i_2, .int i_3, .int i_4, .int i_5, .ref qo]) (zQn Γ lo S y.2 (Z ++ [zOut Γ qo (vp_updL O 0 (if y.1 = 0 then (0 : Int64) else 1))]) (fun _ => some (.int 0)) (fun _ => True)) 1 6 (zA Γ) := by
  refine va_MetW (cc := cL_setMode) (maxL := 8) (ret := (some .int)) (hh := [(0, 23, 26, 21), (0, 23, 30, 13), (0, 23, 34, 15)]) (by decide) rfl ?_
  intro p e s m args below meth c s₁ B hml hv
  obtain ⟨rfl, hW, hKK, hKX, hKY, hKN⟩ := hv
  have hx := B.exec
  have hb := B.bytes
  have hr := B.returns
  have hts := atoms_spec (ws := wsL_setMode) B.pre
  have ht : c.exceptionTable.toList = tableOf [(0, 23, 26, 21), (0, 23, 30, 13), (0, 23, 34, 15)] := vx_table (x := yL_setMode) B (hts _ (List.mem_of_getElem? (i := 0) rfl))
  have hown : s.vm.findClass RL = some m.cls := findClass_of_methodNamed B.named
  have hlocks := B.notSynchronized
  have hS : va_S (zA Γ) s.heap s.heap [] := va_S.rf
  have hl := lv_entry ([.ref (lo (10, 0, 0)), .int i_1, .int i_2, .int i_3, .int i_4, .int i_5, .ref qo]) (n := 8) (Nat.le_of_ble_eq_true rfl)
  rw [lg_entry_eq]
  generalize (lg_sl ([.ref (lo (10, 0, 0)), .int i_1, .int i_2, .int i_3, .int i_4, .int i_5, .ref qo]) ++ List.replicate (8 - (lg_sl ([.ref (lo (10, 0, 0)), .int i_1, .int i_2, .int i_3, .int i_4, .int i_5, .ref qo])).length) Slot.unset).toArray = ls at hl ⊢
  have hl : lv_has ls 8 [(0, .ref (lo (10, 0, 0))), (1, .int i_1), (2, .int i_2), (3, .int i_3), (4, .int i_4), (5, .int i_5), (6, .ref qo)] := hl
  generalize ([.ref (lo (10, 0, 0)), .int i_1, .int i_2, .int i_3, .int i_4, .int i_5, .ref qo] : List Value).toArray = args at hts ⊢
  obtain ⟨H, hH0⟩ : ∃ H, H = s.heap := ⟨_, rfl⟩
  obtain ⟨locs, hlo0⟩ : ∃ L : List Loc, L = [] := ⟨_, rfl⟩
  have hS : va_S (zA Γ) s.heap H locs := by rw [hH0, hlo0]; exact hS
  have hW : Wd Γ lo S (Z ++ [zOut Γ qo O]) H := by rw [hH0]; exact hW
  rw [← hH0, ← hlo0]
  refine lv_aload hx hb dL_setMode_0 (lv_at hl 6 rfl) ?_
  refine lv_iconst (v := (0)) hx hb dL_setMode_2 (by decide) ?_
  refine lv_aload_n hx hb dL_setMode_3 rfl (lv_at hl 0 rfl) ?_
  refine lv_iload_n hx hb dL_setMode_4 rfl (lv_at hl 1 rfl) ?_
  refine lv_iload_n hx hb dL_setMode_5 rfl (lv_at hl 2 rfl) ?_
  refine lv_iload_n hx hb dL_setMode_6 rfl (lv_at hl 3 rfl) ?_
  refine lv_iload hx hb dL_setMode_7 (lv_at hl 4 rfl) ?_
  refine lv_iload hx hb dL_setMode_9 (lv_at hl 5 rfl) ?_
  refine n_callV (As := [.int i_1, .int i_2, .int i_3, .int i_4, .int i_5]) (rest := [.int 0, .ref qo]) ⟨hx, hb, hml, hown, hts⟩ (tX9_setMode l Γ lo S (Z ++ [zOut Γ qo O]) v_z hf) (cwV 5 hts gL_setMode_X9_setMode rfl rfl rfl (by decide +kernel) ⟨Nat.le_of_ble_eq_true rfl, Nat.le_of_ble_eq_true rfl⟩) (wd_1 hW v_z) rfl hKK hKY hW hS rfl hl.1 rfl (Nat.le_of_ble_eq_true rfl) dL_setMode_11 ⟨Nat.le_of_ble_eq_true rfl, Nat.le_of_ble_eq_true rfl⟩ (fun lo1 H locs hW hS h1 hmo hE => ?_)
  refine lv_if_eq (tgt := 21) hx hb dL_setMode_14 (by decide) (fun k => ?_) (fun k => ?_)
  · rw [if_pos k]
    refine lv_lconst (v := (0)) hx hb dL_setMode_21 (by decide) ?_
    refine x_out hx hb hKK.1 hW hS dL_setMode_22 (fun H locs hW hS => ?_)
    refine lv_goto (tgt := 38) hx hb dL_setMode_23 (by decide) ?_
    refine lv_iconst (v := (0)) hx hb dL_setMode_38 (by decide) ?_
    exact n_iret hx hb hr hlocks (Nat.le_of_ble_eq_true rfl) (Nat.le_of_ble_eq_true rfl) rfl rfl hW hS h1 hmo trivial dL_setMode_39
  · rw [if_neg k]
    refine lv_lconst (v := (1)) hx hb dL_setMode_17 (by decide) ?_
    refine lv_goto (tgt := 22) hx hb dL_setMode_18 (by decide) ?_
    refine x_out hx hb hKK.1 hW hS dL_setMode_22 (fun H locs hW hS => ?_)
    refine lv_goto (tgt := 38) hx hb dL_setMode_23 (by decide) ?_
    refine lv_iconst (v := (0)) hx hb dL_setMode_38 (by decide) ?_
    exact n_iret hx hb hr hlocks (Nat.le_of_ble_eq_true rfl) (Nat.le_of_ble_eq_true rfl) rfl rfl hW hS h1 hmo trivial dL_setMode_39
set_option maxHeartbeats 4000000 in
set_option maxRecDepth 100000 in
theorem uL_setMode (l : Launch) (hl0 : l.stackTraces = false) (Γ : zG) (lo : zId → Nat) (S : zSt) (Z : va_W) (qo : Nat) (O : Nat → Int64) {i_1 : Int32} {i_2 : Int32} {i_3 : Int32} {i_4 : Int32} {i_5 : Int32} (v_z : zV S (10, 0, 0) = true) {ee : Nat × zSt} (hf : fX9_setMode S i_1 i_2 i_3 i_4 i_5 = some (Sum.inl ee)) (hn : ee.1 = 1 ∨ ee.1 = 2 ∨ ee.1 = 3) : Met l yL_setMode wsL_setMode rmL_setMode (zPL Γ lo S (Z ++ [zOut Γ qo O]) [.ref (lo (10, 0, 0)), .int i_1, .int i_2, .int i_3, .int i_4, .int i_5, .ref qo]) (zQn Γ lo S ee.2 (Z ++ [zOut Γ qo O]) (fun _ => some (.int (kL [1, 2, 3] ee.1))) (fun _ => True)) 1 6 (zA Γ) := by
  refine va_MetW (cc := cL_setMode) (maxL := 8) (ret := (some .int)) (hh := [(0, 23, 26, 21), (0, 23, 30, 13), (0, 23, 34, 15)]) (by decide) rfl ?_
  intro p e s m args below meth c s₁ B hml hv
  obtain ⟨rfl, hW, hKK, hKX, hKY, hKN⟩ := hv
  have hx := B.exec
  have hb := B.bytes
  have hr := B.returns
  have hts := atoms_spec (ws := wsL_setMode) B.pre
  have ht : c.exceptionTable.toList = tableOf [(0, 23, 26, 21), (0, 23, 30, 13), (0, 23, 34, 15)] := vx_table (x := yL_setMode) B (hts _ (List.mem_of_getElem? (i := 0) rfl))
  have hown : s.vm.findClass RL = some m.cls := findClass_of_methodNamed B.named
  have hlocks := B.notSynchronized
  have hS : va_S (zA Γ) s.heap s.heap [] := va_S.rf
  have hl := lv_entry ([.ref (lo (10, 0, 0)), .int i_1, .int i_2, .int i_3, .int i_4, .int i_5, .ref qo]) (n := 8) (Nat.le_of_ble_eq_true rfl)
  rw [lg_entry_eq]
  generalize (lg_sl ([.ref (lo (10, 0, 0)), .int i_1, .int i_2, .int i_3, .int i_4, .int i_5, .ref qo]) ++ List.replicate (8 - (lg_sl ([.ref (lo (10, 0, 0)), .int i_1, .int i_2, .int i_3, .int i_4, .int i_5, .ref qo])).length) Slot.unset).toArray = ls at hl ⊢
  have hl : lv_has ls 8 [(0, .ref (lo (10, 0, 0))), (1, .int i_1), (2, .int i_2), (3, .int i_3), (4, .int i_4), (5, .int i_5), (6, .ref qo)] := hl
  generalize ([.ref (lo (10, 0, 0)), .int i_1, .int i_2, .int i_3, .int i_4, .int i_5, .ref qo] : List Value).toArray = args at hts ⊢
  obtain ⟨H, hH0⟩ : ∃ H, H = s.heap := ⟨_, rfl⟩
  obtain ⟨locs, hlo0⟩ : ∃ L : List Loc, L = [] := ⟨_, rfl⟩
  have hS : va_S (zA Γ) s.heap H locs := by rw [hH0, hlo0]; exact hS
  have hW : Wd Γ lo S (Z ++ [zOut Γ qo O]) H := by rw [hH0]; exact hW
  rw [← hH0, ← hlo0]
  refine lv_aload hx hb dL_setMode_0 (lv_at hl 6 rfl) ?_
  refine lv_iconst (v := (0)) hx hb dL_setMode_2 (by decide) ?_
  refine lv_aload_n hx hb dL_setMode_3 rfl (lv_at hl 0 rfl) ?_
  refine lv_iload_n hx hb dL_setMode_4 rfl (lv_at hl 1 rfl) ?_
  refine lv_iload_n hx hb dL_setMode_5 rfl (lv_at hl 2 rfl) ?_
  refine lv_iload_n hx hb dL_setMode_6 rfl (lv_at hl 3 rfl) ?_
  refine lv_iload hx hb dL_setMode_7 (lv_at hl 4 rfl) ?_
  refine lv_iload hx hb dL_setMode_9 (lv_at hl 5 rfl) ?_
  refine l_thr (rest := [.int 0, .ref qo]) (vx_runV (As := [.int i_1, .int i_2, .int i_3, .int i_4, .int i_5]) ⟨hx, hb, hml, hown, hts⟩ (uX9_setMode l hl0 Γ lo S (Z ++ [zOut Γ qo O]) v_z hf) (cwV 5 hts gL_setMode_X9_setMode rfl rfl rfl (by decide +kernel) ⟨Nat.le_of_ble_eq_true rfl, Nat.le_of_ble_eq_true rfl⟩) ⟨fun _ _ _ _ q => q, va_recv (q0 := 0) hKK.1 (wd_1 hW v_z) rfl rfl, fun _ hU hW1 => ⟨rfl, by rw [hU]; exact hW, hKK.go hS hU hW1, hKX.go hW1⟩⟩ rfl rfl hl.1 rfl (lv_room (Nat.le_of_ble_eq_true rfl)) dL_setMode_11 ⟨Nat.le_of_ble_eq_true rfl, Nat.le_of_ble_eq_true rfl⟩) hS (fun q H locs ce hW hS hm1 hce hcv hcl => ?_)
  obtain ⟨en, eS⟩ := ee
  dsimp only at hn hW hm1 hcl ⊢
  rcases hn with rfl | rfl | rfl
  · refine vx_catch (own := RL) (name := "java/lang/IndexOutOfBoundsException") hown [] ⟨0, 23, 26, 21⟩ [⟨0, 23, 30, 13⟩, ⟨0, 23, 34, 15⟩] ht (fun z hz => by cases hz) rfl (Nat.succ_ne_zero _) (hts (.classLink RL 21 "java/lang/IndexOutOfBoundsException") (List.mem_of_getElem? (i := 1) rfl)) (va_Nw.use rfl (hKX.2.2 1)) hce hcv hcl ?_
    refine lv_astore (lv' := [(7, .ref q), (0, .ref (lo (10, 0, 0))), (1, .int i_1), (2, .int i_2), (3, .int i_3), (4, .int i_4), (5, .int i_5), (6, .ref qo)]) hx hb dL_setMode_26 hl (by decide) rfl (fun ls hl => ?_)
    refine lv_iconst (v := (1)) hx hb dL_setMode_28 (by decide) ?_
    exact n_iret hx hb hr hlocks (Nat.le_of_ble_eq_true rfl) (Nat.le_of_ble_eq_true rfl) rfl rfl hW hS (fun _ _ => rfl) (fun d hd => (hm1 d).trans hd) trivial dL_setMode_29
  · refine vx_catch (own := RL) (name := "java/lang/IllegalArgumentException") hown [⟨0, 23, 26, 21⟩] ⟨0, 23, 30, 13⟩ [⟨0, 23, 34, 15⟩] ht (fun z hz => by cases hz with | head => exact Or.inr ⟨Nat.succ_ne_zero _, _, (hts (.classLink RL 21 "java/lang/IndexOutOfBoundsException") (List.mem_of_getElem? (i := 1) rfl)), hKN _ (List.mem_of_getElem? (i := 0) rfl)⟩ | tail _ hz => cases hz) rfl (Nat.succ_ne_zero _) (hts (.classLink RL 13 "java/lang/IllegalArgumentException") (List.mem_of_getElem? (i := 2) rfl)) (va_Nw.use rfl (hKX.2.2 2)) hce hcv hcl ?_
    refine lv_astore (lv' := [(7, .ref q), (0, .ref (lo (10, 0, 0))), (1, .int i_1), (2, .int i_2), (3, .int i_3), (4, .int i_4), (5, .int i_5), (6, .ref qo)]) hx hb dL_setMode_30 hl (by decide) rfl (fun ls hl => ?_)
    refine lv_iconst (v := (2)) hx hb dL_setMode_32 (by decide) ?_
    exact n_iret hx hb hr hlocks (Nat.le_of_ble_eq_true rfl) (Nat.le_of_ble_eq_true rfl) rfl rfl hW hS (fun _ _ => rfl) (fun d hd => (hm1 d).trans hd) trivial dL_setMode_33
  · refine vx_catch (own := RL) (name := "java/lang/IllegalStateException") hown [⟨0, 23, 26, 21⟩, ⟨0, 23, 30, 13⟩] ⟨0, 23, 34, 15⟩ [] ht (fun z hz => by cases hz with | head => exact Or.inr ⟨Nat.succ_ne_zero _, _, (hts (.classLink RL 21 "java/lang/IndexOutOfBoundsException") (List.mem_of_getElem? (i := 1) rfl)), hKN _ (List.mem_of_getElem? (i := 1) rfl)⟩ | tail _ hz => cases hz with | head => exact Or.inr ⟨Nat.succ_ne_zero _, _, (hts (.classLink RL 13 "java/lang/IllegalArgumentException") (List.mem_of_getElem? (i := 2) rfl)), hKN _ (List.mem_of_getElem? (i := 2) rfl)⟩ | tail _ hz => cases hz) rfl (Nat.succ_ne_zero _) (hts (.classLink RL 15 "java/lang/IllegalStateException") (List.mem_of_getElem? (i := 3) rfl)) (va_Nw.use rfl (hKX.2.2 3)) hce hcv hcl ?_
    refine lv_astore (lv' := [(7, .ref q), (0, .ref (lo (10, 0, 0))), (1, .int i_1), (2, .int i_2), (3, .int i_3), (4, .int i_4), (5, .int i_5), (6, .ref qo)]) hx hb dL_setMode_34 hl (by decide) rfl (fun ls hl => ?_)
    refine lv_iconst (v := (3)) hx hb dL_setMode_36 (by decide) ?_
    exact n_iret hx hb hr hlocks (Nat.le_of_ble_eq_true rfl) (Nat.le_of_ble_eq_true rfl) rfl rfl hW hS (fun _ _ => rfl) (fun d hd => (hm1 d).trans hd) trivial dL_setMode_37

abbrev rmL_stick : Room := { frames := 8, cells := 1, slots := 6, locals := 126 }
set_option maxHeartbeats 4000000 in
set_option maxRecDepth 100000 in
theorem tL_stick (l : Launch) (Γ : zG) (lo : zId → Nat) (S : zSt) (Z : va_W) (qo : Nat) (O : Nat → Int64) {i_1 : Int32} {i_2 : Int32} (v_z : zV S (10, 0, 0) = true) {y : (Int32 × zSt)} (hf : fX9_stick S i_1 i_2 = some (Sum.inr y)) : Met l yL_stick wsL_stick rmL_stick (zPL Γ lo S (Z ++ [zOut Γ qo O]) [.ref (lo (10, 0, 0)), .int i_1, .int i_2, .ref qo]) (zQn Γ lo S y.2 (Z ++ [zOut Γ qo (vp_updL O 0 (y.1).toInt64)]) (fun _ => some (.int 0)) (fun _ => True)) 1 6 (zA Γ) := by
  refine va_MetW (cc := cL_stick) (maxL := 5) (ret := (some .int)) (hh := [(0, 10, 13, 21), (0, 10, 17, 15)]) (by decide) rfl ?_
  intro p e s m args below meth c s₁ B hml hv
  obtain ⟨rfl, hW, hKK, hKX, hKY, hKN⟩ := hv
  have hx := B.exec
  have hb := B.bytes
  have hr := B.returns
  have hts := atoms_spec (ws := wsL_stick) B.pre
  have ht : c.exceptionTable.toList = tableOf [(0, 10, 13, 21), (0, 10, 17, 15)] := vx_table (x := yL_stick) B (hts _ (List.mem_of_getElem? (i := 0) rfl))
  have hown : s.vm.findClass RL = some m.cls := findClass_of_methodNamed B.named
  have hlocks := B.notSynchronized
  have hS : va_S (zA Γ) s.heap s.heap [] := va_S.rf
  have hl := lv_entry ([.ref (lo (10, 0, 0)), .int i_1, .int i_2, .ref qo]) (n := 5) (Nat.le_of_ble_eq_true rfl)
  rw [lg_entry_eq]
  generalize (lg_sl ([.ref (lo (10, 0, 0)), .int i_1, .int i_2, .ref qo]) ++ List.replicate (5 - (lg_sl ([.ref (lo (10, 0, 0)), .int i_1, .int i_2, .ref qo])).length) Slot.unset).toArray = ls at hl ⊢
  have hl : lv_has ls 5 [(0, .ref (lo (10, 0, 0))), (1, .int i_1), (2, .int i_2), (3, .ref qo)] := hl
  generalize ([.ref (lo (10, 0, 0)), .int i_1, .int i_2, .ref qo] : List Value).toArray = args at hts ⊢
  obtain ⟨H, hH0⟩ : ∃ H, H = s.heap := ⟨_, rfl⟩
  obtain ⟨locs, hlo0⟩ : ∃ L : List Loc, L = [] := ⟨_, rfl⟩
  have hS : va_S (zA Γ) s.heap H locs := by rw [hH0, hlo0]; exact hS
  have hW : Wd Γ lo S (Z ++ [zOut Γ qo O]) H := by rw [hH0]; exact hW
  rw [← hH0, ← hlo0]
  refine lv_aload_n hx hb dL_stick_0 rfl (lv_at hl 3 rfl) ?_
  refine lv_iconst (v := (0)) hx hb dL_stick_1 (by decide) ?_
  refine lv_aload_n hx hb dL_stick_2 rfl (lv_at hl 0 rfl) ?_
  refine lv_iload_n hx hb dL_stick_3 rfl (lv_at hl 1 rfl) ?_
  refine lv_iload_n hx hb dL_stick_4 rfl (lv_at hl 2 rfl) ?_
  refine z_callV (As := [.int i_1, .int i_2]) (rest := [.int 0, .ref qo]) ⟨hx, hb, hml, hown, hts⟩ (tX9_stick l Γ lo S (Z ++ [zOut Γ qo O]) v_z hf) (cwV 2 hts gL_stick_X9_stick rfl rfl rfl (by decide +kernel) ⟨Nat.le_of_ble_eq_true rfl, Nat.le_of_ble_eq_true rfl⟩) (wd_1 hW v_z) rfl hKK hW hS rfl hl.1 rfl (Nat.le_of_ble_eq_true rfl) dL_stick_5 ⟨Nat.zero_le _, Nat.zero_le _⟩ (fun H locs hW hS hm1 hE => ?_)
  refine lv_i2l hx hb dL_stick_8 rfl ?_
  refine x_out hx hb hKK.1 hW hS dL_stick_9 (fun H locs hW hS => ?_)
  refine lv_goto (tgt := 21) hx hb dL_stick_10 (by decide) ?_
  refine lv_iconst (v := (0)) hx hb dL_stick_21 (by decide) ?_
  exact n_iret hx hb hr hlocks (Nat.le_of_ble_eq_true rfl) (Nat.le_of_ble_eq_true rfl) rfl rfl hW hS (fun _ _ => rfl) (fun d hd => (hm1 d).trans hd) trivial dL_stick_22
set_option maxHeartbeats 4000000 in
set_option maxRecDepth 100000 in
theorem uL_stick (l : Launch) (hl0 : l.stackTraces = false) (Γ : zG) (lo : zId → Nat) (S : zSt) (Z : va_W) (qo : Nat) (O : Nat → Int64) {i_1 : Int32} {i_2 : Int32} (v_z : zV S (10, 0, 0) = true) {ee : Nat × zSt} (hf : fX9_stick S i_1 i_2 = some (Sum.inl ee)) (hn : ee.1 = 1 ∨ ee.1 = 3) : Met l yL_stick wsL_stick rmL_stick (zPL Γ lo S (Z ++ [zOut Γ qo O]) [.ref (lo (10, 0, 0)), .int i_1, .int i_2, .ref qo]) (zQn Γ lo S ee.2 (Z ++ [zOut Γ qo O]) (fun _ => some (.int (kL [1, 3] ee.1))) (fun _ => True)) 1 6 (zA Γ) := by
  refine va_MetW (cc := cL_stick) (maxL := 5) (ret := (some .int)) (hh := [(0, 10, 13, 21), (0, 10, 17, 15)]) (by decide) rfl ?_
  intro p e s m args below meth c s₁ B hml hv
  obtain ⟨rfl, hW, hKK, hKX, hKY, hKN⟩ := hv
  have hx := B.exec
  have hb := B.bytes
  have hr := B.returns
  have hts := atoms_spec (ws := wsL_stick) B.pre
  have ht : c.exceptionTable.toList = tableOf [(0, 10, 13, 21), (0, 10, 17, 15)] := vx_table (x := yL_stick) B (hts _ (List.mem_of_getElem? (i := 0) rfl))
  have hown : s.vm.findClass RL = some m.cls := findClass_of_methodNamed B.named
  have hlocks := B.notSynchronized
  have hS : va_S (zA Γ) s.heap s.heap [] := va_S.rf
  have hl := lv_entry ([.ref (lo (10, 0, 0)), .int i_1, .int i_2, .ref qo]) (n := 5) (Nat.le_of_ble_eq_true rfl)
  rw [lg_entry_eq]
  generalize (lg_sl ([.ref (lo (10, 0, 0)), .int i_1, .int i_2, .ref qo]) ++ List.replicate (5 - (lg_sl ([.ref (lo (10, 0, 0)), .int i_1, .int i_2, .ref qo])).length) Slot.unset).toArray = ls at hl ⊢
  have hl : lv_has ls 5 [(0, .ref (lo (10, 0, 0))), (1, .int i_1), (2, .int i_2), (3, .ref qo)] := hl
  generalize ([.ref (lo (10, 0, 0)), .int i_1, .int i_2, .ref qo] : List Value).toArray = args at hts ⊢
  obtain ⟨H, hH0⟩ : ∃ H, H = s.heap := ⟨_, rfl⟩
  obtain ⟨locs, hlo0⟩ : ∃ L : List Loc, L = [] := ⟨_, rfl⟩
  have hS : va_S (zA Γ) s.heap H locs := by rw [hH0, hlo0]; exact hS
  have hW : Wd Γ lo S (Z ++ [zOut Γ qo O]) H := by rw [hH0]; exact hW
  rw [← hH0, ← hlo0]
  refine lv_aload_n hx hb dL_stick_0 rfl (lv_at hl 3 rfl) ?_
  refine lv_iconst (v := (0)) hx hb dL_stick_1 (by decide) ?_
  refine lv_aload_n hx hb dL_stick_2 rfl (lv_at hl 0 rfl) ?_
  refine lv_iload_n hx hb dL_stick_3 rfl (lv_at hl 1 rfl) ?_
  refine lv_iload_n hx hb dL_stick_4 rfl (lv_at hl 2 rfl) ?_
  refine l_thr (rest := [.int 0, .ref qo]) (vx_runV (As := [.int i_1, .int i_2]) ⟨hx, hb, hml, hown, hts⟩ (uX9_stick l hl0 Γ lo S (Z ++ [zOut Γ qo O]) v_z hf) (cwV 2 hts gL_stick_X9_stick rfl rfl rfl (by decide +kernel) ⟨Nat.le_of_ble_eq_true rfl, Nat.le_of_ble_eq_true rfl⟩) ⟨fun _ _ _ _ q => q, va_recv (q0 := 0) hKK.1 (wd_1 hW v_z) rfl rfl, fun _ hU hW1 => ⟨rfl, by rw [hU]; exact hW, hKK.go hS hU hW1, hKX.go hW1⟩⟩ rfl rfl hl.1 rfl (lv_room (Nat.le_of_ble_eq_true rfl)) dL_stick_5 ⟨Nat.le_of_ble_eq_true rfl, Nat.le_of_ble_eq_true rfl⟩) hS (fun q H locs ce hW hS hm1 hce hcv hcl => ?_)
  obtain ⟨en, eS⟩ := ee
  dsimp only at hn hW hm1 hcl ⊢
  rcases hn with rfl | rfl
  · refine vx_catch (own := RL) (name := "java/lang/IndexOutOfBoundsException") hown [] ⟨0, 10, 13, 21⟩ [⟨0, 10, 17, 15⟩] ht (fun z hz => by cases hz) rfl (Nat.succ_ne_zero _) (hts (.classLink RL 21 "java/lang/IndexOutOfBoundsException") (List.mem_of_getElem? (i := 1) rfl)) (va_Nw.use rfl (hKX.2.2 1)) hce hcv hcl ?_
    refine lv_astore (lv' := [(4, .ref q), (0, .ref (lo (10, 0, 0))), (1, .int i_1), (2, .int i_2), (3, .ref qo)]) hx hb dL_stick_13 hl (by decide) rfl (fun ls hl => ?_)
    refine lv_iconst (v := (1)) hx hb dL_stick_15 (by decide) ?_
    exact n_iret hx hb hr hlocks (Nat.le_of_ble_eq_true rfl) (Nat.le_of_ble_eq_true rfl) rfl rfl hW hS (fun _ _ => rfl) (fun d hd => (hm1 d).trans hd) trivial dL_stick_16
  · refine vx_catch (own := RL) (name := "java/lang/IllegalStateException") hown [⟨0, 10, 13, 21⟩] ⟨0, 10, 17, 15⟩ [] ht (fun z hz => by cases hz with | head => exact Or.inr ⟨Nat.succ_ne_zero _, _, (hts (.classLink RL 21 "java/lang/IndexOutOfBoundsException") (List.mem_of_getElem? (i := 1) rfl)), hKN _ (List.mem_of_getElem? (i := 1) rfl)⟩ | tail _ hz => cases hz) rfl (Nat.succ_ne_zero _) (hts (.classLink RL 15 "java/lang/IllegalStateException") (List.mem_of_getElem? (i := 2) rfl)) (va_Nw.use rfl (hKX.2.2 3)) hce hcv hcl ?_
    refine lv_astore (lv' := [(4, .ref q), (0, .ref (lo (10, 0, 0))), (1, .int i_1), (2, .int i_2), (3, .ref qo)]) hx hb dL_stick_17 hl (by decide) rfl (fun ls hl => ?_)
    refine lv_iconst (v := (2)) hx hb dL_stick_19 (by decide) ?_
    exact n_iret hx hb hr hlocks (Nat.le_of_ble_eq_true rfl) (Nat.le_of_ble_eq_true rfl) rfl rfl hW hS (fun _ _ => rfl) (fun d hd => (hm1 d).trans hd) trivial dL_stick_20

abbrev rmL_sticks : Room := { frames := 8, cells := 1, slots := 6, locals := 125 }
set_option maxHeartbeats 4000000 in
set_option maxRecDepth 100000 in
theorem tL_sticks (l : Launch) (Γ : zG) (lo : zId → Nat) (S : zSt) (Z : va_W) (qo : Nat) (O : Nat → Int64) {i_1 : Int32} {i_2 : Int32} (v_z : zV S (10, 0, 0) = true) {y : Int32} (hf : fX9_sticks S i_1 i_2 = some (Sum.inr y)) : Met l yL_sticks wsL_sticks rmL_sticks (zPL Γ lo S (Z ++ [zOut Γ qo O]) [.ref (lo (10, 0, 0)), .int i_1, .int i_2, .ref qo]) (zQn Γ lo S S (Z ++ [zOut Γ qo (vp_updL O 0 (if y = 0 then (0 : Int64) else 1))]) (fun _ => some (.int 0)) (fun _ => True)) 1 6 (zA Γ) := by
  refine va_MetW (cc := cL_sticks) (maxL := 5) (ret := (some .int)) (hh := [(0, 17, 20, 21)]) (by decide) rfl ?_
  intro p e s m args below meth c s₁ B hml hv
  obtain ⟨rfl, hW, hKK, hKX, hKY, hKN⟩ := hv
  have hx := B.exec
  have hb := B.bytes
  have hr := B.returns
  have hts := atoms_spec (ws := wsL_sticks) B.pre
  have ht : c.exceptionTable.toList = tableOf [(0, 17, 20, 21)] := vx_table (x := yL_sticks) B (hts _ (List.mem_of_getElem? (i := 0) rfl))
  have hown : s.vm.findClass RL = some m.cls := findClass_of_methodNamed B.named
  have hlocks := B.notSynchronized
  have hS : va_S (zA Γ) s.heap s.heap [] := va_S.rf
  have hl := lv_entry ([.ref (lo (10, 0, 0)), .int i_1, .int i_2, .ref qo]) (n := 5) (Nat.le_of_ble_eq_true rfl)
  rw [lg_entry_eq]
  generalize (lg_sl ([.ref (lo (10, 0, 0)), .int i_1, .int i_2, .ref qo]) ++ List.replicate (5 - (lg_sl ([.ref (lo (10, 0, 0)), .int i_1, .int i_2, .ref qo])).length) Slot.unset).toArray = ls at hl ⊢
  have hl : lv_has ls 5 [(0, .ref (lo (10, 0, 0))), (1, .int i_1), (2, .int i_2), (3, .ref qo)] := hl
  generalize ([.ref (lo (10, 0, 0)), .int i_1, .int i_2, .ref qo] : List Value).toArray = args at hts ⊢
  obtain ⟨H, hH0⟩ : ∃ H, H = s.heap := ⟨_, rfl⟩
  obtain ⟨locs, hlo0⟩ : ∃ L : List Loc, L = [] := ⟨_, rfl⟩
  have hS : va_S (zA Γ) s.heap H locs := by rw [hH0, hlo0]; exact hS
  have hW : Wd Γ lo S (Z ++ [zOut Γ qo O]) H := by rw [hH0]; exact hW
  rw [← hH0, ← hlo0]
  refine lv_aload_n hx hb dL_sticks_0 rfl (lv_at hl 3 rfl) ?_
  refine lv_iconst (v := (0)) hx hb dL_sticks_1 (by decide) ?_
  refine lv_aload_n hx hb dL_sticks_2 rfl (lv_at hl 0 rfl) ?_
  refine lv_iload_n hx hb dL_sticks_3 rfl (lv_at hl 1 rfl) ?_
  refine lv_iload_n hx hb dL_sticks_4 rfl (lv_at hl 2 rfl) ?_
  refine z_callV (As := [.int i_1, .int i_2]) (rest := [.int 0, .ref qo]) ⟨hx, hb, hml, hown, hts⟩ (tX9_sticks l Γ lo S (Z ++ [zOut Γ qo O]) v_z hf) (cwV 2 hts gL_sticks_X9_sticks rfl rfl rfl (by decide +kernel) ⟨Nat.le_of_ble_eq_true rfl, Nat.le_of_ble_eq_true rfl⟩) (wd_1 hW v_z) rfl hKK hW hS rfl hl.1 rfl (Nat.le_of_ble_eq_true rfl) dL_sticks_5 ⟨Nat.zero_le _, Nat.zero_le _⟩ (fun H locs hW hS hm1 hE => ?_)
  refine lv_if_eq (tgt := 15) hx hb dL_sticks_8 (by decide) (fun k => ?_) (fun k => ?_)
  · rw [if_pos k]
    refine lv_lconst (v := (0)) hx hb dL_sticks_15 (by decide) ?_
    refine x_out hx hb hKK.1 hW hS dL_sticks_16 (fun H locs hW hS => ?_)
    refine lv_goto (tgt := 24) hx hb dL_sticks_17 (by decide) ?_
    refine lv_iconst (v := (0)) hx hb dL_sticks_24 (by decide) ?_
    exact n_iret hx hb hr hlocks (Nat.le_of_ble_eq_true rfl) (Nat.le_of_ble_eq_true rfl) rfl rfl hW hS (fun _ _ => rfl) (fun d hd => (hm1 d).trans hd) trivial dL_sticks_25
  · rw [if_neg k]
    refine lv_lconst (v := (1)) hx hb dL_sticks_11 (by decide) ?_
    refine lv_goto (tgt := 16) hx hb dL_sticks_12 (by decide) ?_
    refine x_out hx hb hKK.1 hW hS dL_sticks_16 (fun H locs hW hS => ?_)
    refine lv_goto (tgt := 24) hx hb dL_sticks_17 (by decide) ?_
    refine lv_iconst (v := (0)) hx hb dL_sticks_24 (by decide) ?_
    exact n_iret hx hb hr hlocks (Nat.le_of_ble_eq_true rfl) (Nat.le_of_ble_eq_true rfl) rfl rfl hW hS (fun _ _ => rfl) (fun d hd => (hm1 d).trans hd) trivial dL_sticks_25
set_option maxHeartbeats 4000000 in
set_option maxRecDepth 100000 in
theorem uL_sticks (l : Launch) (hl0 : l.stackTraces = false) (Γ : zG) (lo : zId → Nat) (S : zSt) (Z : va_W) (qo : Nat) (O : Nat → Int64) {i_1 : Int32} {i_2 : Int32} (v_z : zV S (10, 0, 0) = true) {ee : Nat × zSt} (hf : fX9_sticks S i_1 i_2 = some (Sum.inl ee)) (hn : ee.1 = 1) : Met l yL_sticks wsL_sticks rmL_sticks (zPL Γ lo S (Z ++ [zOut Γ qo O]) [.ref (lo (10, 0, 0)), .int i_1, .int i_2, .ref qo]) (zQn Γ lo S ee.2 (Z ++ [zOut Γ qo O]) (fun _ => some (.int (kL [1] ee.1))) (fun _ => True)) 1 6 (zA Γ) := by
  refine va_MetW (cc := cL_sticks) (maxL := 5) (ret := (some .int)) (hh := [(0, 17, 20, 21)]) (by decide) rfl ?_
  intro p e s m args below meth c s₁ B hml hv
  obtain ⟨rfl, hW, hKK, hKX, hKY, hKN⟩ := hv
  have hx := B.exec
  have hb := B.bytes
  have hr := B.returns
  have hts := atoms_spec (ws := wsL_sticks) B.pre
  have ht : c.exceptionTable.toList = tableOf [(0, 17, 20, 21)] := vx_table (x := yL_sticks) B (hts _ (List.mem_of_getElem? (i := 0) rfl))
  have hown : s.vm.findClass RL = some m.cls := findClass_of_methodNamed B.named
  have hlocks := B.notSynchronized
  have hS : va_S (zA Γ) s.heap s.heap [] := va_S.rf
  have hl := lv_entry ([.ref (lo (10, 0, 0)), .int i_1, .int i_2, .ref qo]) (n := 5) (Nat.le_of_ble_eq_true rfl)
  rw [lg_entry_eq]
  generalize (lg_sl ([.ref (lo (10, 0, 0)), .int i_1, .int i_2, .ref qo]) ++ List.replicate (5 - (lg_sl ([.ref (lo (10, 0, 0)), .int i_1, .int i_2, .ref qo])).length) Slot.unset).toArray = ls at hl ⊢
  have hl : lv_has ls 5 [(0, .ref (lo (10, 0, 0))), (1, .int i_1), (2, .int i_2), (3, .ref qo)] := hl
  generalize ([.ref (lo (10, 0, 0)), .int i_1, .int i_2, .ref qo] : List Value).toArray = args at hts ⊢
  obtain ⟨H, hH0⟩ : ∃ H, H = s.heap := ⟨_, rfl⟩
  obtain ⟨locs, hlo0⟩ : ∃ L : List Loc, L = [] := ⟨_, rfl⟩
  have hS : va_S (zA Γ) s.heap H locs := by rw [hH0, hlo0]; exact hS
  have hW : Wd Γ lo S (Z ++ [zOut Γ qo O]) H := by rw [hH0]; exact hW
  rw [← hH0, ← hlo0]
  refine lv_aload_n hx hb dL_sticks_0 rfl (lv_at hl 3 rfl) ?_
  refine lv_iconst (v := (0)) hx hb dL_sticks_1 (by decide) ?_
  refine lv_aload_n hx hb dL_sticks_2 rfl (lv_at hl 0 rfl) ?_
  refine lv_iload_n hx hb dL_sticks_3 rfl (lv_at hl 1 rfl) ?_
  refine lv_iload_n hx hb dL_sticks_4 rfl (lv_at hl 2 rfl) ?_
  refine l_thr (rest := [.int 0, .ref qo]) (vx_runV (As := [.int i_1, .int i_2]) ⟨hx, hb, hml, hown, hts⟩ (uX9_sticks l hl0 Γ lo S (Z ++ [zOut Γ qo O]) v_z hf) (cwV 2 hts gL_sticks_X9_sticks rfl rfl rfl (by decide +kernel) ⟨Nat.le_of_ble_eq_true rfl, Nat.le_of_ble_eq_true rfl⟩) ⟨fun _ _ _ _ q => q, va_recv (q0 := 0) hKK.1 (wd_1 hW v_z) rfl rfl, fun _ hU hW1 => ⟨rfl, by rw [hU]; exact hW, hKK.go hS hU hW1, hKX.go hW1⟩⟩ rfl rfl hl.1 rfl (lv_room (Nat.le_of_ble_eq_true rfl)) dL_sticks_5 ⟨Nat.le_of_ble_eq_true rfl, Nat.le_of_ble_eq_true rfl⟩) hS (fun q H locs ce hW hS hm1 hce hcv hcl => ?_)
  obtain ⟨en, eS⟩ := ee
  dsimp only at hn hW hm1 hcl ⊢
  subst hn
  refine vx_catch (own := RL) (name := "java/lang/IndexOutOfBoundsException") hown [] ⟨0, 17, 20, 21⟩ [] ht (fun z hz => by cases hz) rfl (Nat.succ_ne_zero _) (hts (.classLink RL 21 "java/lang/IndexOutOfBoundsException") (List.mem_of_getElem? (i := 1) rfl)) (va_Nw.use rfl (hKX.2.2 1)) hce hcv hcl ?_
  refine lv_astore (lv' := [(4, .ref q), (0, .ref (lo (10, 0, 0))), (1, .int i_1), (2, .int i_2), (3, .ref qo)]) hx hb dL_sticks_20 hl (by decide) rfl (fun ls hl => ?_)
  refine lv_iconst (v := (1)) hx hb dL_sticks_22 (by decide) ?_
  exact n_iret hx hb hr hlocks (Nat.le_of_ble_eq_true rfl) (Nat.le_of_ble_eq_true rfl) rfl rfl hW hS (fun _ _ => rfl) (fun d hd => (hm1 d).trans hd) trivial dL_sticks_23

abbrev rmL_wear : Room := { frames := 8, cells := 1, slots := 6, locals := 125 }
set_option maxHeartbeats 4000000 in
set_option maxRecDepth 100000 in
theorem tL_wear (l : Launch) (Γ : zG) (lo : zId → Nat) (S : zSt) (Z : va_W) (qo : Nat) (O : Nat → Int64) {i_1 : Int32} {i_2 : Int32} (v_z : zV S (10, 0, 0) = true) {y : Int32} (hf : fX9_wear S i_1 i_2 = some (Sum.inr y)) : Met l yL_wear wsL_wear rmL_wear (zPL Γ lo S (Z ++ [zOut Γ qo O]) [.ref (lo (10, 0, 0)), .int i_1, .int i_2, .ref qo]) (zQn Γ lo S S (Z ++ [zOut Γ qo (vp_updL O 0 (y).toInt64)]) (fun _ => some (.int 0)) (fun _ => True)) 1 6 (zA Γ) := by
  refine va_MetW (cc := cL_wear) (maxL := 5) (ret := (some .int)) (hh := [(0, 10, 13, 21)]) (by decide) rfl ?_
  intro p e s m args below meth c s₁ B hml hv
  obtain ⟨rfl, hW, hKK, hKX, hKY, hKN⟩ := hv
  have hx := B.exec
  have hb := B.bytes
  have hr := B.returns
  have hts := atoms_spec (ws := wsL_wear) B.pre
  have ht : c.exceptionTable.toList = tableOf [(0, 10, 13, 21)] := vx_table (x := yL_wear) B (hts _ (List.mem_of_getElem? (i := 0) rfl))
  have hown : s.vm.findClass RL = some m.cls := findClass_of_methodNamed B.named
  have hlocks := B.notSynchronized
  have hS : va_S (zA Γ) s.heap s.heap [] := va_S.rf
  have hl := lv_entry ([.ref (lo (10, 0, 0)), .int i_1, .int i_2, .ref qo]) (n := 5) (Nat.le_of_ble_eq_true rfl)
  rw [lg_entry_eq]
  generalize (lg_sl ([.ref (lo (10, 0, 0)), .int i_1, .int i_2, .ref qo]) ++ List.replicate (5 - (lg_sl ([.ref (lo (10, 0, 0)), .int i_1, .int i_2, .ref qo])).length) Slot.unset).toArray = ls at hl ⊢
  have hl : lv_has ls 5 [(0, .ref (lo (10, 0, 0))), (1, .int i_1), (2, .int i_2), (3, .ref qo)] := hl
  generalize ([.ref (lo (10, 0, 0)), .int i_1, .int i_2, .ref qo] : List Value).toArray = args at hts ⊢
  obtain ⟨H, hH0⟩ : ∃ H, H = s.heap := ⟨_, rfl⟩
  obtain ⟨locs, hlo0⟩ : ∃ L : List Loc, L = [] := ⟨_, rfl⟩
  have hS : va_S (zA Γ) s.heap H locs := by rw [hH0, hlo0]; exact hS
  have hW : Wd Γ lo S (Z ++ [zOut Γ qo O]) H := by rw [hH0]; exact hW
  rw [← hH0, ← hlo0]
  refine lv_aload_n hx hb dL_wear_0 rfl (lv_at hl 3 rfl) ?_
  refine lv_iconst (v := (0)) hx hb dL_wear_1 (by decide) ?_
  refine lv_aload_n hx hb dL_wear_2 rfl (lv_at hl 0 rfl) ?_
  refine lv_iload_n hx hb dL_wear_3 rfl (lv_at hl 1 rfl) ?_
  refine lv_iload_n hx hb dL_wear_4 rfl (lv_at hl 2 rfl) ?_
  refine z_callV (As := [.int i_1, .int i_2]) (rest := [.int 0, .ref qo]) ⟨hx, hb, hml, hown, hts⟩ (tX9_wear l Γ lo S (Z ++ [zOut Γ qo O]) v_z hf) (cwV 2 hts gL_wear_X9_wear rfl rfl rfl (by decide +kernel) ⟨Nat.le_of_ble_eq_true rfl, Nat.le_of_ble_eq_true rfl⟩) (wd_1 hW v_z) rfl hKK hW hS rfl hl.1 rfl (Nat.le_of_ble_eq_true rfl) dL_wear_5 ⟨Nat.zero_le _, Nat.zero_le _⟩ (fun H locs hW hS hm1 hE => ?_)
  refine lv_i2l hx hb dL_wear_8 rfl ?_
  refine x_out hx hb hKK.1 hW hS dL_wear_9 (fun H locs hW hS => ?_)
  refine lv_goto (tgt := 17) hx hb dL_wear_10 (by decide) ?_
  refine lv_iconst (v := (0)) hx hb dL_wear_17 (by decide) ?_
  exact n_iret hx hb hr hlocks (Nat.le_of_ble_eq_true rfl) (Nat.le_of_ble_eq_true rfl) rfl rfl hW hS (fun _ _ => rfl) (fun d hd => (hm1 d).trans hd) trivial dL_wear_18
set_option maxHeartbeats 4000000 in
set_option maxRecDepth 100000 in
theorem uL_wear (l : Launch) (hl0 : l.stackTraces = false) (Γ : zG) (lo : zId → Nat) (S : zSt) (Z : va_W) (qo : Nat) (O : Nat → Int64) {i_1 : Int32} {i_2 : Int32} (v_z : zV S (10, 0, 0) = true) {ee : Nat × zSt} (hf : fX9_wear S i_1 i_2 = some (Sum.inl ee)) (hn : ee.1 = 1) : Met l yL_wear wsL_wear rmL_wear (zPL Γ lo S (Z ++ [zOut Γ qo O]) [.ref (lo (10, 0, 0)), .int i_1, .int i_2, .ref qo]) (zQn Γ lo S ee.2 (Z ++ [zOut Γ qo O]) (fun _ => some (.int (kL [1] ee.1))) (fun _ => True)) 1 6 (zA Γ) := by
  refine va_MetW (cc := cL_wear) (maxL := 5) (ret := (some .int)) (hh := [(0, 10, 13, 21)]) (by decide) rfl ?_
  intro p e s m args below meth c s₁ B hml hv
  obtain ⟨rfl, hW, hKK, hKX, hKY, hKN⟩ := hv
  have hx := B.exec
  have hb := B.bytes
  have hr := B.returns
  have hts := atoms_spec (ws := wsL_wear) B.pre
  have ht : c.exceptionTable.toList = tableOf [(0, 10, 13, 21)] := vx_table (x := yL_wear) B (hts _ (List.mem_of_getElem? (i := 0) rfl))
  have hown : s.vm.findClass RL = some m.cls := findClass_of_methodNamed B.named
  have hlocks := B.notSynchronized
  have hS : va_S (zA Γ) s.heap s.heap [] := va_S.rf
  have hl := lv_entry ([.ref (lo (10, 0, 0)), .int i_1, .int i_2, .ref qo]) (n := 5) (Nat.le_of_ble_eq_true rfl)
  rw [lg_entry_eq]
  generalize (lg_sl ([.ref (lo (10, 0, 0)), .int i_1, .int i_2, .ref qo]) ++ List.replicate (5 - (lg_sl ([.ref (lo (10, 0, 0)), .int i_1, .int i_2, .ref qo])).length) Slot.unset).toArray = ls at hl ⊢
  have hl : lv_has ls 5 [(0, .ref (lo (10, 0, 0))), (1, .int i_1), (2, .int i_2), (3, .ref qo)] := hl
  generalize ([.ref (lo (10, 0, 0)), .int i_1, .int i_2, .ref qo] : List Value).toArray = args at hts ⊢
  obtain ⟨H, hH0⟩ : ∃ H, H = s.heap := ⟨_, rfl⟩
  obtain ⟨locs, hlo0⟩ : ∃ L : List Loc, L = [] := ⟨_, rfl⟩
  have hS : va_S (zA Γ) s.heap H locs := by rw [hH0, hlo0]; exact hS
  have hW : Wd Γ lo S (Z ++ [zOut Γ qo O]) H := by rw [hH0]; exact hW
  rw [← hH0, ← hlo0]
  refine lv_aload_n hx hb dL_wear_0 rfl (lv_at hl 3 rfl) ?_
  refine lv_iconst (v := (0)) hx hb dL_wear_1 (by decide) ?_
  refine lv_aload_n hx hb dL_wear_2 rfl (lv_at hl 0 rfl) ?_
  refine lv_iload_n hx hb dL_wear_3 rfl (lv_at hl 1 rfl) ?_
  refine lv_iload_n hx hb dL_wear_4 rfl (lv_at hl 2 rfl) ?_
  refine l_thr (rest := [.int 0, .ref qo]) (vx_runV (As := [.int i_1, .int i_2]) ⟨hx, hb, hml, hown, hts⟩ (uX9_wear l hl0 Γ lo S (Z ++ [zOut Γ qo O]) v_z hf) (cwV 2 hts gL_wear_X9_wear rfl rfl rfl (by decide +kernel) ⟨Nat.le_of_ble_eq_true rfl, Nat.le_of_ble_eq_true rfl⟩) ⟨fun _ _ _ _ q => q, va_recv (q0 := 0) hKK.1 (wd_1 hW v_z) rfl rfl, fun _ hU hW1 => ⟨rfl, by rw [hU]; exact hW, hKK.go hS hU hW1, hKX.go hW1⟩⟩ rfl rfl hl.1 rfl (lv_room (Nat.le_of_ble_eq_true rfl)) dL_wear_5 ⟨Nat.le_of_ble_eq_true rfl, Nat.le_of_ble_eq_true rfl⟩) hS (fun q H locs ce hW hS hm1 hce hcv hcl => ?_)
  obtain ⟨en, eS⟩ := ee
  dsimp only at hn hW hm1 hcl ⊢
  subst hn
  refine vx_catch (own := RL) (name := "java/lang/IndexOutOfBoundsException") hown [] ⟨0, 10, 13, 21⟩ [] ht (fun z hz => by cases hz) rfl (Nat.succ_ne_zero _) (hts (.classLink RL 21 "java/lang/IndexOutOfBoundsException") (List.mem_of_getElem? (i := 1) rfl)) (va_Nw.use rfl (hKX.2.2 1)) hce hcv hcl ?_
  refine lv_astore (lv' := [(4, .ref q), (0, .ref (lo (10, 0, 0))), (1, .int i_1), (2, .int i_2), (3, .ref qo)]) hx hb dL_wear_13 hl (by decide) rfl (fun ls hl => ?_)
  refine lv_iconst (v := (1)) hx hb dL_wear_15 (by decide) ?_
  exact n_iret hx hb hr hlocks (Nat.le_of_ble_eq_true rfl) (Nat.le_of_ble_eq_true rfl) rfl rfl hW hS (fun _ _ => rfl) (fun d hd => (hm1 d).trans hd) trivial dL_wear_16

abbrev rmL_coin : Room := { frames := 9, cells := 9, slots := 2614, locals := 343 }
set_option maxHeartbeats 4000000 in
set_option maxRecDepth 100000 in
theorem tL_coin (l : Launch) (Γ : zG) (lo : zId → Nat) (S : zSt) (Z : va_W) (qo : Nat) (O : Nat → Int64) {i_1 : Int32} (v_z : zV S (10, 0, 0) = true) {y : (Int32 × zSt)} (hf : fX9_coin S i_1 = some (Sum.inr y)) : Met l yL_coin wsL_coin rmL_coin (zPL Γ lo S (Z ++ [zOut Γ qo O]) [.ref (lo (10, 0, 0)), .int i_1, .ref qo]) (zQn Γ lo S y.2 (Z ++ [zOut Γ qo (vp_updL O 0 (y.1).toInt64)]) (fun _ => some (.int 0)) (fun _ => True)) 9 2614 (zA Γ) := by
  refine va_MetW (cc := cL_coin) (maxL := 4) (ret := (some .int)) (hh := [(0, 9, 12, 21), (0, 9, 15, 15)]) (by decide) rfl ?_
  intro p e s m args below meth c s₁ B hml hv
  obtain ⟨rfl, hW, hKK, hKX, hKY, hKN⟩ := hv
  have hx := B.exec
  have hb := B.bytes
  have hr := B.returns
  have hts := atoms_spec (ws := wsL_coin) B.pre
  have ht : c.exceptionTable.toList = tableOf [(0, 9, 12, 21), (0, 9, 15, 15)] := vx_table (x := yL_coin) B (hts _ (List.mem_of_getElem? (i := 0) rfl))
  have hown : s.vm.findClass RL = some m.cls := findClass_of_methodNamed B.named
  have hlocks := B.notSynchronized
  have hS : va_S (zA Γ) s.heap s.heap [] := va_S.rf
  have hl := lv_entry ([.ref (lo (10, 0, 0)), .int i_1, .ref qo]) (n := 4) (Nat.le_of_ble_eq_true rfl)
  rw [lg_entry_eq]
  generalize (lg_sl ([.ref (lo (10, 0, 0)), .int i_1, .ref qo]) ++ List.replicate (4 - (lg_sl ([.ref (lo (10, 0, 0)), .int i_1, .ref qo])).length) Slot.unset).toArray = ls at hl ⊢
  have hl : lv_has ls 4 [(0, .ref (lo (10, 0, 0))), (1, .int i_1), (2, .ref qo)] := hl
  generalize ([.ref (lo (10, 0, 0)), .int i_1, .ref qo] : List Value).toArray = args at hts ⊢
  obtain ⟨H, hH0⟩ : ∃ H, H = s.heap := ⟨_, rfl⟩
  obtain ⟨locs, hlo0⟩ : ∃ L : List Loc, L = [] := ⟨_, rfl⟩
  have hS : va_S (zA Γ) s.heap H locs := by rw [hH0, hlo0]; exact hS
  have hW : Wd Γ lo S (Z ++ [zOut Γ qo O]) H := by rw [hH0]; exact hW
  rw [← hH0, ← hlo0]
  refine lv_aload_n hx hb dL_coin_0 rfl (lv_at hl 2 rfl) ?_
  refine lv_iconst (v := (0)) hx hb dL_coin_1 (by decide) ?_
  refine lv_aload_n hx hb dL_coin_2 rfl (lv_at hl 0 rfl) ?_
  refine lv_iload_n hx hb dL_coin_3 rfl (lv_at hl 1 rfl) ?_
  refine n_callV (As := [.int i_1]) (rest := [.int 0, .ref qo]) ⟨hx, hb, hml, hown, hts⟩ (tX9_coin l Γ lo S (Z ++ [zOut Γ qo O]) v_z hf) (cwV 1 hts gL_coin_X9_coin rfl rfl rfl (by decide +kernel) ⟨Nat.le_of_ble_eq_true rfl, Nat.le_of_ble_eq_true rfl⟩) (wd_1 hW v_z) rfl hKK hKY hW hS rfl hl.1 rfl (Nat.le_of_ble_eq_true rfl) dL_coin_4 ⟨Nat.le_of_ble_eq_true rfl, Nat.le_of_ble_eq_true rfl⟩ (fun lo1 H locs hW hS h1 hmo hE => ?_)
  refine lv_i2l hx hb dL_coin_7 rfl ?_
  refine x_out hx hb hKK.1 hW hS dL_coin_8 (fun H locs hW hS => ?_)
  refine lv_goto (tgt := 18) hx hb dL_coin_9 (by decide) ?_
  refine lv_iconst (v := (0)) hx hb dL_coin_18 (by decide) ?_
  exact n_iret hx hb hr hlocks (Nat.le_of_ble_eq_true rfl) (Nat.le_of_ble_eq_true rfl) rfl rfl hW hS h1 hmo trivial dL_coin_19
set_option maxHeartbeats 4000000 in
set_option maxRecDepth 100000 in
theorem uL_coin (l : Launch) (hl0 : l.stackTraces = false) (Γ : zG) (lo : zId → Nat) (S : zSt) (Z : va_W) (qo : Nat) (O : Nat → Int64) {i_1 : Int32} (v_z : zV S (10, 0, 0) = true) {ee : Nat × zSt} (hf : fX9_coin S i_1 = some (Sum.inl ee)) (hn : ee.1 = 1 ∨ ee.1 = 3) : Met l yL_coin wsL_coin rmL_coin (zPL Γ lo S (Z ++ [zOut Γ qo O]) [.ref (lo (10, 0, 0)), .int i_1, .ref qo]) (zQn Γ lo S ee.2 (Z ++ [zOut Γ qo O]) (fun _ => some (.int (kL [1, 3] ee.1))) (fun _ => True)) 9 2614 (zA Γ) := by
  refine va_MetW (cc := cL_coin) (maxL := 4) (ret := (some .int)) (hh := [(0, 9, 12, 21), (0, 9, 15, 15)]) (by decide) rfl ?_
  intro p e s m args below meth c s₁ B hml hv
  obtain ⟨rfl, hW, hKK, hKX, hKY, hKN⟩ := hv
  have hx := B.exec
  have hb := B.bytes
  have hr := B.returns
  have hts := atoms_spec (ws := wsL_coin) B.pre
  have ht : c.exceptionTable.toList = tableOf [(0, 9, 12, 21), (0, 9, 15, 15)] := vx_table (x := yL_coin) B (hts _ (List.mem_of_getElem? (i := 0) rfl))
  have hown : s.vm.findClass RL = some m.cls := findClass_of_methodNamed B.named
  have hlocks := B.notSynchronized
  have hS : va_S (zA Γ) s.heap s.heap [] := va_S.rf
  have hl := lv_entry ([.ref (lo (10, 0, 0)), .int i_1, .ref qo]) (n := 4) (Nat.le_of_ble_eq_true rfl)
  rw [lg_entry_eq]
  generalize (lg_sl ([.ref (lo (10, 0, 0)), .int i_1, .ref qo]) ++ List.replicate (4 - (lg_sl ([.ref (lo (10, 0, 0)), .int i_1, .ref qo])).length) Slot.unset).toArray = ls at hl ⊢
  have hl : lv_has ls 4 [(0, .ref (lo (10, 0, 0))), (1, .int i_1), (2, .ref qo)] := hl
  generalize ([.ref (lo (10, 0, 0)), .int i_1, .ref qo] : List Value).toArray = args at hts ⊢
  obtain ⟨H, hH0⟩ : ∃ H, H = s.heap := ⟨_, rfl⟩
  obtain ⟨locs, hlo0⟩ : ∃ L : List Loc, L = [] := ⟨_, rfl⟩
  have hS : va_S (zA Γ) s.heap H locs := by rw [hH0, hlo0]; exact hS
  have hW : Wd Γ lo S (Z ++ [zOut Γ qo O]) H := by rw [hH0]; exact hW
  rw [← hH0, ← hlo0]
  refine lv_aload_n hx hb dL_coin_0 rfl (lv_at hl 2 rfl) ?_
  refine lv_iconst (v := (0)) hx hb dL_coin_1 (by decide) ?_
  refine lv_aload_n hx hb dL_coin_2 rfl (lv_at hl 0 rfl) ?_
  refine lv_iload_n hx hb dL_coin_3 rfl (lv_at hl 1 rfl) ?_
  refine l_thr (rest := [.int 0, .ref qo]) (vx_runV (As := [.int i_1]) ⟨hx, hb, hml, hown, hts⟩ (uX9_coin l hl0 Γ lo S (Z ++ [zOut Γ qo O]) v_z hf) (cwV 1 hts gL_coin_X9_coin rfl rfl rfl (by decide +kernel) ⟨Nat.le_of_ble_eq_true rfl, Nat.le_of_ble_eq_true rfl⟩) ⟨fun _ _ _ _ q => q, va_recv (q0 := 0) hKK.1 (wd_1 hW v_z) rfl rfl, fun _ hU hW1 => ⟨rfl, by rw [hU]; exact hW, hKK.go hS hU hW1, hKX.go hW1⟩⟩ rfl rfl hl.1 rfl (lv_room (Nat.le_of_ble_eq_true rfl)) dL_coin_4 ⟨Nat.le_of_ble_eq_true rfl, Nat.le_of_ble_eq_true rfl⟩) hS (fun q H locs ce hW hS hm1 hce hcv hcl => ?_)
  obtain ⟨en, eS⟩ := ee
  dsimp only at hn hW hm1 hcl ⊢
  rcases hn with rfl | rfl
  · refine vx_catch (own := RL) (name := "java/lang/IndexOutOfBoundsException") hown [] ⟨0, 9, 12, 21⟩ [⟨0, 9, 15, 15⟩] ht (fun z hz => by cases hz) rfl (Nat.succ_ne_zero _) (hts (.classLink RL 21 "java/lang/IndexOutOfBoundsException") (List.mem_of_getElem? (i := 1) rfl)) (va_Nw.use rfl (hKX.2.2 1)) hce hcv hcl ?_
    refine lv_astore_n (lv' := [(3, .ref q), (0, .ref (lo (10, 0, 0))), (1, .int i_1), (2, .ref qo)]) hx hb dL_coin_12 rfl hl (by decide) rfl (fun ls hl => ?_)
    refine lv_iconst (v := (1)) hx hb dL_coin_13 (by decide) ?_
    exact n_iret hx hb hr hlocks (Nat.le_of_ble_eq_true rfl) (Nat.le_of_ble_eq_true rfl) rfl rfl hW hS (fun _ _ => rfl) (fun d hd => (hm1 d).trans hd) trivial dL_coin_14
  · refine vx_catch (own := RL) (name := "java/lang/IllegalStateException") hown [⟨0, 9, 12, 21⟩] ⟨0, 9, 15, 15⟩ [] ht (fun z hz => by cases hz with | head => exact Or.inr ⟨Nat.succ_ne_zero _, _, (hts (.classLink RL 21 "java/lang/IndexOutOfBoundsException") (List.mem_of_getElem? (i := 1) rfl)), hKN _ (List.mem_of_getElem? (i := 1) rfl)⟩ | tail _ hz => cases hz) rfl (Nat.succ_ne_zero _) (hts (.classLink RL 15 "java/lang/IllegalStateException") (List.mem_of_getElem? (i := 2) rfl)) (va_Nw.use rfl (hKX.2.2 3)) hce hcv hcl ?_
    refine lv_astore_n (lv' := [(3, .ref q), (0, .ref (lo (10, 0, 0))), (1, .int i_1), (2, .ref qo)]) hx hb dL_coin_15 rfl hl (by decide) rfl (fun ls hl => ?_)
    refine lv_iconst (v := (2)) hx hb dL_coin_16 (by decide) ?_
    exact n_iret hx hb hr hlocks (Nat.le_of_ble_eq_true rfl) (Nat.le_of_ble_eq_true rfl) rfl rfl hW hS (fun _ _ => rfl) (fun d hd => (hm1 d).trans hd) trivial dL_coin_17

abbrev rmL_shoot : Room := { frames := 8, cells := 1, slots := 6, locals := 169 }
set_option maxHeartbeats 4000000 in
set_option maxRecDepth 100000 in
theorem tL_shoot (l : Launch) (Γ : zG) (lo : zId → Nat) (S : zSt) (Z : va_W) (qo : Nat) (O : Nat → Int64) {i_1 : Int32} {i_2 : Int32} {i_3 : Int32} {i_4 : Int32} (v_z : zV S (10, 0, 0) = true) {y : (Int32 × zSt)} (hf : fX9_shoot S i_1 i_2 i_3 i_4 = some (Sum.inr y)) : Met l yL_shoot wsL_shoot rmL_shoot (zPL Γ lo S (Z ++ [zOut Γ qo O]) [.ref (lo (10, 0, 0)), .int i_1, .int i_2, .int i_3, .int i_4, .ref qo]) (zQn Γ lo S y.2 (Z ++ [zOut Γ qo (vp_updL O 0 (y.1).toInt64)]) (fun _ => some (.int 0)) (fun _ => True)) 1 6 (zA Γ) := by
  refine va_MetW (cc := cL_shoot) (maxL := 7) (ret := (some .int)) (hh := [(0, 14, 17, 21), (0, 14, 21, 13), (0, 14, 25, 15)]) (by decide) rfl ?_
  intro p e s m args below meth c s₁ B hml hv
  obtain ⟨rfl, hW, hKK, hKX, hKY, hKN⟩ := hv
  have hx := B.exec
  have hb := B.bytes
  have hr := B.returns
  have hts := atoms_spec (ws := wsL_shoot) B.pre
  have ht : c.exceptionTable.toList = tableOf [(0, 14, 17, 21), (0, 14, 21, 13), (0, 14, 25, 15)] := vx_table (x := yL_shoot) B (hts _ (List.mem_of_getElem? (i := 0) rfl))
  have hown : s.vm.findClass RL = some m.cls := findClass_of_methodNamed B.named
  have hlocks := B.notSynchronized
  have hS : va_S (zA Γ) s.heap s.heap [] := va_S.rf
  have hl := lv_entry ([.ref (lo (10, 0, 0)), .int i_1, .int i_2, .int i_3, .int i_4, .ref qo]) (n := 7) (Nat.le_of_ble_eq_true rfl)
  rw [lg_entry_eq]
  generalize (lg_sl ([.ref (lo (10, 0, 0)), .int i_1, .int i_2, .int i_3, .int i_4, .ref qo]) ++ List.replicate (7 - (lg_sl ([.ref (lo (10, 0, 0)), .int i_1, .int i_2, .int i_3, .int i_4, .ref qo])).length) Slot.unset).toArray = ls at hl ⊢
  have hl : lv_has ls 7 [(0, .ref (lo (10, 0, 0))), (1, .int i_1), (2, .int i_2), (3, .int i_3), (4, .int i_4), (5, .ref qo)] := hl
  generalize ([.ref (lo (10, 0, 0)), .int i_1, .int i_2, .int i_3, .int i_4, .ref qo] : List Value).toArray = args at hts ⊢
  obtain ⟨H, hH0⟩ : ∃ H, H = s.heap := ⟨_, rfl⟩
  obtain ⟨locs, hlo0⟩ : ∃ L : List Loc, L = [] := ⟨_, rfl⟩
  have hS : va_S (zA Γ) s.heap H locs := by rw [hH0, hlo0]; exact hS
  have hW : Wd Γ lo S (Z ++ [zOut Γ qo O]) H := by rw [hH0]; exact hW
  rw [← hH0, ← hlo0]
  refine lv_aload hx hb dL_shoot_0 (lv_at hl 5 rfl) ?_
  refine lv_iconst (v := (0)) hx hb dL_shoot_2 (by decide) ?_
  refine lv_aload_n hx hb dL_shoot_3 rfl (lv_at hl 0 rfl) ?_
  refine lv_iload_n hx hb dL_shoot_4 rfl (lv_at hl 1 rfl) ?_
  refine lv_iload_n hx hb dL_shoot_5 rfl (lv_at hl 2 rfl) ?_
  refine lv_iload_n hx hb dL_shoot_6 rfl (lv_at hl 3 rfl) ?_
  refine lv_iload hx hb dL_shoot_7 (lv_at hl 4 rfl) ?_
  refine n_callV (As := [.int i_1, .int i_2, .int i_3, .int i_4]) (rest := [.int 0, .ref qo]) ⟨hx, hb, hml, hown, hts⟩ (tX9_shoot l Γ lo S (Z ++ [zOut Γ qo O]) v_z hf) (cwV 4 hts gL_shoot_X9_shoot rfl rfl rfl (by decide +kernel) ⟨Nat.le_of_ble_eq_true rfl, Nat.le_of_ble_eq_true rfl⟩) (wd_1 hW v_z) rfl hKK hKY hW hS rfl hl.1 rfl (Nat.le_of_ble_eq_true rfl) dL_shoot_9 ⟨Nat.le_of_ble_eq_true rfl, Nat.le_of_ble_eq_true rfl⟩ (fun lo1 H locs hW hS h1 hmo hE => ?_)
  refine lv_i2l hx hb dL_shoot_12 rfl ?_
  refine x_out hx hb hKK.1 hW hS dL_shoot_13 (fun H locs hW hS => ?_)
  refine lv_goto (tgt := 29) hx hb dL_shoot_14 (by decide) ?_
  refine lv_iconst (v := (0)) hx hb dL_shoot_29 (by decide) ?_
  exact n_iret hx hb hr hlocks (Nat.le_of_ble_eq_true rfl) (Nat.le_of_ble_eq_true rfl) rfl rfl hW hS h1 hmo trivial dL_shoot_30
set_option maxHeartbeats 4000000 in
set_option maxRecDepth 100000 in
theorem uL_shoot (l : Launch) (hl0 : l.stackTraces = false) (Γ : zG) (lo : zId → Nat) (S : zSt) (Z : va_W) (qo : Nat) (O : Nat → Int64) {i_1 : Int32} {i_2 : Int32} {i_3 : Int32} {i_4 : Int32} (v_z : zV S (10, 0, 0) = true) {ee : Nat × zSt} (hf : fX9_shoot S i_1 i_2 i_3 i_4 = some (Sum.inl ee)) (hn : ee.1 = 1 ∨ ee.1 = 2 ∨ ee.1 = 3) : Met l yL_shoot wsL_shoot rmL_shoot (zPL Γ lo S (Z ++ [zOut Γ qo O]) [.ref (lo (10, 0, 0)), .int i_1, .int i_2, .int i_3, .int i_4, .ref qo]) (zQn Γ lo S ee.2 (Z ++ [zOut Γ qo O]) (fun _ => some (.int (kL [1, 2, 3] ee.1))) (fun _ => True)) 1 6 (zA Γ) := by
  refine va_MetW (cc := cL_shoot) (maxL := 7) (ret := (some .int)) (hh := [(0, 14, 17, 21), (0, 14, 21, 13), (0, 14, 25, 15)]) (by decide) rfl ?_
  intro p e s m args below meth c s₁ B hml hv
  obtain ⟨rfl, hW, hKK, hKX, hKY, hKN⟩ := hv
  have hx := B.exec
  have hb := B.bytes
  have hr := B.returns
  have hts := atoms_spec (ws := wsL_shoot) B.pre
  have ht : c.exceptionTable.toList = tableOf [(0, 14, 17, 21), (0, 14, 21, 13), (0, 14, 25, 15)] := vx_table (x := yL_shoot) B (hts _ (List.mem_of_getElem? (i := 0) rfl))
  have hown : s.vm.findClass RL = some m.cls := findClass_of_methodNamed B.named
  have hlocks := B.notSynchronized
  have hS : va_S (zA Γ) s.heap s.heap [] := va_S.rf
  have hl := lv_entry ([.ref (lo (10, 0, 0)), .int i_1, .int i_2, .int i_3, .int i_4, .ref qo]) (n := 7) (Nat.le_of_ble_eq_true rfl)
  rw [lg_entry_eq]
  generalize (lg_sl ([.ref (lo (10, 0, 0)), .int i_1, .int i_2, .int i_3, .int i_4, .ref qo]) ++ List.replicate (7 - (lg_sl ([.ref (lo (10, 0, 0)), .int i_1, .int i_2, .int i_3, .int i_4, .ref qo])).length) Slot.unset).toArray = ls at hl ⊢
  have hl : lv_has ls 7 [(0, .ref (lo (10, 0, 0))), (1, .int i_1), (2, .int i_2), (3, .int i_3), (4, .int i_4), (5, .ref qo)] := hl
  generalize ([.ref (lo (10, 0, 0)), .int i_1, .int i_2, .int i_3, .int i_4, .ref qo] : List Value).toArray = args at hts ⊢
  obtain ⟨H, hH0⟩ : ∃ H, H = s.heap := ⟨_, rfl⟩
  obtain ⟨locs, hlo0⟩ : ∃ L : List Loc, L = [] := ⟨_, rfl⟩
  have hS : va_S (zA Γ) s.heap H locs := by rw [hH0, hlo0]; exact hS
  have hW : Wd Γ lo S (Z ++ [zOut Γ qo O]) H := by rw [hH0]; exact hW
  rw [← hH0, ← hlo0]
  refine lv_aload hx hb dL_shoot_0 (lv_at hl 5 rfl) ?_
  refine lv_iconst (v := (0)) hx hb dL_shoot_2 (by decide) ?_
  refine lv_aload_n hx hb dL_shoot_3 rfl (lv_at hl 0 rfl) ?_
  refine lv_iload_n hx hb dL_shoot_4 rfl (lv_at hl 1 rfl) ?_
  refine lv_iload_n hx hb dL_shoot_5 rfl (lv_at hl 2 rfl) ?_
  refine lv_iload_n hx hb dL_shoot_6 rfl (lv_at hl 3 rfl) ?_
  refine lv_iload hx hb dL_shoot_7 (lv_at hl 4 rfl) ?_
  refine l_thr (rest := [.int 0, .ref qo]) (vx_runV (As := [.int i_1, .int i_2, .int i_3, .int i_4]) ⟨hx, hb, hml, hown, hts⟩ (uX9_shoot l hl0 Γ lo S (Z ++ [zOut Γ qo O]) v_z hf) (cwV 4 hts gL_shoot_X9_shoot rfl rfl rfl (by decide +kernel) ⟨Nat.le_of_ble_eq_true rfl, Nat.le_of_ble_eq_true rfl⟩) ⟨fun _ _ _ _ q => q, va_recv (q0 := 0) hKK.1 (wd_1 hW v_z) rfl rfl, fun _ hU hW1 => ⟨rfl, by rw [hU]; exact hW, hKK.go hS hU hW1, hKX.go hW1⟩⟩ rfl rfl hl.1 rfl (lv_room (Nat.le_of_ble_eq_true rfl)) dL_shoot_9 ⟨Nat.le_of_ble_eq_true rfl, Nat.le_of_ble_eq_true rfl⟩) hS (fun q H locs ce hW hS hm1 hce hcv hcl => ?_)
  obtain ⟨en, eS⟩ := ee
  dsimp only at hn hW hm1 hcl ⊢
  rcases hn with rfl | rfl | rfl
  · refine vx_catch (own := RL) (name := "java/lang/IndexOutOfBoundsException") hown [] ⟨0, 14, 17, 21⟩ [⟨0, 14, 21, 13⟩, ⟨0, 14, 25, 15⟩] ht (fun z hz => by cases hz) rfl (Nat.succ_ne_zero _) (hts (.classLink RL 21 "java/lang/IndexOutOfBoundsException") (List.mem_of_getElem? (i := 1) rfl)) (va_Nw.use rfl (hKX.2.2 1)) hce hcv hcl ?_
    refine lv_astore (lv' := [(6, .ref q), (0, .ref (lo (10, 0, 0))), (1, .int i_1), (2, .int i_2), (3, .int i_3), (4, .int i_4), (5, .ref qo)]) hx hb dL_shoot_17 hl (by decide) rfl (fun ls hl => ?_)
    refine lv_iconst (v := (1)) hx hb dL_shoot_19 (by decide) ?_
    exact n_iret hx hb hr hlocks (Nat.le_of_ble_eq_true rfl) (Nat.le_of_ble_eq_true rfl) rfl rfl hW hS (fun _ _ => rfl) (fun d hd => (hm1 d).trans hd) trivial dL_shoot_20
  · refine vx_catch (own := RL) (name := "java/lang/IllegalArgumentException") hown [⟨0, 14, 17, 21⟩] ⟨0, 14, 21, 13⟩ [⟨0, 14, 25, 15⟩] ht (fun z hz => by cases hz with | head => exact Or.inr ⟨Nat.succ_ne_zero _, _, (hts (.classLink RL 21 "java/lang/IndexOutOfBoundsException") (List.mem_of_getElem? (i := 1) rfl)), hKN _ (List.mem_of_getElem? (i := 0) rfl)⟩ | tail _ hz => cases hz) rfl (Nat.succ_ne_zero _) (hts (.classLink RL 13 "java/lang/IllegalArgumentException") (List.mem_of_getElem? (i := 2) rfl)) (va_Nw.use rfl (hKX.2.2 2)) hce hcv hcl ?_
    refine lv_astore (lv' := [(6, .ref q), (0, .ref (lo (10, 0, 0))), (1, .int i_1), (2, .int i_2), (3, .int i_3), (4, .int i_4), (5, .ref qo)]) hx hb dL_shoot_21 hl (by decide) rfl (fun ls hl => ?_)
    refine lv_iconst (v := (2)) hx hb dL_shoot_23 (by decide) ?_
    exact n_iret hx hb hr hlocks (Nat.le_of_ble_eq_true rfl) (Nat.le_of_ble_eq_true rfl) rfl rfl hW hS (fun _ _ => rfl) (fun d hd => (hm1 d).trans hd) trivial dL_shoot_24
  · refine vx_catch (own := RL) (name := "java/lang/IllegalStateException") hown [⟨0, 14, 17, 21⟩, ⟨0, 14, 21, 13⟩] ⟨0, 14, 25, 15⟩ [] ht (fun z hz => by cases hz with | head => exact Or.inr ⟨Nat.succ_ne_zero _, _, (hts (.classLink RL 21 "java/lang/IndexOutOfBoundsException") (List.mem_of_getElem? (i := 1) rfl)), hKN _ (List.mem_of_getElem? (i := 1) rfl)⟩ | tail _ hz => cases hz with | head => exact Or.inr ⟨Nat.succ_ne_zero _, _, (hts (.classLink RL 13 "java/lang/IllegalArgumentException") (List.mem_of_getElem? (i := 2) rfl)), hKN _ (List.mem_of_getElem? (i := 2) rfl)⟩ | tail _ hz => cases hz) rfl (Nat.succ_ne_zero _) (hts (.classLink RL 15 "java/lang/IllegalStateException") (List.mem_of_getElem? (i := 3) rfl)) (va_Nw.use rfl (hKX.2.2 3)) hce hcv hcl ?_
    refine lv_astore (lv' := [(6, .ref q), (0, .ref (lo (10, 0, 0))), (1, .int i_1), (2, .int i_2), (3, .int i_3), (4, .int i_4), (5, .ref qo)]) hx hb dL_shoot_25 hl (by decide) rfl (fun ls hl => ?_)
    refine lv_iconst (v := (3)) hx hb dL_shoot_27 (by decide) ?_
    exact n_iret hx hb hr hlocks (Nat.le_of_ble_eq_true rfl) (Nat.le_of_ble_eq_true rfl) rfl rfl hW hS (fun _ _ => rfl) (fun d hd => (hm1 d).trans hd) trivial dL_shoot_28

abbrev rmL_gameAt : Room := { frames := 8, cells := 1, slots := 6, locals := 124 }
set_option maxHeartbeats 4000000 in
set_option maxRecDepth 100000 in
theorem tL_gameAt (l : Launch) (Γ : zG) (lo : zId → Nat) (S : zSt) (Z : va_W) (qo : Nat) (O : Nat → Int64) {i_1 : Int32} (v_z : zV S (10, 0, 0) = true) {y : Int32} (hf : fX9_gameAt S i_1 = some (Sum.inr y)) : Met l yL_gameAt wsL_gameAt rmL_gameAt (zPL Γ lo S (Z ++ [zOut Γ qo O]) [.ref (lo (10, 0, 0)), .int i_1, .ref qo]) (zQn Γ lo S S (Z ++ [zOut Γ qo (vp_updL O 0 (y).toInt64)]) (fun _ => some (.int 0)) (fun _ => True)) 1 6 (zA Γ) := by
  refine va_MetW (cc := cL_gameAt) (maxL := 4) (ret := (some .int)) (hh := [(0, 9, 12, 21)]) (by decide) rfl ?_
  intro p e s m args below meth c s₁ B hml hv
  obtain ⟨rfl, hW, hKK, hKX, hKY, hKN⟩ := hv
  have hx := B.exec
  have hb := B.bytes
  have hr := B.returns
  have hts := atoms_spec (ws := wsL_gameAt) B.pre
  have ht : c.exceptionTable.toList = tableOf [(0, 9, 12, 21)] := vx_table (x := yL_gameAt) B (hts _ (List.mem_of_getElem? (i := 0) rfl))
  have hown : s.vm.findClass RL = some m.cls := findClass_of_methodNamed B.named
  have hlocks := B.notSynchronized
  have hS : va_S (zA Γ) s.heap s.heap [] := va_S.rf
  have hl := lv_entry ([.ref (lo (10, 0, 0)), .int i_1, .ref qo]) (n := 4) (Nat.le_of_ble_eq_true rfl)
  rw [lg_entry_eq]
  generalize (lg_sl ([.ref (lo (10, 0, 0)), .int i_1, .ref qo]) ++ List.replicate (4 - (lg_sl ([.ref (lo (10, 0, 0)), .int i_1, .ref qo])).length) Slot.unset).toArray = ls at hl ⊢
  have hl : lv_has ls 4 [(0, .ref (lo (10, 0, 0))), (1, .int i_1), (2, .ref qo)] := hl
  generalize ([.ref (lo (10, 0, 0)), .int i_1, .ref qo] : List Value).toArray = args at hts ⊢
  obtain ⟨H, hH0⟩ : ∃ H, H = s.heap := ⟨_, rfl⟩
  obtain ⟨locs, hlo0⟩ : ∃ L : List Loc, L = [] := ⟨_, rfl⟩
  have hS : va_S (zA Γ) s.heap H locs := by rw [hH0, hlo0]; exact hS
  have hW : Wd Γ lo S (Z ++ [zOut Γ qo O]) H := by rw [hH0]; exact hW
  rw [← hH0, ← hlo0]
  refine lv_aload_n hx hb dL_gameAt_0 rfl (lv_at hl 2 rfl) ?_
  refine lv_iconst (v := (0)) hx hb dL_gameAt_1 (by decide) ?_
  refine lv_aload_n hx hb dL_gameAt_2 rfl (lv_at hl 0 rfl) ?_
  refine lv_iload_n hx hb dL_gameAt_3 rfl (lv_at hl 1 rfl) ?_
  refine z_callV (As := [.int i_1]) (rest := [.int 0, .ref qo]) ⟨hx, hb, hml, hown, hts⟩ (tX9_gameAt l Γ lo S (Z ++ [zOut Γ qo O]) v_z hf) (cwV 1 hts gL_gameAt_X9_gameAt rfl rfl rfl (by decide +kernel) ⟨Nat.le_of_ble_eq_true rfl, Nat.le_of_ble_eq_true rfl⟩) (wd_1 hW v_z) rfl hKK hW hS rfl hl.1 rfl (Nat.le_of_ble_eq_true rfl) dL_gameAt_4 ⟨Nat.zero_le _, Nat.zero_le _⟩ (fun H locs hW hS hm1 hE => ?_)
  refine lv_i2l hx hb dL_gameAt_7 rfl ?_
  refine x_out hx hb hKK.1 hW hS dL_gameAt_8 (fun H locs hW hS => ?_)
  refine lv_goto (tgt := 15) hx hb dL_gameAt_9 (by decide) ?_
  refine lv_iconst (v := (0)) hx hb dL_gameAt_15 (by decide) ?_
  exact n_iret hx hb hr hlocks (Nat.le_of_ble_eq_true rfl) (Nat.le_of_ble_eq_true rfl) rfl rfl hW hS (fun _ _ => rfl) (fun d hd => (hm1 d).trans hd) trivial dL_gameAt_16
set_option maxHeartbeats 4000000 in
set_option maxRecDepth 100000 in
theorem uL_gameAt (l : Launch) (hl0 : l.stackTraces = false) (Γ : zG) (lo : zId → Nat) (S : zSt) (Z : va_W) (qo : Nat) (O : Nat → Int64) {i_1 : Int32} (v_z : zV S (10, 0, 0) = true) {ee : Nat × zSt} (hf : fX9_gameAt S i_1 = some (Sum.inl ee)) (hn : ee.1 = 1) : Met l yL_gameAt wsL_gameAt rmL_gameAt (zPL Γ lo S (Z ++ [zOut Γ qo O]) [.ref (lo (10, 0, 0)), .int i_1, .ref qo]) (zQn Γ lo S ee.2 (Z ++ [zOut Γ qo O]) (fun _ => some (.int (kL [1] ee.1))) (fun _ => True)) 1 6 (zA Γ) := by
  refine va_MetW (cc := cL_gameAt) (maxL := 4) (ret := (some .int)) (hh := [(0, 9, 12, 21)]) (by decide) rfl ?_
  intro p e s m args below meth c s₁ B hml hv
  obtain ⟨rfl, hW, hKK, hKX, hKY, hKN⟩ := hv
  have hx := B.exec
  have hb := B.bytes
  have hr := B.returns
  have hts := atoms_spec (ws := wsL_gameAt) B.pre
  have ht : c.exceptionTable.toList = tableOf [(0, 9, 12, 21)] := vx_table (x := yL_gameAt) B (hts _ (List.mem_of_getElem? (i := 0) rfl))
  have hown : s.vm.findClass RL = some m.cls := findClass_of_methodNamed B.named
  have hlocks := B.notSynchronized
  have hS : va_S (zA Γ) s.heap s.heap [] := va_S.rf
  have hl := lv_entry ([.ref (lo (10, 0, 0)), .int i_1, .ref qo]) (n := 4) (Nat.le_of_ble_eq_true rfl)
  rw [lg_entry_eq]
  generalize (lg_sl ([.ref (lo (10, 0, 0)), .int i_1, .ref qo]) ++ List.replicate (4 - (lg_sl ([.ref (lo (10, 0, 0)), .int i_1, .ref qo])).length) Slot.unset).toArray = ls at hl ⊢
  have hl : lv_has ls 4 [(0, .ref (lo (10, 0, 0))), (1, .int i_1), (2, .ref qo)] := hl
  generalize ([.ref (lo (10, 0, 0)), .int i_1, .ref qo] : List Value).toArray = args at hts ⊢
  obtain ⟨H, hH0⟩ : ∃ H, H = s.heap := ⟨_, rfl⟩
  obtain ⟨locs, hlo0⟩ : ∃ L : List Loc, L = [] := ⟨_, rfl⟩
  have hS : va_S (zA Γ) s.heap H locs := by rw [hH0, hlo0]; exact hS
  have hW : Wd Γ lo S (Z ++ [zOut Γ qo O]) H := by rw [hH0]; exact hW
  rw [← hH0, ← hlo0]
  refine lv_aload_n hx hb dL_gameAt_0 rfl (lv_at hl 2 rfl) ?_
  refine lv_iconst (v := (0)) hx hb dL_gameAt_1 (by decide) ?_
  refine lv_aload_n hx hb dL_gameAt_2 rfl (lv_at hl 0 rfl) ?_
  refine lv_iload_n hx hb dL_gameAt_3 rfl (lv_at hl 1 rfl) ?_
  refine l_thr (rest := [.int 0, .ref qo]) (vx_runV (As := [.int i_1]) ⟨hx, hb, hml, hown, hts⟩ (uX9_gameAt l hl0 Γ lo S (Z ++ [zOut Γ qo O]) v_z hf) (cwV 1 hts gL_gameAt_X9_gameAt rfl rfl rfl (by decide +kernel) ⟨Nat.le_of_ble_eq_true rfl, Nat.le_of_ble_eq_true rfl⟩) ⟨fun _ _ _ _ q => q, va_recv (q0 := 0) hKK.1 (wd_1 hW v_z) rfl rfl, fun _ hU hW1 => ⟨rfl, by rw [hU]; exact hW, hKK.go hS hU hW1, hKX.go hW1⟩⟩ rfl rfl hl.1 rfl (lv_room (Nat.le_of_ble_eq_true rfl)) dL_gameAt_4 ⟨Nat.le_of_ble_eq_true rfl, Nat.le_of_ble_eq_true rfl⟩) hS (fun q H locs ce hW hS hm1 hce hcv hcl => ?_)
  obtain ⟨en, eS⟩ := ee
  dsimp only at hn hW hm1 hcl ⊢
  subst hn
  refine vx_catch (own := RL) (name := "java/lang/IndexOutOfBoundsException") hown [] ⟨0, 9, 12, 21⟩ [] ht (fun z hz => by cases hz) rfl (Nat.succ_ne_zero _) (hts (.classLink RL 21 "java/lang/IndexOutOfBoundsException") (List.mem_of_getElem? (i := 1) rfl)) (va_Nw.use rfl (hKX.2.2 1)) hce hcv hcl ?_
  refine lv_astore_n (lv' := [(3, .ref q), (0, .ref (lo (10, 0, 0))), (1, .int i_1), (2, .ref qo)]) hx hb dL_gameAt_12 rfl hl (by decide) rfl (fun ls hl => ?_)
  refine lv_iconst (v := (1)) hx hb dL_gameAt_13 (by decide) ?_
  exact n_iret hx hb hr hlocks (Nat.le_of_ble_eq_true rfl) (Nat.le_of_ble_eq_true rfl) rfl rfl hW hS (fun _ _ => rfl) (fun d hd => (hm1 d).trans hd) trivial dL_gameAt_14

abbrev rmL_ballsLeft : Room := { frames := 8, cells := 1, slots := 6, locals := 124 }
set_option maxHeartbeats 4000000 in
set_option maxRecDepth 100000 in
theorem tL_ballsLeft (l : Launch) (Γ : zG) (lo : zId → Nat) (S : zSt) (Z : va_W) (qo : Nat) (O : Nat → Int64) {i_1 : Int32} (v_z : zV S (10, 0, 0) = true) {y : Int32} (hf : fX9_ballsLeft S i_1 = some (Sum.inr y)) : Met l yL_ballsLeft wsL_ballsLeft rmL_ballsLeft (zPL Γ lo S (Z ++ [zOut Γ qo O]) [.ref (lo (10, 0, 0)), .int i_1, .ref qo]) (zQn Γ lo S S (Z ++ [zOut Γ qo (vp_updL O 0 (y).toInt64)]) (fun _ => some (.int 0)) (fun _ => True)) 1 6 (zA Γ) := by
  refine va_MetW (cc := cL_ballsLeft) (maxL := 4) (ret := (some .int)) (hh := [(0, 9, 12, 21)]) (by decide) rfl ?_
  intro p e s m args below meth c s₁ B hml hv
  obtain ⟨rfl, hW, hKK, hKX, hKY, hKN⟩ := hv
  have hx := B.exec
  have hb := B.bytes
  have hr := B.returns
  have hts := atoms_spec (ws := wsL_ballsLeft) B.pre
  have ht : c.exceptionTable.toList = tableOf [(0, 9, 12, 21)] := vx_table (x := yL_ballsLeft) B (hts _ (List.mem_of_getElem? (i := 0) rfl))
  have hown : s.vm.findClass RL = some m.cls := findClass_of_methodNamed B.named
  have hlocks := B.notSynchronized
  have hS : va_S (zA Γ) s.heap s.heap [] := va_S.rf
  have hl := lv_entry ([.ref (lo (10, 0, 0)), .int i_1, .ref qo]) (n := 4) (Nat.le_of_ble_eq_true rfl)
  rw [lg_entry_eq]
  generalize (lg_sl ([.ref (lo (10, 0, 0)), .int i_1, .ref qo]) ++ List.replicate (4 - (lg_sl ([.ref (lo (10, 0, 0)), .int i_1, .ref qo])).length) Slot.unset).toArray = ls at hl ⊢
  have hl : lv_has ls 4 [(0, .ref (lo (10, 0, 0))), (1, .int i_1), (2, .ref qo)] := hl
  generalize ([.ref (lo (10, 0, 0)), .int i_1, .ref qo] : List Value).toArray = args at hts ⊢
  obtain ⟨H, hH0⟩ : ∃ H, H = s.heap := ⟨_, rfl⟩
  obtain ⟨locs, hlo0⟩ : ∃ L : List Loc, L = [] := ⟨_, rfl⟩
  have hS : va_S (zA Γ) s.heap H locs := by rw [hH0, hlo0]; exact hS
  have hW : Wd Γ lo S (Z ++ [zOut Γ qo O]) H := by rw [hH0]; exact hW
  rw [← hH0, ← hlo0]
  refine lv_aload_n hx hb dL_ballsLeft_0 rfl (lv_at hl 2 rfl) ?_
  refine lv_iconst (v := (0)) hx hb dL_ballsLeft_1 (by decide) ?_
  refine lv_aload_n hx hb dL_ballsLeft_2 rfl (lv_at hl 0 rfl) ?_
  refine lv_iload_n hx hb dL_ballsLeft_3 rfl (lv_at hl 1 rfl) ?_
  refine z_callV (As := [.int i_1]) (rest := [.int 0, .ref qo]) ⟨hx, hb, hml, hown, hts⟩ (tX9_ballsLeft l Γ lo S (Z ++ [zOut Γ qo O]) v_z hf) (cwV 1 hts gL_ballsLeft_X9_ballsLeft rfl rfl rfl (by decide +kernel) ⟨Nat.le_of_ble_eq_true rfl, Nat.le_of_ble_eq_true rfl⟩) (wd_1 hW v_z) rfl hKK hW hS rfl hl.1 rfl (Nat.le_of_ble_eq_true rfl) dL_ballsLeft_4 ⟨Nat.zero_le _, Nat.zero_le _⟩ (fun H locs hW hS hm1 hE => ?_)
  refine lv_i2l hx hb dL_ballsLeft_7 rfl ?_
  refine x_out hx hb hKK.1 hW hS dL_ballsLeft_8 (fun H locs hW hS => ?_)
  refine lv_goto (tgt := 15) hx hb dL_ballsLeft_9 (by decide) ?_
  refine lv_iconst (v := (0)) hx hb dL_ballsLeft_15 (by decide) ?_
  exact n_iret hx hb hr hlocks (Nat.le_of_ble_eq_true rfl) (Nat.le_of_ble_eq_true rfl) rfl rfl hW hS (fun _ _ => rfl) (fun d hd => (hm1 d).trans hd) trivial dL_ballsLeft_16
set_option maxHeartbeats 4000000 in
set_option maxRecDepth 100000 in
theorem uL_ballsLeft (l : Launch) (hl0 : l.stackTraces = false) (Γ : zG) (lo : zId → Nat) (S : zSt) (Z : va_W) (qo : Nat) (O : Nat → Int64) {i_1 : Int32} (v_z : zV S (10, 0, 0) = true) {ee : Nat × zSt} (hf : fX9_ballsLeft S i_1 = some (Sum.inl ee)) (hn : ee.1 = 1) : Met l yL_ballsLeft wsL_ballsLeft rmL_ballsLeft (zPL Γ lo S (Z ++ [zOut Γ qo O]) [.ref (lo (10, 0, 0)), .int i_1, .ref qo]) (zQn Γ lo S ee.2 (Z ++ [zOut Γ qo O]) (fun _ => some (.int (kL [1] ee.1))) (fun _ => True)) 1 6 (zA Γ) := by
  refine va_MetW (cc := cL_ballsLeft) (maxL := 4) (ret := (some .int)) (hh := [(0, 9, 12, 21)]) (by decide) rfl ?_
  intro p e s m args below meth c s₁ B hml hv
  obtain ⟨rfl, hW, hKK, hKX, hKY, hKN⟩ := hv
  have hx := B.exec
  have hb := B.bytes
  have hr := B.returns
  have hts := atoms_spec (ws := wsL_ballsLeft) B.pre
  have ht : c.exceptionTable.toList = tableOf [(0, 9, 12, 21)] := vx_table (x := yL_ballsLeft) B (hts _ (List.mem_of_getElem? (i := 0) rfl))
  have hown : s.vm.findClass RL = some m.cls := findClass_of_methodNamed B.named
  have hlocks := B.notSynchronized
  have hS : va_S (zA Γ) s.heap s.heap [] := va_S.rf
  have hl := lv_entry ([.ref (lo (10, 0, 0)), .int i_1, .ref qo]) (n := 4) (Nat.le_of_ble_eq_true rfl)
  rw [lg_entry_eq]
  generalize (lg_sl ([.ref (lo (10, 0, 0)), .int i_1, .ref qo]) ++ List.replicate (4 - (lg_sl ([.ref (lo (10, 0, 0)), .int i_1, .ref qo])).length) Slot.unset).toArray = ls at hl ⊢
  have hl : lv_has ls 4 [(0, .ref (lo (10, 0, 0))), (1, .int i_1), (2, .ref qo)] := hl
  generalize ([.ref (lo (10, 0, 0)), .int i_1, .ref qo] : List Value).toArray = args at hts ⊢
  obtain ⟨H, hH0⟩ : ∃ H, H = s.heap := ⟨_, rfl⟩
  obtain ⟨locs, hlo0⟩ : ∃ L : List Loc, L = [] := ⟨_, rfl⟩
  have hS : va_S (zA Γ) s.heap H locs := by rw [hH0, hlo0]; exact hS
  have hW : Wd Γ lo S (Z ++ [zOut Γ qo O]) H := by rw [hH0]; exact hW
  rw [← hH0, ← hlo0]
  refine lv_aload_n hx hb dL_ballsLeft_0 rfl (lv_at hl 2 rfl) ?_
  refine lv_iconst (v := (0)) hx hb dL_ballsLeft_1 (by decide) ?_
  refine lv_aload_n hx hb dL_ballsLeft_2 rfl (lv_at hl 0 rfl) ?_
  refine lv_iload_n hx hb dL_ballsLeft_3 rfl (lv_at hl 1 rfl) ?_
  refine l_thr (rest := [.int 0, .ref qo]) (vx_runV (As := [.int i_1]) ⟨hx, hb, hml, hown, hts⟩ (uX9_ballsLeft l hl0 Γ lo S (Z ++ [zOut Γ qo O]) v_z hf) (cwV 1 hts gL_ballsLeft_X9_ballsLeft rfl rfl rfl (by decide +kernel) ⟨Nat.le_of_ble_eq_true rfl, Nat.le_of_ble_eq_true rfl⟩) ⟨fun _ _ _ _ q => q, va_recv (q0 := 0) hKK.1 (wd_1 hW v_z) rfl rfl, fun _ hU hW1 => ⟨rfl, by rw [hU]; exact hW, hKK.go hS hU hW1, hKX.go hW1⟩⟩ rfl rfl hl.1 rfl (lv_room (Nat.le_of_ble_eq_true rfl)) dL_ballsLeft_4 ⟨Nat.le_of_ble_eq_true rfl, Nat.le_of_ble_eq_true rfl⟩) hS (fun q H locs ce hW hS hm1 hce hcv hcl => ?_)
  obtain ⟨en, eS⟩ := ee
  dsimp only at hn hW hm1 hcl ⊢
  subst hn
  refine vx_catch (own := RL) (name := "java/lang/IndexOutOfBoundsException") hown [] ⟨0, 9, 12, 21⟩ [] ht (fun z hz => by cases hz) rfl (Nat.succ_ne_zero _) (hts (.classLink RL 21 "java/lang/IndexOutOfBoundsException") (List.mem_of_getElem? (i := 1) rfl)) (va_Nw.use rfl (hKX.2.2 1)) hce hcv hcl ?_
  refine lv_astore_n (lv' := [(3, .ref q), (0, .ref (lo (10, 0, 0))), (1, .int i_1), (2, .ref qo)]) hx hb dL_ballsLeft_12 rfl hl (by decide) rfl (fun ls hl => ?_)
  refine lv_iconst (v := (1)) hx hb dL_ballsLeft_13 (by decide) ?_
  exact n_iret hx hb hr hlocks (Nat.le_of_ble_eq_true rfl) (Nat.le_of_ble_eq_true rfl) rfl rfl hW hS (fun _ _ => rfl) (fun d hd => (hm1 d).trans hd) trivial dL_ballsLeft_14

abbrev rmL_stack : Room := { frames := 8, cells := 1, slots := 6, locals := 124 }
set_option maxHeartbeats 4000000 in
set_option maxRecDepth 100000 in
theorem tL_stack (l : Launch) (Γ : zG) (lo : zId → Nat) (S : zSt) (Z : va_W) (qo : Nat) (O : Nat → Int64) {i_1 : Int32} (v_z : zV S (10, 0, 0) = true) {y : Int32} (hf : fX9_stack S i_1 = some (Sum.inr y)) : Met l yL_stack wsL_stack rmL_stack (zPL Γ lo S (Z ++ [zOut Γ qo O]) [.ref (lo (10, 0, 0)), .int i_1, .ref qo]) (zQn Γ lo S S (Z ++ [zOut Γ qo (vp_updL O 0 (y).toInt64)]) (fun _ => some (.int 0)) (fun _ => True)) 1 6 (zA Γ) := by
  refine va_MetW (cc := cL_stack) (maxL := 4) (ret := (some .int)) (hh := [(0, 9, 12, 21)]) (by decide) rfl ?_
  intro p e s m args below meth c s₁ B hml hv
  obtain ⟨rfl, hW, hKK, hKX, hKY, hKN⟩ := hv
  have hx := B.exec
  have hb := B.bytes
  have hr := B.returns
  have hts := atoms_spec (ws := wsL_stack) B.pre
  have ht : c.exceptionTable.toList = tableOf [(0, 9, 12, 21)] := vx_table (x := yL_stack) B (hts _ (List.mem_of_getElem? (i := 0) rfl))
  have hown : s.vm.findClass RL = some m.cls := findClass_of_methodNamed B.named
  have hlocks := B.notSynchronized
  have hS : va_S (zA Γ) s.heap s.heap [] := va_S.rf
  have hl := lv_entry ([.ref (lo (10, 0, 0)), .int i_1, .ref qo]) (n := 4) (Nat.le_of_ble_eq_true rfl)
  rw [lg_entry_eq]
  generalize (lg_sl ([.ref (lo (10, 0, 0)), .int i_1, .ref qo]) ++ List.replicate (4 - (lg_sl ([.ref (lo (10, 0, 0)), .int i_1, .ref qo])).length) Slot.unset).toArray = ls at hl ⊢
  have hl : lv_has ls 4 [(0, .ref (lo (10, 0, 0))), (1, .int i_1), (2, .ref qo)] := hl
  generalize ([.ref (lo (10, 0, 0)), .int i_1, .ref qo] : List Value).toArray = args at hts ⊢
  obtain ⟨H, hH0⟩ : ∃ H, H = s.heap := ⟨_, rfl⟩
  obtain ⟨locs, hlo0⟩ : ∃ L : List Loc, L = [] := ⟨_, rfl⟩
  have hS : va_S (zA Γ) s.heap H locs := by rw [hH0, hlo0]; exact hS
  have hW : Wd Γ lo S (Z ++ [zOut Γ qo O]) H := by rw [hH0]; exact hW
  rw [← hH0, ← hlo0]
  refine lv_aload_n hx hb dL_stack_0 rfl (lv_at hl 2 rfl) ?_
  refine lv_iconst (v := (0)) hx hb dL_stack_1 (by decide) ?_
  refine lv_aload_n hx hb dL_stack_2 rfl (lv_at hl 0 rfl) ?_
  refine lv_iload_n hx hb dL_stack_3 rfl (lv_at hl 1 rfl) ?_
  refine z_callV (As := [.int i_1]) (rest := [.int 0, .ref qo]) ⟨hx, hb, hml, hown, hts⟩ (tX9_stack l Γ lo S (Z ++ [zOut Γ qo O]) v_z hf) (cwV 1 hts gL_stack_X9_stack rfl rfl rfl (by decide +kernel) ⟨Nat.le_of_ble_eq_true rfl, Nat.le_of_ble_eq_true rfl⟩) (wd_1 hW v_z) rfl hKK hW hS rfl hl.1 rfl (Nat.le_of_ble_eq_true rfl) dL_stack_4 ⟨Nat.zero_le _, Nat.zero_le _⟩ (fun H locs hW hS hm1 hE => ?_)
  refine lv_i2l hx hb dL_stack_7 rfl ?_
  refine x_out hx hb hKK.1 hW hS dL_stack_8 (fun H locs hW hS => ?_)
  refine lv_goto (tgt := 15) hx hb dL_stack_9 (by decide) ?_
  refine lv_iconst (v := (0)) hx hb dL_stack_15 (by decide) ?_
  exact n_iret hx hb hr hlocks (Nat.le_of_ble_eq_true rfl) (Nat.le_of_ble_eq_true rfl) rfl rfl hW hS (fun _ _ => rfl) (fun d hd => (hm1 d).trans hd) trivial dL_stack_16
set_option maxHeartbeats 4000000 in
set_option maxRecDepth 100000 in
theorem uL_stack (l : Launch) (hl0 : l.stackTraces = false) (Γ : zG) (lo : zId → Nat) (S : zSt) (Z : va_W) (qo : Nat) (O : Nat → Int64) {i_1 : Int32} (v_z : zV S (10, 0, 0) = true) {ee : Nat × zSt} (hf : fX9_stack S i_1 = some (Sum.inl ee)) (hn : ee.1 = 1) : Met l yL_stack wsL_stack rmL_stack (zPL Γ lo S (Z ++ [zOut Γ qo O]) [.ref (lo (10, 0, 0)), .int i_1, .ref qo]) (zQn Γ lo S ee.2 (Z ++ [zOut Γ qo O]) (fun _ => some (.int (kL [1] ee.1))) (fun _ => True)) 1 6 (zA Γ) := by
  refine va_MetW (cc := cL_stack) (maxL := 4) (ret := (some .int)) (hh := [(0, 9, 12, 21)]) (by decide) rfl ?_
  intro p e s m args below meth c s₁ B hml hv
  obtain ⟨rfl, hW, hKK, hKX, hKY, hKN⟩ := hv
  have hx := B.exec
  have hb := B.bytes
  have hr := B.returns
  have hts := atoms_spec (ws := wsL_stack) B.pre
  have ht : c.exceptionTable.toList = tableOf [(0, 9, 12, 21)] := vx_table (x := yL_stack) B (hts _ (List.mem_of_getElem? (i := 0) rfl))
  have hown : s.vm.findClass RL = some m.cls := findClass_of_methodNamed B.named
  have hlocks := B.notSynchronized
  have hS : va_S (zA Γ) s.heap s.heap [] := va_S.rf
  have hl := lv_entry ([.ref (lo (10, 0, 0)), .int i_1, .ref qo]) (n := 4) (Nat.le_of_ble_eq_true rfl)
  rw [lg_entry_eq]
  generalize (lg_sl ([.ref (lo (10, 0, 0)), .int i_1, .ref qo]) ++ List.replicate (4 - (lg_sl ([.ref (lo (10, 0, 0)), .int i_1, .ref qo])).length) Slot.unset).toArray = ls at hl ⊢
  have hl : lv_has ls 4 [(0, .ref (lo (10, 0, 0))), (1, .int i_1), (2, .ref qo)] := hl
  generalize ([.ref (lo (10, 0, 0)), .int i_1, .ref qo] : List Value).toArray = args at hts ⊢
  obtain ⟨H, hH0⟩ : ∃ H, H = s.heap := ⟨_, rfl⟩
  obtain ⟨locs, hlo0⟩ : ∃ L : List Loc, L = [] := ⟨_, rfl⟩
  have hS : va_S (zA Γ) s.heap H locs := by rw [hH0, hlo0]; exact hS
  have hW : Wd Γ lo S (Z ++ [zOut Γ qo O]) H := by rw [hH0]; exact hW
  rw [← hH0, ← hlo0]
  refine lv_aload_n hx hb dL_stack_0 rfl (lv_at hl 2 rfl) ?_
  refine lv_iconst (v := (0)) hx hb dL_stack_1 (by decide) ?_
  refine lv_aload_n hx hb dL_stack_2 rfl (lv_at hl 0 rfl) ?_
  refine lv_iload_n hx hb dL_stack_3 rfl (lv_at hl 1 rfl) ?_
  refine l_thr (rest := [.int 0, .ref qo]) (vx_runV (As := [.int i_1]) ⟨hx, hb, hml, hown, hts⟩ (uX9_stack l hl0 Γ lo S (Z ++ [zOut Γ qo O]) v_z hf) (cwV 1 hts gL_stack_X9_stack rfl rfl rfl (by decide +kernel) ⟨Nat.le_of_ble_eq_true rfl, Nat.le_of_ble_eq_true rfl⟩) ⟨fun _ _ _ _ q => q, va_recv (q0 := 0) hKK.1 (wd_1 hW v_z) rfl rfl, fun _ hU hW1 => ⟨rfl, by rw [hU]; exact hW, hKK.go hS hU hW1, hKX.go hW1⟩⟩ rfl rfl hl.1 rfl (lv_room (Nat.le_of_ble_eq_true rfl)) dL_stack_4 ⟨Nat.le_of_ble_eq_true rfl, Nat.le_of_ble_eq_true rfl⟩) hS (fun q H locs ce hW hS hm1 hce hcv hcl => ?_)
  obtain ⟨en, eS⟩ := ee
  dsimp only at hn hW hm1 hcl ⊢
  subst hn
  refine vx_catch (own := RL) (name := "java/lang/IndexOutOfBoundsException") hown [] ⟨0, 9, 12, 21⟩ [] ht (fun z hz => by cases hz) rfl (Nat.succ_ne_zero _) (hts (.classLink RL 21 "java/lang/IndexOutOfBoundsException") (List.mem_of_getElem? (i := 1) rfl)) (va_Nw.use rfl (hKX.2.2 1)) hce hcv hcl ?_
  refine lv_astore_n (lv' := [(3, .ref q), (0, .ref (lo (10, 0, 0))), (1, .int i_1), (2, .ref qo)]) hx hb dL_stack_12 rfl hl (by decide) rfl (fun ls hl => ?_)
  refine lv_iconst (v := (1)) hx hb dL_stack_13 (by decide) ?_
  exact n_iret hx hb hr hlocks (Nat.le_of_ble_eq_true rfl) (Nat.le_of_ble_eq_true rfl) rfl rfl hW hS (fun _ _ => rfl) (fun d hd => (hm1 d).trans hd) trivial dL_stack_14

abbrev rmL_score : Room := { frames := 8, cells := 1, slots := 6, locals := 124 }
set_option maxHeartbeats 4000000 in
set_option maxRecDepth 100000 in
theorem tL_score (l : Launch) (Γ : zG) (lo : zId → Nat) (S : zSt) (Z : va_W) (qo : Nat) (O : Nat → Int64) {i_1 : Int32} (v_z : zV S (10, 0, 0) = true) {y : Int32} (hf : fX9_score S i_1 = some (Sum.inr y)) : Met l yL_score wsL_score rmL_score (zPL Γ lo S (Z ++ [zOut Γ qo O]) [.ref (lo (10, 0, 0)), .int i_1, .ref qo]) (zQn Γ lo S S (Z ++ [zOut Γ qo (vp_updL O 0 (y).toInt64)]) (fun _ => some (.int 0)) (fun _ => True)) 1 6 (zA Γ) := by
  refine va_MetW (cc := cL_score) (maxL := 4) (ret := (some .int)) (hh := [(0, 9, 12, 21)]) (by decide) rfl ?_
  intro p e s m args below meth c s₁ B hml hv
  obtain ⟨rfl, hW, hKK, hKX, hKY, hKN⟩ := hv
  have hx := B.exec
  have hb := B.bytes
  have hr := B.returns
  have hts := atoms_spec (ws := wsL_score) B.pre
  have ht : c.exceptionTable.toList = tableOf [(0, 9, 12, 21)] := vx_table (x := yL_score) B (hts _ (List.mem_of_getElem? (i := 0) rfl))
  have hown : s.vm.findClass RL = some m.cls := findClass_of_methodNamed B.named
  have hlocks := B.notSynchronized
  have hS : va_S (zA Γ) s.heap s.heap [] := va_S.rf
  have hl := lv_entry ([.ref (lo (10, 0, 0)), .int i_1, .ref qo]) (n := 4) (Nat.le_of_ble_eq_true rfl)
  rw [lg_entry_eq]
  generalize (lg_sl ([.ref (lo (10, 0, 0)), .int i_1, .ref qo]) ++ List.replicate (4 - (lg_sl ([.ref (lo (10, 0, 0)), .int i_1, .ref qo])).length) Slot.unset).toArray = ls at hl ⊢
  have hl : lv_has ls 4 [(0, .ref (lo (10, 0, 0))), (1, .int i_1), (2, .ref qo)] := hl
  generalize ([.ref (lo (10, 0, 0)), .int i_1, .ref qo] : List Value).toArray = args at hts ⊢
  obtain ⟨H, hH0⟩ : ∃ H, H = s.heap := ⟨_, rfl⟩
  obtain ⟨locs, hlo0⟩ : ∃ L : List Loc, L = [] := ⟨_, rfl⟩
  have hS : va_S (zA Γ) s.heap H locs := by rw [hH0, hlo0]; exact hS
  have hW : Wd Γ lo S (Z ++ [zOut Γ qo O]) H := by rw [hH0]; exact hW
  rw [← hH0, ← hlo0]
  refine lv_aload_n hx hb dL_score_0 rfl (lv_at hl 2 rfl) ?_
  refine lv_iconst (v := (0)) hx hb dL_score_1 (by decide) ?_
  refine lv_aload_n hx hb dL_score_2 rfl (lv_at hl 0 rfl) ?_
  refine lv_iload_n hx hb dL_score_3 rfl (lv_at hl 1 rfl) ?_
  refine z_callV (As := [.int i_1]) (rest := [.int 0, .ref qo]) ⟨hx, hb, hml, hown, hts⟩ (tX9_score l Γ lo S (Z ++ [zOut Γ qo O]) v_z hf) (cwV 1 hts gL_score_X9_score rfl rfl rfl (by decide +kernel) ⟨Nat.le_of_ble_eq_true rfl, Nat.le_of_ble_eq_true rfl⟩) (wd_1 hW v_z) rfl hKK hW hS rfl hl.1 rfl (Nat.le_of_ble_eq_true rfl) dL_score_4 ⟨Nat.zero_le _, Nat.zero_le _⟩ (fun H locs hW hS hm1 hE => ?_)
  refine lv_i2l hx hb dL_score_7 rfl ?_
  refine x_out hx hb hKK.1 hW hS dL_score_8 (fun H locs hW hS => ?_)
  refine lv_goto (tgt := 15) hx hb dL_score_9 (by decide) ?_
  refine lv_iconst (v := (0)) hx hb dL_score_15 (by decide) ?_
  exact n_iret hx hb hr hlocks (Nat.le_of_ble_eq_true rfl) (Nat.le_of_ble_eq_true rfl) rfl rfl hW hS (fun _ _ => rfl) (fun d hd => (hm1 d).trans hd) trivial dL_score_16
set_option maxHeartbeats 4000000 in
set_option maxRecDepth 100000 in
theorem uL_score (l : Launch) (hl0 : l.stackTraces = false) (Γ : zG) (lo : zId → Nat) (S : zSt) (Z : va_W) (qo : Nat) (O : Nat → Int64) {i_1 : Int32} (v_z : zV S (10, 0, 0) = true) {ee : Nat × zSt} (hf : fX9_score S i_1 = some (Sum.inl ee)) (hn : ee.1 = 1) : Met l yL_score wsL_score rmL_score (zPL Γ lo S (Z ++ [zOut Γ qo O]) [.ref (lo (10, 0, 0)), .int i_1, .ref qo]) (zQn Γ lo S ee.2 (Z ++ [zOut Γ qo O]) (fun _ => some (.int (kL [1] ee.1))) (fun _ => True)) 1 6 (zA Γ) := by
  refine va_MetW (cc := cL_score) (maxL := 4) (ret := (some .int)) (hh := [(0, 9, 12, 21)]) (by decide) rfl ?_
  intro p e s m args below meth c s₁ B hml hv
  obtain ⟨rfl, hW, hKK, hKX, hKY, hKN⟩ := hv
  have hx := B.exec
  have hb := B.bytes
  have hr := B.returns
  have hts := atoms_spec (ws := wsL_score) B.pre
  have ht : c.exceptionTable.toList = tableOf [(0, 9, 12, 21)] := vx_table (x := yL_score) B (hts _ (List.mem_of_getElem? (i := 0) rfl))
  have hown : s.vm.findClass RL = some m.cls := findClass_of_methodNamed B.named
  have hlocks := B.notSynchronized
  have hS : va_S (zA Γ) s.heap s.heap [] := va_S.rf
  have hl := lv_entry ([.ref (lo (10, 0, 0)), .int i_1, .ref qo]) (n := 4) (Nat.le_of_ble_eq_true rfl)
  rw [lg_entry_eq]
  generalize (lg_sl ([.ref (lo (10, 0, 0)), .int i_1, .ref qo]) ++ List.replicate (4 - (lg_sl ([.ref (lo (10, 0, 0)), .int i_1, .ref qo])).length) Slot.unset).toArray = ls at hl ⊢
  have hl : lv_has ls 4 [(0, .ref (lo (10, 0, 0))), (1, .int i_1), (2, .ref qo)] := hl
  generalize ([.ref (lo (10, 0, 0)), .int i_1, .ref qo] : List Value).toArray = args at hts ⊢
  obtain ⟨H, hH0⟩ : ∃ H, H = s.heap := ⟨_, rfl⟩
  obtain ⟨locs, hlo0⟩ : ∃ L : List Loc, L = [] := ⟨_, rfl⟩
  have hS : va_S (zA Γ) s.heap H locs := by rw [hH0, hlo0]; exact hS
  have hW : Wd Γ lo S (Z ++ [zOut Γ qo O]) H := by rw [hH0]; exact hW
  rw [← hH0, ← hlo0]
  refine lv_aload_n hx hb dL_score_0 rfl (lv_at hl 2 rfl) ?_
  refine lv_iconst (v := (0)) hx hb dL_score_1 (by decide) ?_
  refine lv_aload_n hx hb dL_score_2 rfl (lv_at hl 0 rfl) ?_
  refine lv_iload_n hx hb dL_score_3 rfl (lv_at hl 1 rfl) ?_
  refine l_thr (rest := [.int 0, .ref qo]) (vx_runV (As := [.int i_1]) ⟨hx, hb, hml, hown, hts⟩ (uX9_score l hl0 Γ lo S (Z ++ [zOut Γ qo O]) v_z hf) (cwV 1 hts gL_score_X9_score rfl rfl rfl (by decide +kernel) ⟨Nat.le_of_ble_eq_true rfl, Nat.le_of_ble_eq_true rfl⟩) ⟨fun _ _ _ _ q => q, va_recv (q0 := 0) hKK.1 (wd_1 hW v_z) rfl rfl, fun _ hU hW1 => ⟨rfl, by rw [hU]; exact hW, hKK.go hS hU hW1, hKX.go hW1⟩⟩ rfl rfl hl.1 rfl (lv_room (Nat.le_of_ble_eq_true rfl)) dL_score_4 ⟨Nat.le_of_ble_eq_true rfl, Nat.le_of_ble_eq_true rfl⟩) hS (fun q H locs ce hW hS hm1 hce hcv hcl => ?_)
  obtain ⟨en, eS⟩ := ee
  dsimp only at hn hW hm1 hcl ⊢
  subst hn
  refine vx_catch (own := RL) (name := "java/lang/IndexOutOfBoundsException") hown [] ⟨0, 9, 12, 21⟩ [] ht (fun z hz => by cases hz) rfl (Nat.succ_ne_zero _) (hts (.classLink RL 21 "java/lang/IndexOutOfBoundsException") (List.mem_of_getElem? (i := 1) rfl)) (va_Nw.use rfl (hKX.2.2 1)) hce hcv hcl ?_
  refine lv_astore_n (lv' := [(3, .ref q), (0, .ref (lo (10, 0, 0))), (1, .int i_1), (2, .ref qo)]) hx hb dL_score_12 rfl hl (by decide) rfl (fun ls hl => ?_)
  refine lv_iconst (v := (1)) hx hb dL_score_13 (by decide) ?_
  exact n_iret hx hb hr hlocks (Nat.le_of_ble_eq_true rfl) (Nat.le_of_ble_eq_true rfl) rfl rfl hW hS (fun _ _ => rfl) (fun d hd => (hm1 d).trans hd) trivial dL_score_14

abbrev rmL_scoreByLog : Room := { frames := 8, cells := 1, slots := 6, locals := 124 }
set_option maxHeartbeats 4000000 in
set_option maxRecDepth 100000 in
theorem tL_scoreByLog (l : Launch) (Γ : zG) (lo : zId → Nat) (S : zSt) (Z : va_W) (qo : Nat) (O : Nat → Int64) {i_1 : Int32} (v_z : zV S (10, 0, 0) = true) {y : (Int32 × zSt)} (hf : fX9_scoreByLog S i_1 = some (Sum.inr y)) : Met l yL_scoreByLog wsL_scoreByLog rmL_scoreByLog (zPL Γ lo S (Z ++ [zOut Γ qo O]) [.ref (lo (10, 0, 0)), .int i_1, .ref qo]) (zQn Γ lo S y.2 (Z ++ [zOut Γ qo (vp_updL O 0 (y.1).toInt64)]) (fun _ => some (.int 0)) (fun _ => True)) 1 6 (zA Γ) := by
  refine va_MetW (cc := cL_scoreByLog) (maxL := 4) (ret := (some .int)) (hh := [(0, 9, 12, 21)]) (by decide) rfl ?_
  intro p e s m args below meth c s₁ B hml hv
  obtain ⟨rfl, hW, hKK, hKX, hKY, hKN⟩ := hv
  have hx := B.exec
  have hb := B.bytes
  have hr := B.returns
  have hts := atoms_spec (ws := wsL_scoreByLog) B.pre
  have ht : c.exceptionTable.toList = tableOf [(0, 9, 12, 21)] := vx_table (x := yL_scoreByLog) B (hts _ (List.mem_of_getElem? (i := 0) rfl))
  have hown : s.vm.findClass RL = some m.cls := findClass_of_methodNamed B.named
  have hlocks := B.notSynchronized
  have hS : va_S (zA Γ) s.heap s.heap [] := va_S.rf
  have hl := lv_entry ([.ref (lo (10, 0, 0)), .int i_1, .ref qo]) (n := 4) (Nat.le_of_ble_eq_true rfl)
  rw [lg_entry_eq]
  generalize (lg_sl ([.ref (lo (10, 0, 0)), .int i_1, .ref qo]) ++ List.replicate (4 - (lg_sl ([.ref (lo (10, 0, 0)), .int i_1, .ref qo])).length) Slot.unset).toArray = ls at hl ⊢
  have hl : lv_has ls 4 [(0, .ref (lo (10, 0, 0))), (1, .int i_1), (2, .ref qo)] := hl
  generalize ([.ref (lo (10, 0, 0)), .int i_1, .ref qo] : List Value).toArray = args at hts ⊢
  obtain ⟨H, hH0⟩ : ∃ H, H = s.heap := ⟨_, rfl⟩
  obtain ⟨locs, hlo0⟩ : ∃ L : List Loc, L = [] := ⟨_, rfl⟩
  have hS : va_S (zA Γ) s.heap H locs := by rw [hH0, hlo0]; exact hS
  have hW : Wd Γ lo S (Z ++ [zOut Γ qo O]) H := by rw [hH0]; exact hW
  rw [← hH0, ← hlo0]
  refine lv_aload_n hx hb dL_scoreByLog_0 rfl (lv_at hl 2 rfl) ?_
  refine lv_iconst (v := (0)) hx hb dL_scoreByLog_1 (by decide) ?_
  refine lv_aload_n hx hb dL_scoreByLog_2 rfl (lv_at hl 0 rfl) ?_
  refine lv_iload_n hx hb dL_scoreByLog_3 rfl (lv_at hl 1 rfl) ?_
  refine z_callV (As := [.int i_1]) (rest := [.int 0, .ref qo]) ⟨hx, hb, hml, hown, hts⟩ (tX9_scoreByLog l Γ lo S (Z ++ [zOut Γ qo O]) v_z hf) (cwV 1 hts gL_scoreByLog_X9_scoreByLog rfl rfl rfl (by decide +kernel) ⟨Nat.le_of_ble_eq_true rfl, Nat.le_of_ble_eq_true rfl⟩) (wd_1 hW v_z) rfl hKK hW hS rfl hl.1 rfl (Nat.le_of_ble_eq_true rfl) dL_scoreByLog_4 ⟨Nat.zero_le _, Nat.zero_le _⟩ (fun H locs hW hS hm1 hE => ?_)
  refine lv_i2l hx hb dL_scoreByLog_7 rfl ?_
  refine x_out hx hb hKK.1 hW hS dL_scoreByLog_8 (fun H locs hW hS => ?_)
  refine lv_goto (tgt := 15) hx hb dL_scoreByLog_9 (by decide) ?_
  refine lv_iconst (v := (0)) hx hb dL_scoreByLog_15 (by decide) ?_
  exact n_iret hx hb hr hlocks (Nat.le_of_ble_eq_true rfl) (Nat.le_of_ble_eq_true rfl) rfl rfl hW hS (fun _ _ => rfl) (fun d hd => (hm1 d).trans hd) trivial dL_scoreByLog_16
set_option maxHeartbeats 4000000 in
set_option maxRecDepth 100000 in
theorem uL_scoreByLog (l : Launch) (hl0 : l.stackTraces = false) (Γ : zG) (lo : zId → Nat) (S : zSt) (Z : va_W) (qo : Nat) (O : Nat → Int64) {i_1 : Int32} (v_z : zV S (10, 0, 0) = true) {ee : Nat × zSt} (hf : fX9_scoreByLog S i_1 = some (Sum.inl ee)) (hn : ee.1 = 1) : Met l yL_scoreByLog wsL_scoreByLog rmL_scoreByLog (zPL Γ lo S (Z ++ [zOut Γ qo O]) [.ref (lo (10, 0, 0)), .int i_1, .ref qo]) (zQn Γ lo S ee.2 (Z ++ [zOut Γ qo O]) (fun _ => some (.int (kL [1] ee.1))) (fun _ => True)) 1 6 (zA Γ) := by
  refine va_MetW (cc := cL_scoreByLog) (maxL := 4) (ret := (some .int)) (hh := [(0, 9, 12, 21)]) (by decide) rfl ?_
  intro p e s m args below meth c s₁ B hml hv
  obtain ⟨rfl, hW, hKK, hKX, hKY, hKN⟩ := hv
  have hx := B.exec
  have hb := B.bytes
  have hr := B.returns
  have hts := atoms_spec (ws := wsL_scoreByLog) B.pre
  have ht : c.exceptionTable.toList = tableOf [(0, 9, 12, 21)] := vx_table (x := yL_scoreByLog) B (hts _ (List.mem_of_getElem? (i := 0) rfl))
  have hown : s.vm.findClass RL = some m.cls := findClass_of_methodNamed B.named
  have hlocks := B.notSynchronized
  have hS : va_S (zA Γ) s.heap s.heap [] := va_S.rf
  have hl := lv_entry ([.ref (lo (10, 0, 0)), .int i_1, .ref qo]) (n := 4) (Nat.le_of_ble_eq_true rfl)
  rw [lg_entry_eq]
  generalize (lg_sl ([.ref (lo (10, 0, 0)), .int i_1, .ref qo]) ++ List.replicate (4 - (lg_sl ([.ref (lo (10, 0, 0)), .int i_1, .ref qo])).length) Slot.unset).toArray = ls at hl ⊢
  have hl : lv_has ls 4 [(0, .ref (lo (10, 0, 0))), (1, .int i_1), (2, .ref qo)] := hl
  generalize ([.ref (lo (10, 0, 0)), .int i_1, .ref qo] : List Value).toArray = args at hts ⊢
  obtain ⟨H, hH0⟩ : ∃ H, H = s.heap := ⟨_, rfl⟩
  obtain ⟨locs, hlo0⟩ : ∃ L : List Loc, L = [] := ⟨_, rfl⟩
  have hS : va_S (zA Γ) s.heap H locs := by rw [hH0, hlo0]; exact hS
  have hW : Wd Γ lo S (Z ++ [zOut Γ qo O]) H := by rw [hH0]; exact hW
  rw [← hH0, ← hlo0]
  refine lv_aload_n hx hb dL_scoreByLog_0 rfl (lv_at hl 2 rfl) ?_
  refine lv_iconst (v := (0)) hx hb dL_scoreByLog_1 (by decide) ?_
  refine lv_aload_n hx hb dL_scoreByLog_2 rfl (lv_at hl 0 rfl) ?_
  refine lv_iload_n hx hb dL_scoreByLog_3 rfl (lv_at hl 1 rfl) ?_
  refine l_thr (rest := [.int 0, .ref qo]) (vx_runV (As := [.int i_1]) ⟨hx, hb, hml, hown, hts⟩ (uX9_scoreByLog l hl0 Γ lo S (Z ++ [zOut Γ qo O]) v_z hf) (cwV 1 hts gL_scoreByLog_X9_scoreByLog rfl rfl rfl (by decide +kernel) ⟨Nat.le_of_ble_eq_true rfl, Nat.le_of_ble_eq_true rfl⟩) ⟨fun _ _ _ _ q => q, va_recv (q0 := 0) hKK.1 (wd_1 hW v_z) rfl rfl, fun _ hU hW1 => ⟨rfl, by rw [hU]; exact hW, hKK.go hS hU hW1, hKX.go hW1⟩⟩ rfl rfl hl.1 rfl (lv_room (Nat.le_of_ble_eq_true rfl)) dL_scoreByLog_4 ⟨Nat.le_of_ble_eq_true rfl, Nat.le_of_ble_eq_true rfl⟩) hS (fun q H locs ce hW hS hm1 hce hcv hcl => ?_)
  obtain ⟨en, eS⟩ := ee
  dsimp only at hn hW hm1 hcl ⊢
  subst hn
  refine vx_catch (own := RL) (name := "java/lang/IndexOutOfBoundsException") hown [] ⟨0, 9, 12, 21⟩ [] ht (fun z hz => by cases hz) rfl (Nat.succ_ne_zero _) (hts (.classLink RL 21 "java/lang/IndexOutOfBoundsException") (List.mem_of_getElem? (i := 1) rfl)) (va_Nw.use rfl (hKX.2.2 1)) hce hcv hcl ?_
  refine lv_astore_n (lv' := [(3, .ref q), (0, .ref (lo (10, 0, 0))), (1, .int i_1), (2, .ref qo)]) hx hb dL_scoreByLog_12 rfl hl (by decide) rfl (fun ls hl => ?_)
  refine lv_iconst (v := (1)) hx hb dL_scoreByLog_13 (by decide) ?_
  exact n_iret hx hb hr hlocks (Nat.le_of_ble_eq_true rfl) (Nat.le_of_ble_eq_true rfl) rfl rfl hW hS (fun _ _ => rfl) (fun d hd => (hm1 d).trans hd) trivial dL_scoreByLog_14

abbrev rmL_valid : Room := { frames := 8, cells := 1, slots := 6, locals := 124 }
set_option maxHeartbeats 4000000 in
set_option maxRecDepth 100000 in
theorem tL_valid (l : Launch) (Γ : zG) (lo : zId → Nat) (S : zSt) (Z : va_W) (qo : Nat) (O : Nat → Int64) {i_1 : Int32} (v_z : zV S (10, 0, 0) = true) {y : (Int32 × zSt)} (hf : fX9_valid S i_1 = some (Sum.inr y)) : Met l yL_valid wsL_valid rmL_valid (zPL Γ lo S (Z ++ [zOut Γ qo O]) [.ref (lo (10, 0, 0)), .int i_1, .ref qo]) (zQn Γ lo S y.2 (Z ++ [zOut Γ qo (vp_updL O 0 (y.1).toInt64)]) (fun _ => some (.int 0)) (fun _ => True)) 1 6 (zA Γ) := by
  refine va_MetW (cc := cL_valid) (maxL := 4) (ret := (some .int)) (hh := [(0, 9, 12, 21)]) (by decide) rfl ?_
  intro p e s m args below meth c s₁ B hml hv
  obtain ⟨rfl, hW, hKK, hKX, hKY, hKN⟩ := hv
  have hx := B.exec
  have hb := B.bytes
  have hr := B.returns
  have hts := atoms_spec (ws := wsL_valid) B.pre
  have ht : c.exceptionTable.toList = tableOf [(0, 9, 12, 21)] := vx_table (x := yL_valid) B (hts _ (List.mem_of_getElem? (i := 0) rfl))
  have hown : s.vm.findClass RL = some m.cls := findClass_of_methodNamed B.named
  have hlocks := B.notSynchronized
  have hS : va_S (zA Γ) s.heap s.heap [] := va_S.rf
  have hl := lv_entry ([.ref (lo (10, 0, 0)), .int i_1, .ref qo]) (n := 4) (Nat.le_of_ble_eq_true rfl)
  rw [lg_entry_eq]
  generalize (lg_sl ([.ref (lo (10, 0, 0)), .int i_1, .ref qo]) ++ List.replicate (4 - (lg_sl ([.ref (lo (10, 0, 0)), .int i_1, .ref qo])).length) Slot.unset).toArray = ls at hl ⊢
  have hl : lv_has ls 4 [(0, .ref (lo (10, 0, 0))), (1, .int i_1), (2, .ref qo)] := hl
  generalize ([.ref (lo (10, 0, 0)), .int i_1, .ref qo] : List Value).toArray = args at hts ⊢
  obtain ⟨H, hH0⟩ : ∃ H, H = s.heap := ⟨_, rfl⟩
  obtain ⟨locs, hlo0⟩ : ∃ L : List Loc, L = [] := ⟨_, rfl⟩
  have hS : va_S (zA Γ) s.heap H locs := by rw [hH0, hlo0]; exact hS
  have hW : Wd Γ lo S (Z ++ [zOut Γ qo O]) H := by rw [hH0]; exact hW
  rw [← hH0, ← hlo0]
  refine lv_aload_n hx hb dL_valid_0 rfl (lv_at hl 2 rfl) ?_
  refine lv_iconst (v := (0)) hx hb dL_valid_1 (by decide) ?_
  refine lv_aload_n hx hb dL_valid_2 rfl (lv_at hl 0 rfl) ?_
  refine lv_iload_n hx hb dL_valid_3 rfl (lv_at hl 1 rfl) ?_
  refine z_callV (As := [.int i_1]) (rest := [.int 0, .ref qo]) ⟨hx, hb, hml, hown, hts⟩ (tX9_valid l Γ lo S (Z ++ [zOut Γ qo O]) v_z hf) (cwV 1 hts gL_valid_X9_valid rfl rfl rfl (by decide +kernel) ⟨Nat.le_of_ble_eq_true rfl, Nat.le_of_ble_eq_true rfl⟩) (wd_1 hW v_z) rfl hKK hW hS rfl hl.1 rfl (Nat.le_of_ble_eq_true rfl) dL_valid_4 ⟨Nat.zero_le _, Nat.zero_le _⟩ (fun H locs hW hS hm1 hE => ?_)
  refine lv_i2l hx hb dL_valid_7 rfl ?_
  refine x_out hx hb hKK.1 hW hS dL_valid_8 (fun H locs hW hS => ?_)
  refine lv_goto (tgt := 15) hx hb dL_valid_9 (by decide) ?_
  refine lv_iconst (v := (0)) hx hb dL_valid_15 (by decide) ?_
  exact n_iret hx hb hr hlocks (Nat.le_of_ble_eq_true rfl) (Nat.le_of_ble_eq_true rfl) rfl rfl hW hS (fun _ _ => rfl) (fun d hd => (hm1 d).trans hd) trivial dL_valid_16
set_option maxHeartbeats 4000000 in
set_option maxRecDepth 100000 in
theorem uL_valid (l : Launch) (hl0 : l.stackTraces = false) (Γ : zG) (lo : zId → Nat) (S : zSt) (Z : va_W) (qo : Nat) (O : Nat → Int64) {i_1 : Int32} (v_z : zV S (10, 0, 0) = true) {ee : Nat × zSt} (hf : fX9_valid S i_1 = some (Sum.inl ee)) (hn : ee.1 = 1) : Met l yL_valid wsL_valid rmL_valid (zPL Γ lo S (Z ++ [zOut Γ qo O]) [.ref (lo (10, 0, 0)), .int i_1, .ref qo]) (zQn Γ lo S ee.2 (Z ++ [zOut Γ qo O]) (fun _ => some (.int (kL [1] ee.1))) (fun _ => True)) 1 6 (zA Γ) := by
  refine va_MetW (cc := cL_valid) (maxL := 4) (ret := (some .int)) (hh := [(0, 9, 12, 21)]) (by decide) rfl ?_
  intro p e s m args below meth c s₁ B hml hv
  obtain ⟨rfl, hW, hKK, hKX, hKY, hKN⟩ := hv
  have hx := B.exec
  have hb := B.bytes
  have hr := B.returns
  have hts := atoms_spec (ws := wsL_valid) B.pre
  have ht : c.exceptionTable.toList = tableOf [(0, 9, 12, 21)] := vx_table (x := yL_valid) B (hts _ (List.mem_of_getElem? (i := 0) rfl))
  have hown : s.vm.findClass RL = some m.cls := findClass_of_methodNamed B.named
  have hlocks := B.notSynchronized
  have hS : va_S (zA Γ) s.heap s.heap [] := va_S.rf
  have hl := lv_entry ([.ref (lo (10, 0, 0)), .int i_1, .ref qo]) (n := 4) (Nat.le_of_ble_eq_true rfl)
  rw [lg_entry_eq]
  generalize (lg_sl ([.ref (lo (10, 0, 0)), .int i_1, .ref qo]) ++ List.replicate (4 - (lg_sl ([.ref (lo (10, 0, 0)), .int i_1, .ref qo])).length) Slot.unset).toArray = ls at hl ⊢
  have hl : lv_has ls 4 [(0, .ref (lo (10, 0, 0))), (1, .int i_1), (2, .ref qo)] := hl
  generalize ([.ref (lo (10, 0, 0)), .int i_1, .ref qo] : List Value).toArray = args at hts ⊢
  obtain ⟨H, hH0⟩ : ∃ H, H = s.heap := ⟨_, rfl⟩
  obtain ⟨locs, hlo0⟩ : ∃ L : List Loc, L = [] := ⟨_, rfl⟩
  have hS : va_S (zA Γ) s.heap H locs := by rw [hH0, hlo0]; exact hS
  have hW : Wd Γ lo S (Z ++ [zOut Γ qo O]) H := by rw [hH0]; exact hW
  rw [← hH0, ← hlo0]
  refine lv_aload_n hx hb dL_valid_0 rfl (lv_at hl 2 rfl) ?_
  refine lv_iconst (v := (0)) hx hb dL_valid_1 (by decide) ?_
  refine lv_aload_n hx hb dL_valid_2 rfl (lv_at hl 0 rfl) ?_
  refine lv_iload_n hx hb dL_valid_3 rfl (lv_at hl 1 rfl) ?_
  refine l_thr (rest := [.int 0, .ref qo]) (vx_runV (As := [.int i_1]) ⟨hx, hb, hml, hown, hts⟩ (uX9_valid l hl0 Γ lo S (Z ++ [zOut Γ qo O]) v_z hf) (cwV 1 hts gL_valid_X9_valid rfl rfl rfl (by decide +kernel) ⟨Nat.le_of_ble_eq_true rfl, Nat.le_of_ble_eq_true rfl⟩) ⟨fun _ _ _ _ q => q, va_recv (q0 := 0) hKK.1 (wd_1 hW v_z) rfl rfl, fun _ hU hW1 => ⟨rfl, by rw [hU]; exact hW, hKK.go hS hU hW1, hKX.go hW1⟩⟩ rfl rfl hl.1 rfl (lv_room (Nat.le_of_ble_eq_true rfl)) dL_valid_4 ⟨Nat.le_of_ble_eq_true rfl, Nat.le_of_ble_eq_true rfl⟩) hS (fun q H locs ce hW hS hm1 hce hcv hcl => ?_)
  obtain ⟨en, eS⟩ := ee
  dsimp only at hn hW hm1 hcl ⊢
  subst hn
  refine vx_catch (own := RL) (name := "java/lang/IndexOutOfBoundsException") hown [] ⟨0, 9, 12, 21⟩ [] ht (fun z hz => by cases hz) rfl (Nat.succ_ne_zero _) (hts (.classLink RL 21 "java/lang/IndexOutOfBoundsException") (List.mem_of_getElem? (i := 1) rfl)) (va_Nw.use rfl (hKX.2.2 1)) hce hcv hcl ?_
  refine lv_astore_n (lv' := [(3, .ref q), (0, .ref (lo (10, 0, 0))), (1, .int i_1), (2, .ref qo)]) hx hb dL_valid_12 rfl hl (by decide) rfl (fun ls hl => ?_)
  refine lv_iconst (v := (1)) hx hb dL_valid_13 (by decide) ?_
  exact n_iret hx hb hr hlocks (Nat.le_of_ble_eq_true rfl) (Nat.le_of_ble_eq_true rfl) rfl rfl hW hS (fun _ _ => rfl) (fun d hd => (hm1 d).trans hd) trivial dL_valid_14

abbrev rmL_logged : Room := { frames := 8, cells := 1, slots := 6, locals := 124 }
set_option maxHeartbeats 4000000 in
set_option maxRecDepth 100000 in
theorem tL_logged (l : Launch) (Γ : zG) (lo : zId → Nat) (S : zSt) (Z : va_W) (qo : Nat) (O : Nat → Int64) {i_1 : Int32} (v_z : zV S (10, 0, 0) = true) {y : Int32} (hf : fX9_logged S i_1 = some (Sum.inr y)) : Met l yL_logged wsL_logged rmL_logged (zPL Γ lo S (Z ++ [zOut Γ qo O]) [.ref (lo (10, 0, 0)), .int i_1, .ref qo]) (zQn Γ lo S S (Z ++ [zOut Γ qo (vp_updL O 0 (y).toInt64)]) (fun _ => some (.int 0)) (fun _ => True)) 1 6 (zA Γ) := by
  refine va_MetW (cc := cL_logged) (maxL := 4) (ret := (some .int)) (hh := [(0, 9, 12, 21)]) (by decide) rfl ?_
  intro p e s m args below meth c s₁ B hml hv
  obtain ⟨rfl, hW, hKK, hKX, hKY, hKN⟩ := hv
  have hx := B.exec
  have hb := B.bytes
  have hr := B.returns
  have hts := atoms_spec (ws := wsL_logged) B.pre
  have ht : c.exceptionTable.toList = tableOf [(0, 9, 12, 21)] := vx_table (x := yL_logged) B (hts _ (List.mem_of_getElem? (i := 0) rfl))
  have hown : s.vm.findClass RL = some m.cls := findClass_of_methodNamed B.named
  have hlocks := B.notSynchronized
  have hS : va_S (zA Γ) s.heap s.heap [] := va_S.rf
  have hl := lv_entry ([.ref (lo (10, 0, 0)), .int i_1, .ref qo]) (n := 4) (Nat.le_of_ble_eq_true rfl)
  rw [lg_entry_eq]
  generalize (lg_sl ([.ref (lo (10, 0, 0)), .int i_1, .ref qo]) ++ List.replicate (4 - (lg_sl ([.ref (lo (10, 0, 0)), .int i_1, .ref qo])).length) Slot.unset).toArray = ls at hl ⊢
  have hl : lv_has ls 4 [(0, .ref (lo (10, 0, 0))), (1, .int i_1), (2, .ref qo)] := hl
  generalize ([.ref (lo (10, 0, 0)), .int i_1, .ref qo] : List Value).toArray = args at hts ⊢
  obtain ⟨H, hH0⟩ : ∃ H, H = s.heap := ⟨_, rfl⟩
  obtain ⟨locs, hlo0⟩ : ∃ L : List Loc, L = [] := ⟨_, rfl⟩
  have hS : va_S (zA Γ) s.heap H locs := by rw [hH0, hlo0]; exact hS
  have hW : Wd Γ lo S (Z ++ [zOut Γ qo O]) H := by rw [hH0]; exact hW
  rw [← hH0, ← hlo0]
  refine lv_aload_n hx hb dL_logged_0 rfl (lv_at hl 2 rfl) ?_
  refine lv_iconst (v := (0)) hx hb dL_logged_1 (by decide) ?_
  refine lv_aload_n hx hb dL_logged_2 rfl (lv_at hl 0 rfl) ?_
  refine lv_iload_n hx hb dL_logged_3 rfl (lv_at hl 1 rfl) ?_
  refine z_callV (As := [.int i_1]) (rest := [.int 0, .ref qo]) ⟨hx, hb, hml, hown, hts⟩ (tX9_logged l Γ lo S (Z ++ [zOut Γ qo O]) v_z hf) (cwV 1 hts gL_logged_X9_logged rfl rfl rfl (by decide +kernel) ⟨Nat.le_of_ble_eq_true rfl, Nat.le_of_ble_eq_true rfl⟩) (wd_1 hW v_z) rfl hKK hW hS rfl hl.1 rfl (Nat.le_of_ble_eq_true rfl) dL_logged_4 ⟨Nat.zero_le _, Nat.zero_le _⟩ (fun H locs hW hS hm1 hE => ?_)
  refine lv_i2l hx hb dL_logged_7 rfl ?_
  refine x_out hx hb hKK.1 hW hS dL_logged_8 (fun H locs hW hS => ?_)
  refine lv_goto (tgt := 15) hx hb dL_logged_9 (by decide) ?_
  refine lv_iconst (v := (0)) hx hb dL_logged_15 (by decide) ?_
  exact n_iret hx hb hr hlocks (Nat.le_of_ble_eq_true rfl) (Nat.le_of_ble_eq_true rfl) rfl rfl hW hS (fun _ _ => rfl) (fun d hd => (hm1 d).trans hd) trivial dL_logged_16
set_option maxHeartbeats 4000000 in
set_option maxRecDepth 100000 in
theorem uL_logged (l : Launch) (hl0 : l.stackTraces = false) (Γ : zG) (lo : zId → Nat) (S : zSt) (Z : va_W) (qo : Nat) (O : Nat → Int64) {i_1 : Int32} (v_z : zV S (10, 0, 0) = true) {ee : Nat × zSt} (hf : fX9_logged S i_1 = some (Sum.inl ee)) (hn : ee.1 = 1) : Met l yL_logged wsL_logged rmL_logged (zPL Γ lo S (Z ++ [zOut Γ qo O]) [.ref (lo (10, 0, 0)), .int i_1, .ref qo]) (zQn Γ lo S ee.2 (Z ++ [zOut Γ qo O]) (fun _ => some (.int (kL [1] ee.1))) (fun _ => True)) 1 6 (zA Γ) := by
  refine va_MetW (cc := cL_logged) (maxL := 4) (ret := (some .int)) (hh := [(0, 9, 12, 21)]) (by decide) rfl ?_
  intro p e s m args below meth c s₁ B hml hv
  obtain ⟨rfl, hW, hKK, hKX, hKY, hKN⟩ := hv
  have hx := B.exec
  have hb := B.bytes
  have hr := B.returns
  have hts := atoms_spec (ws := wsL_logged) B.pre
  have ht : c.exceptionTable.toList = tableOf [(0, 9, 12, 21)] := vx_table (x := yL_logged) B (hts _ (List.mem_of_getElem? (i := 0) rfl))
  have hown : s.vm.findClass RL = some m.cls := findClass_of_methodNamed B.named
  have hlocks := B.notSynchronized
  have hS : va_S (zA Γ) s.heap s.heap [] := va_S.rf
  have hl := lv_entry ([.ref (lo (10, 0, 0)), .int i_1, .ref qo]) (n := 4) (Nat.le_of_ble_eq_true rfl)
  rw [lg_entry_eq]
  generalize (lg_sl ([.ref (lo (10, 0, 0)), .int i_1, .ref qo]) ++ List.replicate (4 - (lg_sl ([.ref (lo (10, 0, 0)), .int i_1, .ref qo])).length) Slot.unset).toArray = ls at hl ⊢
  have hl : lv_has ls 4 [(0, .ref (lo (10, 0, 0))), (1, .int i_1), (2, .ref qo)] := hl
  generalize ([.ref (lo (10, 0, 0)), .int i_1, .ref qo] : List Value).toArray = args at hts ⊢
  obtain ⟨H, hH0⟩ : ∃ H, H = s.heap := ⟨_, rfl⟩
  obtain ⟨locs, hlo0⟩ : ∃ L : List Loc, L = [] := ⟨_, rfl⟩
  have hS : va_S (zA Γ) s.heap H locs := by rw [hH0, hlo0]; exact hS
  have hW : Wd Γ lo S (Z ++ [zOut Γ qo O]) H := by rw [hH0]; exact hW
  rw [← hH0, ← hlo0]
  refine lv_aload_n hx hb dL_logged_0 rfl (lv_at hl 2 rfl) ?_
  refine lv_iconst (v := (0)) hx hb dL_logged_1 (by decide) ?_
  refine lv_aload_n hx hb dL_logged_2 rfl (lv_at hl 0 rfl) ?_
  refine lv_iload_n hx hb dL_logged_3 rfl (lv_at hl 1 rfl) ?_
  refine l_thr (rest := [.int 0, .ref qo]) (vx_runV (As := [.int i_1]) ⟨hx, hb, hml, hown, hts⟩ (uX9_logged l hl0 Γ lo S (Z ++ [zOut Γ qo O]) v_z hf) (cwV 1 hts gL_logged_X9_logged rfl rfl rfl (by decide +kernel) ⟨Nat.le_of_ble_eq_true rfl, Nat.le_of_ble_eq_true rfl⟩) ⟨fun _ _ _ _ q => q, va_recv (q0 := 0) hKK.1 (wd_1 hW v_z) rfl rfl, fun _ hU hW1 => ⟨rfl, by rw [hU]; exact hW, hKK.go hS hU hW1, hKX.go hW1⟩⟩ rfl rfl hl.1 rfl (lv_room (Nat.le_of_ble_eq_true rfl)) dL_logged_4 ⟨Nat.le_of_ble_eq_true rfl, Nat.le_of_ble_eq_true rfl⟩) hS (fun q H locs ce hW hS hm1 hce hcv hcl => ?_)
  obtain ⟨en, eS⟩ := ee
  dsimp only at hn hW hm1 hcl ⊢
  subst hn
  refine vx_catch (own := RL) (name := "java/lang/IndexOutOfBoundsException") hown [] ⟨0, 9, 12, 21⟩ [] ht (fun z hz => by cases hz) rfl (Nat.succ_ne_zero _) (hts (.classLink RL 21 "java/lang/IndexOutOfBoundsException") (List.mem_of_getElem? (i := 1) rfl)) (va_Nw.use rfl (hKX.2.2 1)) hce hcv hcl ?_
  refine lv_astore_n (lv' := [(3, .ref q), (0, .ref (lo (10, 0, 0))), (1, .int i_1), (2, .ref qo)]) hx hb dL_logged_12 rfl hl (by decide) rfl (fun ls hl => ?_)
  refine lv_iconst (v := (1)) hx hb dL_logged_13 (by decide) ?_
  exact n_iret hx hb hr hlocks (Nat.le_of_ble_eq_true rfl) (Nat.le_of_ble_eq_true rfl) rfl rfl hW hS (fun _ _ => rfl) (fun d hd => (hm1 d).trans hd) trivial dL_logged_14

abbrev rmL_entryAt : Room := { frames := 8, cells := 1, slots := 6, locals := 126 }
set_option maxHeartbeats 4000000 in
set_option maxRecDepth 100000 in
theorem tL_entryAt (l : Launch) (Γ : zG) (lo : zId → Nat) (S : zSt) (Z : va_W) (qo : Nat) (O : Nat → Int64) {i_1 : Int32} {i_2 : Int32} (v_z : zV S (10, 0, 0) = true) {y : Int64} (hf : fX9_entryAt S i_1 i_2 = some (Sum.inr y)) : Met l yL_entryAt wsL_entryAt rmL_entryAt (zPL Γ lo S (Z ++ [zOut Γ qo O]) [.ref (lo (10, 0, 0)), .int i_1, .int i_2, .ref qo]) (zQn Γ lo S S (Z ++ [zOut Γ qo (vp_updL O 0 y)]) (fun _ => some (.int 0)) (fun _ => True)) 1 6 (zA Γ) := by
  refine va_MetW (cc := cL_entryAt) (maxL := 5) (ret := (some .int)) (hh := [(0, 9, 12, 21)]) (by decide) rfl ?_
  intro p e s m args below meth c s₁ B hml hv
  obtain ⟨rfl, hW, hKK, hKX, hKY, hKN⟩ := hv
  have hx := B.exec
  have hb := B.bytes
  have hr := B.returns
  have hts := atoms_spec (ws := wsL_entryAt) B.pre
  have ht : c.exceptionTable.toList = tableOf [(0, 9, 12, 21)] := vx_table (x := yL_entryAt) B (hts _ (List.mem_of_getElem? (i := 0) rfl))
  have hown : s.vm.findClass RL = some m.cls := findClass_of_methodNamed B.named
  have hlocks := B.notSynchronized
  have hS : va_S (zA Γ) s.heap s.heap [] := va_S.rf
  have hl := lv_entry ([.ref (lo (10, 0, 0)), .int i_1, .int i_2, .ref qo]) (n := 5) (Nat.le_of_ble_eq_true rfl)
  rw [lg_entry_eq]
  generalize (lg_sl ([.ref (lo (10, 0, 0)), .int i_1, .int i_2, .ref qo]) ++ List.replicate (5 - (lg_sl ([.ref (lo (10, 0, 0)), .int i_1, .int i_2, .ref qo])).length) Slot.unset).toArray = ls at hl ⊢
  have hl : lv_has ls 5 [(0, .ref (lo (10, 0, 0))), (1, .int i_1), (2, .int i_2), (3, .ref qo)] := hl
  generalize ([.ref (lo (10, 0, 0)), .int i_1, .int i_2, .ref qo] : List Value).toArray = args at hts ⊢
  obtain ⟨H, hH0⟩ : ∃ H, H = s.heap := ⟨_, rfl⟩
  obtain ⟨locs, hlo0⟩ : ∃ L : List Loc, L = [] := ⟨_, rfl⟩
  have hS : va_S (zA Γ) s.heap H locs := by rw [hH0, hlo0]; exact hS
  have hW : Wd Γ lo S (Z ++ [zOut Γ qo O]) H := by rw [hH0]; exact hW
  rw [← hH0, ← hlo0]
  refine lv_aload_n hx hb dL_entryAt_0 rfl (lv_at hl 3 rfl) ?_
  refine lv_iconst (v := (0)) hx hb dL_entryAt_1 (by decide) ?_
  refine lv_aload_n hx hb dL_entryAt_2 rfl (lv_at hl 0 rfl) ?_
  refine lv_iload_n hx hb dL_entryAt_3 rfl (lv_at hl 1 rfl) ?_
  refine lv_iload_n hx hb dL_entryAt_4 rfl (lv_at hl 2 rfl) ?_
  refine z_callV (As := [.int i_1, .int i_2]) (rest := [.int 0, .ref qo]) ⟨hx, hb, hml, hown, hts⟩ (tX9_entryAt l Γ lo S (Z ++ [zOut Γ qo O]) v_z hf) (cwV 2 hts gL_entryAt_X9_entryAt rfl rfl rfl (by decide +kernel) ⟨Nat.le_of_ble_eq_true rfl, Nat.le_of_ble_eq_true rfl⟩) (wd_1 hW v_z) rfl hKK hW hS rfl hl.1 rfl (Nat.le_of_ble_eq_true rfl) dL_entryAt_5 ⟨Nat.zero_le _, Nat.zero_le _⟩ (fun H locs hW hS hm1 hE => ?_)
  refine x_out hx hb hKK.1 hW hS dL_entryAt_8 (fun H locs hW hS => ?_)
  refine lv_goto (tgt := 16) hx hb dL_entryAt_9 (by decide) ?_
  refine lv_iconst (v := (0)) hx hb dL_entryAt_16 (by decide) ?_
  exact n_iret hx hb hr hlocks (Nat.le_of_ble_eq_true rfl) (Nat.le_of_ble_eq_true rfl) rfl rfl hW hS (fun _ _ => rfl) (fun d hd => (hm1 d).trans hd) trivial dL_entryAt_17
set_option maxHeartbeats 4000000 in
set_option maxRecDepth 100000 in
theorem uL_entryAt (l : Launch) (hl0 : l.stackTraces = false) (Γ : zG) (lo : zId → Nat) (S : zSt) (Z : va_W) (qo : Nat) (O : Nat → Int64) {i_1 : Int32} {i_2 : Int32} (v_z : zV S (10, 0, 0) = true) {ee : Nat × zSt} (hf : fX9_entryAt S i_1 i_2 = some (Sum.inl ee)) (hn : ee.1 = 1) : Met l yL_entryAt wsL_entryAt rmL_entryAt (zPL Γ lo S (Z ++ [zOut Γ qo O]) [.ref (lo (10, 0, 0)), .int i_1, .int i_2, .ref qo]) (zQn Γ lo S ee.2 (Z ++ [zOut Γ qo O]) (fun _ => some (.int (kL [1] ee.1))) (fun _ => True)) 1 6 (zA Γ) := by
  refine va_MetW (cc := cL_entryAt) (maxL := 5) (ret := (some .int)) (hh := [(0, 9, 12, 21)]) (by decide) rfl ?_
  intro p e s m args below meth c s₁ B hml hv
  obtain ⟨rfl, hW, hKK, hKX, hKY, hKN⟩ := hv
  have hx := B.exec
  have hb := B.bytes
  have hr := B.returns
  have hts := atoms_spec (ws := wsL_entryAt) B.pre
  have ht : c.exceptionTable.toList = tableOf [(0, 9, 12, 21)] := vx_table (x := yL_entryAt) B (hts _ (List.mem_of_getElem? (i := 0) rfl))
  have hown : s.vm.findClass RL = some m.cls := findClass_of_methodNamed B.named
  have hlocks := B.notSynchronized
  have hS : va_S (zA Γ) s.heap s.heap [] := va_S.rf
  have hl := lv_entry ([.ref (lo (10, 0, 0)), .int i_1, .int i_2, .ref qo]) (n := 5) (Nat.le_of_ble_eq_true rfl)
  rw [lg_entry_eq]
  generalize (lg_sl ([.ref (lo (10, 0, 0)), .int i_1, .int i_2, .ref qo]) ++ List.replicate (5 - (lg_sl ([.ref (lo (10, 0, 0)), .int i_1, .int i_2, .ref qo])).length) Slot.unset).toArray = ls at hl ⊢
  have hl : lv_has ls 5 [(0, .ref (lo (10, 0, 0))), (1, .int i_1), (2, .int i_2), (3, .ref qo)] := hl
  generalize ([.ref (lo (10, 0, 0)), .int i_1, .int i_2, .ref qo] : List Value).toArray = args at hts ⊢
  obtain ⟨H, hH0⟩ : ∃ H, H = s.heap := ⟨_, rfl⟩
  obtain ⟨locs, hlo0⟩ : ∃ L : List Loc, L = [] := ⟨_, rfl⟩
  have hS : va_S (zA Γ) s.heap H locs := by rw [hH0, hlo0]; exact hS
  have hW : Wd Γ lo S (Z ++ [zOut Γ qo O]) H := by rw [hH0]; exact hW
  rw [← hH0, ← hlo0]
  refine lv_aload_n hx hb dL_entryAt_0 rfl (lv_at hl 3 rfl) ?_
  refine lv_iconst (v := (0)) hx hb dL_entryAt_1 (by decide) ?_
  refine lv_aload_n hx hb dL_entryAt_2 rfl (lv_at hl 0 rfl) ?_
  refine lv_iload_n hx hb dL_entryAt_3 rfl (lv_at hl 1 rfl) ?_
  refine lv_iload_n hx hb dL_entryAt_4 rfl (lv_at hl 2 rfl) ?_
  refine l_thr (rest := [.int 0, .ref qo]) (vx_runV (As := [.int i_1, .int i_2]) ⟨hx, hb, hml, hown, hts⟩ (uX9_entryAt l hl0 Γ lo S (Z ++ [zOut Γ qo O]) v_z hf) (cwV 2 hts gL_entryAt_X9_entryAt rfl rfl rfl (by decide +kernel) ⟨Nat.le_of_ble_eq_true rfl, Nat.le_of_ble_eq_true rfl⟩) ⟨fun _ _ _ _ q => q, va_recv (q0 := 0) hKK.1 (wd_1 hW v_z) rfl rfl, fun _ hU hW1 => ⟨rfl, by rw [hU]; exact hW, hKK.go hS hU hW1, hKX.go hW1⟩⟩ rfl rfl hl.1 rfl (lv_room (Nat.le_of_ble_eq_true rfl)) dL_entryAt_5 ⟨Nat.le_of_ble_eq_true rfl, Nat.le_of_ble_eq_true rfl⟩) hS (fun q H locs ce hW hS hm1 hce hcv hcl => ?_)
  obtain ⟨en, eS⟩ := ee
  dsimp only at hn hW hm1 hcl ⊢
  subst hn
  refine vx_catch (own := RL) (name := "java/lang/IndexOutOfBoundsException") hown [] ⟨0, 9, 12, 21⟩ [] ht (fun z hz => by cases hz) rfl (Nat.succ_ne_zero _) (hts (.classLink RL 21 "java/lang/IndexOutOfBoundsException") (List.mem_of_getElem? (i := 1) rfl)) (va_Nw.use rfl (hKX.2.2 1)) hce hcv hcl ?_
  refine lv_astore (lv' := [(4, .ref q), (0, .ref (lo (10, 0, 0))), (1, .int i_1), (2, .int i_2), (3, .ref qo)]) hx hb dL_entryAt_12 hl (by decide) rfl (fun ls hl => ?_)
  refine lv_iconst (v := (1)) hx hb dL_entryAt_14 (by decide) ?_
  exact n_iret hx hb hr hlocks (Nat.le_of_ble_eq_true rfl) (Nat.le_of_ble_eq_true rfl) rfl rfl hW hS (fun _ _ => rfl) (fun d hd => (hm1 d).trans hd) trivial dL_entryAt_15

abbrev rmL_twin : Room := { frames := 8, cells := 1, slots := 6, locals := 127 }
set_option maxHeartbeats 4000000 in
set_option maxRecDepth 100000 in
theorem tL_twin (l : Launch) (Γ : zG) (lo : zId → Nat) (S : zSt) (Z : va_W) (qo : Nat) (O : Nat → Int64) {i_1 : Int32} (v_z : zV S (10, 0, 0) = true) {y : Int32} (hf : fX9_twin S i_1 = some (Sum.inr y)) : Met l yL_twin wsL_twin rmL_twin (zPL Γ lo S (Z ++ [zOut Γ qo O]) [.ref (lo (10, 0, 0)), .int i_1, .ref qo]) (zQn Γ lo S S (Z ++ [zOut Γ qo (vp_updL O 0 (y).toInt64)]) (fun _ => some (.int 0)) (fun _ => True)) 1 6 (zA Γ) := by
  refine va_MetW (cc := cL_twin) (maxL := 4) (ret := (some .int)) (hh := [(0, 9, 12, 21)]) (by decide) rfl ?_
  intro p e s m args below meth c s₁ B hml hv
  obtain ⟨rfl, hW, hKK, hKX, hKY, hKN⟩ := hv
  have hx := B.exec
  have hb := B.bytes
  have hr := B.returns
  have hts := atoms_spec (ws := wsL_twin) B.pre
  have ht : c.exceptionTable.toList = tableOf [(0, 9, 12, 21)] := vx_table (x := yL_twin) B (hts _ (List.mem_of_getElem? (i := 0) rfl))
  have hown : s.vm.findClass RL = some m.cls := findClass_of_methodNamed B.named
  have hlocks := B.notSynchronized
  have hS : va_S (zA Γ) s.heap s.heap [] := va_S.rf
  have hl := lv_entry ([.ref (lo (10, 0, 0)), .int i_1, .ref qo]) (n := 4) (Nat.le_of_ble_eq_true rfl)
  rw [lg_entry_eq]
  generalize (lg_sl ([.ref (lo (10, 0, 0)), .int i_1, .ref qo]) ++ List.replicate (4 - (lg_sl ([.ref (lo (10, 0, 0)), .int i_1, .ref qo])).length) Slot.unset).toArray = ls at hl ⊢
  have hl : lv_has ls 4 [(0, .ref (lo (10, 0, 0))), (1, .int i_1), (2, .ref qo)] := hl
  generalize ([.ref (lo (10, 0, 0)), .int i_1, .ref qo] : List Value).toArray = args at hts ⊢
  obtain ⟨H, hH0⟩ : ∃ H, H = s.heap := ⟨_, rfl⟩
  obtain ⟨locs, hlo0⟩ : ∃ L : List Loc, L = [] := ⟨_, rfl⟩
  have hS : va_S (zA Γ) s.heap H locs := by rw [hH0, hlo0]; exact hS
  have hW : Wd Γ lo S (Z ++ [zOut Γ qo O]) H := by rw [hH0]; exact hW
  rw [← hH0, ← hlo0]
  refine lv_aload_n hx hb dL_twin_0 rfl (lv_at hl 2 rfl) ?_
  refine lv_iconst (v := (0)) hx hb dL_twin_1 (by decide) ?_
  refine lv_aload_n hx hb dL_twin_2 rfl (lv_at hl 0 rfl) ?_
  refine lv_iload_n hx hb dL_twin_3 rfl (lv_at hl 1 rfl) ?_
  refine z_callV (As := [.int i_1]) (rest := [.int 0, .ref qo]) ⟨hx, hb, hml, hown, hts⟩ (tX9_twin l Γ lo S (Z ++ [zOut Γ qo O]) v_z hf) (cwV 1 hts gL_twin_X9_twin rfl rfl rfl (by decide +kernel) ⟨Nat.le_of_ble_eq_true rfl, Nat.le_of_ble_eq_true rfl⟩) (wd_1 hW v_z) rfl hKK hW hS rfl hl.1 rfl (Nat.le_of_ble_eq_true rfl) dL_twin_4 ⟨Nat.zero_le _, Nat.zero_le _⟩ (fun H locs hW hS hm1 hE => ?_)
  refine lv_i2l hx hb dL_twin_7 rfl ?_
  refine x_out hx hb hKK.1 hW hS dL_twin_8 (fun H locs hW hS => ?_)
  refine lv_goto (tgt := 15) hx hb dL_twin_9 (by decide) ?_
  refine lv_iconst (v := (0)) hx hb dL_twin_15 (by decide) ?_
  exact n_iret hx hb hr hlocks (Nat.le_of_ble_eq_true rfl) (Nat.le_of_ble_eq_true rfl) rfl rfl hW hS (fun _ _ => rfl) (fun d hd => (hm1 d).trans hd) trivial dL_twin_16
set_option maxHeartbeats 4000000 in
set_option maxRecDepth 100000 in
theorem uL_twin (l : Launch) (hl0 : l.stackTraces = false) (Γ : zG) (lo : zId → Nat) (S : zSt) (Z : va_W) (qo : Nat) (O : Nat → Int64) {i_1 : Int32} (v_z : zV S (10, 0, 0) = true) {ee : Nat × zSt} (hf : fX9_twin S i_1 = some (Sum.inl ee)) (hn : ee.1 = 1) : Met l yL_twin wsL_twin rmL_twin (zPL Γ lo S (Z ++ [zOut Γ qo O]) [.ref (lo (10, 0, 0)), .int i_1, .ref qo]) (zQn Γ lo S ee.2 (Z ++ [zOut Γ qo O]) (fun _ => some (.int (kL [1] ee.1))) (fun _ => True)) 1 6 (zA Γ) := by
  refine va_MetW (cc := cL_twin) (maxL := 4) (ret := (some .int)) (hh := [(0, 9, 12, 21)]) (by decide) rfl ?_
  intro p e s m args below meth c s₁ B hml hv
  obtain ⟨rfl, hW, hKK, hKX, hKY, hKN⟩ := hv
  have hx := B.exec
  have hb := B.bytes
  have hr := B.returns
  have hts := atoms_spec (ws := wsL_twin) B.pre
  have ht : c.exceptionTable.toList = tableOf [(0, 9, 12, 21)] := vx_table (x := yL_twin) B (hts _ (List.mem_of_getElem? (i := 0) rfl))
  have hown : s.vm.findClass RL = some m.cls := findClass_of_methodNamed B.named
  have hlocks := B.notSynchronized
  have hS : va_S (zA Γ) s.heap s.heap [] := va_S.rf
  have hl := lv_entry ([.ref (lo (10, 0, 0)), .int i_1, .ref qo]) (n := 4) (Nat.le_of_ble_eq_true rfl)
  rw [lg_entry_eq]
  generalize (lg_sl ([.ref (lo (10, 0, 0)), .int i_1, .ref qo]) ++ List.replicate (4 - (lg_sl ([.ref (lo (10, 0, 0)), .int i_1, .ref qo])).length) Slot.unset).toArray = ls at hl ⊢
  have hl : lv_has ls 4 [(0, .ref (lo (10, 0, 0))), (1, .int i_1), (2, .ref qo)] := hl
  generalize ([.ref (lo (10, 0, 0)), .int i_1, .ref qo] : List Value).toArray = args at hts ⊢
  obtain ⟨H, hH0⟩ : ∃ H, H = s.heap := ⟨_, rfl⟩
  obtain ⟨locs, hlo0⟩ : ∃ L : List Loc, L = [] := ⟨_, rfl⟩
  have hS : va_S (zA Γ) s.heap H locs := by rw [hH0, hlo0]; exact hS
  have hW : Wd Γ lo S (Z ++ [zOut Γ qo O]) H := by rw [hH0]; exact hW
  rw [← hH0, ← hlo0]
  refine lv_aload_n hx hb dL_twin_0 rfl (lv_at hl 2 rfl) ?_
  refine lv_iconst (v := (0)) hx hb dL_twin_1 (by decide) ?_
  refine lv_aload_n hx hb dL_twin_2 rfl (lv_at hl 0 rfl) ?_
  refine lv_iload_n hx hb dL_twin_3 rfl (lv_at hl 1 rfl) ?_
  refine l_thr (rest := [.int 0, .ref qo]) (vx_runV (As := [.int i_1]) ⟨hx, hb, hml, hown, hts⟩ (uX9_twin l hl0 Γ lo S (Z ++ [zOut Γ qo O]) v_z hf) (cwV 1 hts gL_twin_X9_twin rfl rfl rfl (by decide +kernel) ⟨Nat.le_of_ble_eq_true rfl, Nat.le_of_ble_eq_true rfl⟩) ⟨fun _ _ _ _ q => q, va_recv (q0 := 0) hKK.1 (wd_1 hW v_z) rfl rfl, fun _ hU hW1 => ⟨rfl, by rw [hU]; exact hW, hKK.go hS hU hW1, hKX.go hW1⟩⟩ rfl rfl hl.1 rfl (lv_room (Nat.le_of_ble_eq_true rfl)) dL_twin_4 ⟨Nat.le_of_ble_eq_true rfl, Nat.le_of_ble_eq_true rfl⟩) hS (fun q H locs ce hW hS hm1 hce hcv hcl => ?_)
  obtain ⟨en, eS⟩ := ee
  dsimp only at hn hW hm1 hcl ⊢
  subst hn
  refine vx_catch (own := RL) (name := "java/lang/IndexOutOfBoundsException") hown [] ⟨0, 9, 12, 21⟩ [] ht (fun z hz => by cases hz) rfl (Nat.succ_ne_zero _) (hts (.classLink RL 21 "java/lang/IndexOutOfBoundsException") (List.mem_of_getElem? (i := 1) rfl)) (va_Nw.use rfl (hKX.2.2 1)) hce hcv hcl ?_
  refine lv_astore_n (lv' := [(3, .ref q), (0, .ref (lo (10, 0, 0))), (1, .int i_1), (2, .ref qo)]) hx hb dL_twin_12 rfl hl (by decide) rfl (fun ls hl => ?_)
  refine lv_iconst (v := (1)) hx hb dL_twin_13 (by decide) ?_
  exact n_iret hx hb hr hlocks (Nat.le_of_ble_eq_true rfl) (Nat.le_of_ble_eq_true rfl) rfl rfl hW hS (fun _ _ => rfl) (fun d hd => (hm1 d).trans hd) trivial dL_twin_14

abbrev rmL_high : Room := { frames := 8, cells := 1, slots := 6, locals := 126 }
set_option maxHeartbeats 4000000 in
set_option maxRecDepth 100000 in
theorem tL_high (l : Launch) (Γ : zG) (lo : zId → Nat) (S : zSt) (Z : va_W) (qo : Nat) (O : Nat → Int64) {i_1 : Int32} {i_2 : Int32} (v_z : zV S (10, 0, 0) = true) {y : (Int32 × zSt)} (hf : fX9_high S i_1 i_2 = some (Sum.inr y)) : Met l yL_high wsL_high rmL_high (zPL Γ lo S (Z ++ [zOut Γ qo O]) [.ref (lo (10, 0, 0)), .int i_1, .int i_2, .ref qo]) (zQn Γ lo S y.2 (Z ++ [zOut Γ qo (vp_updL O 0 (y.1).toInt64)]) (fun _ => some (.int 0)) (fun _ => True)) 1 6 (zA Γ) := by
  refine va_MetW (cc := cL_high) (maxL := 5) (ret := (some .int)) (hh := [(0, 10, 13, 21), (0, 10, 17, 13)]) (by decide) rfl ?_
  intro p e s m args below meth c s₁ B hml hv
  obtain ⟨rfl, hW, hKK, hKX, hKY, hKN⟩ := hv
  have hx := B.exec
  have hb := B.bytes
  have hr := B.returns
  have hts := atoms_spec (ws := wsL_high) B.pre
  have ht : c.exceptionTable.toList = tableOf [(0, 10, 13, 21), (0, 10, 17, 13)] := vx_table (x := yL_high) B (hts _ (List.mem_of_getElem? (i := 0) rfl))
  have hown : s.vm.findClass RL = some m.cls := findClass_of_methodNamed B.named
  have hlocks := B.notSynchronized
  have hS : va_S (zA Γ) s.heap s.heap [] := va_S.rf
  have hl := lv_entry ([.ref (lo (10, 0, 0)), .int i_1, .int i_2, .ref qo]) (n := 5) (Nat.le_of_ble_eq_true rfl)
  rw [lg_entry_eq]
  generalize (lg_sl ([.ref (lo (10, 0, 0)), .int i_1, .int i_2, .ref qo]) ++ List.replicate (5 - (lg_sl ([.ref (lo (10, 0, 0)), .int i_1, .int i_2, .ref qo])).length) Slot.unset).toArray = ls at hl ⊢
  have hl : lv_has ls 5 [(0, .ref (lo (10, 0, 0))), (1, .int i_1), (2, .int i_2), (3, .ref qo)] := hl
  generalize ([.ref (lo (10, 0, 0)), .int i_1, .int i_2, .ref qo] : List Value).toArray = args at hts ⊢
  obtain ⟨H, hH0⟩ : ∃ H, H = s.heap := ⟨_, rfl⟩
  obtain ⟨locs, hlo0⟩ : ∃ L : List Loc, L = [] := ⟨_, rfl⟩
  have hS : va_S (zA Γ) s.heap H locs := by rw [hH0, hlo0]; exact hS
  have hW : Wd Γ lo S (Z ++ [zOut Γ qo O]) H := by rw [hH0]; exact hW
  rw [← hH0, ← hlo0]
  refine lv_aload_n hx hb dL_high_0 rfl (lv_at hl 3 rfl) ?_
  refine lv_iconst (v := (0)) hx hb dL_high_1 (by decide) ?_
  refine lv_aload_n hx hb dL_high_2 rfl (lv_at hl 0 rfl) ?_
  refine lv_iload_n hx hb dL_high_3 rfl (lv_at hl 1 rfl) ?_
  refine lv_iload_n hx hb dL_high_4 rfl (lv_at hl 2 rfl) ?_
  refine z_callV (As := [.int i_1, .int i_2]) (rest := [.int 0, .ref qo]) ⟨hx, hb, hml, hown, hts⟩ (tX9_high l Γ lo S (Z ++ [zOut Γ qo O]) v_z hf) (cwV 2 hts gL_high_X9_high rfl rfl rfl (by decide +kernel) ⟨Nat.le_of_ble_eq_true rfl, Nat.le_of_ble_eq_true rfl⟩) (wd_1 hW v_z) rfl hKK hW hS rfl hl.1 rfl (Nat.le_of_ble_eq_true rfl) dL_high_5 ⟨Nat.zero_le _, Nat.zero_le _⟩ (fun H locs hW hS hm1 hE => ?_)
  refine lv_i2l hx hb dL_high_8 rfl ?_
  refine x_out hx hb hKK.1 hW hS dL_high_9 (fun H locs hW hS => ?_)
  refine lv_goto (tgt := 21) hx hb dL_high_10 (by decide) ?_
  refine lv_iconst (v := (0)) hx hb dL_high_21 (by decide) ?_
  exact n_iret hx hb hr hlocks (Nat.le_of_ble_eq_true rfl) (Nat.le_of_ble_eq_true rfl) rfl rfl hW hS (fun _ _ => rfl) (fun d hd => (hm1 d).trans hd) trivial dL_high_22
set_option maxHeartbeats 4000000 in
set_option maxRecDepth 100000 in
theorem uL_high (l : Launch) (hl0 : l.stackTraces = false) (Γ : zG) (lo : zId → Nat) (S : zSt) (Z : va_W) (qo : Nat) (O : Nat → Int64) {i_1 : Int32} {i_2 : Int32} (v_z : zV S (10, 0, 0) = true) {ee : Nat × zSt} (hf : fX9_high S i_1 i_2 = some (Sum.inl ee)) (hn : ee.1 = 1 ∨ ee.1 = 2) : Met l yL_high wsL_high rmL_high (zPL Γ lo S (Z ++ [zOut Γ qo O]) [.ref (lo (10, 0, 0)), .int i_1, .int i_2, .ref qo]) (zQn Γ lo S ee.2 (Z ++ [zOut Γ qo O]) (fun _ => some (.int (kL [1, 2] ee.1))) (fun _ => True)) 1 6 (zA Γ) := by
  refine va_MetW (cc := cL_high) (maxL := 5) (ret := (some .int)) (hh := [(0, 10, 13, 21), (0, 10, 17, 13)]) (by decide) rfl ?_
  intro p e s m args below meth c s₁ B hml hv
  obtain ⟨rfl, hW, hKK, hKX, hKY, hKN⟩ := hv
  have hx := B.exec
  have hb := B.bytes
  have hr := B.returns
  have hts := atoms_spec (ws := wsL_high) B.pre
  have ht : c.exceptionTable.toList = tableOf [(0, 10, 13, 21), (0, 10, 17, 13)] := vx_table (x := yL_high) B (hts _ (List.mem_of_getElem? (i := 0) rfl))
  have hown : s.vm.findClass RL = some m.cls := findClass_of_methodNamed B.named
  have hlocks := B.notSynchronized
  have hS : va_S (zA Γ) s.heap s.heap [] := va_S.rf
  have hl := lv_entry ([.ref (lo (10, 0, 0)), .int i_1, .int i_2, .ref qo]) (n := 5) (Nat.le_of_ble_eq_true rfl)
  rw [lg_entry_eq]
  generalize (lg_sl ([.ref (lo (10, 0, 0)), .int i_1, .int i_2, .ref qo]) ++ List.replicate (5 - (lg_sl ([.ref (lo (10, 0, 0)), .int i_1, .int i_2, .ref qo])).length) Slot.unset).toArray = ls at hl ⊢
  have hl : lv_has ls 5 [(0, .ref (lo (10, 0, 0))), (1, .int i_1), (2, .int i_2), (3, .ref qo)] := hl
  generalize ([.ref (lo (10, 0, 0)), .int i_1, .int i_2, .ref qo] : List Value).toArray = args at hts ⊢
  obtain ⟨H, hH0⟩ : ∃ H, H = s.heap := ⟨_, rfl⟩
  obtain ⟨locs, hlo0⟩ : ∃ L : List Loc, L = [] := ⟨_, rfl⟩
  have hS : va_S (zA Γ) s.heap H locs := by rw [hH0, hlo0]; exact hS
  have hW : Wd Γ lo S (Z ++ [zOut Γ qo O]) H := by rw [hH0]; exact hW
  rw [← hH0, ← hlo0]
  refine lv_aload_n hx hb dL_high_0 rfl (lv_at hl 3 rfl) ?_
  refine lv_iconst (v := (0)) hx hb dL_high_1 (by decide) ?_
  refine lv_aload_n hx hb dL_high_2 rfl (lv_at hl 0 rfl) ?_
  refine lv_iload_n hx hb dL_high_3 rfl (lv_at hl 1 rfl) ?_
  refine lv_iload_n hx hb dL_high_4 rfl (lv_at hl 2 rfl) ?_
  refine l_thr (rest := [.int 0, .ref qo]) (vx_runV (As := [.int i_1, .int i_2]) ⟨hx, hb, hml, hown, hts⟩ (uX9_high l hl0 Γ lo S (Z ++ [zOut Γ qo O]) v_z hf) (cwV 2 hts gL_high_X9_high rfl rfl rfl (by decide +kernel) ⟨Nat.le_of_ble_eq_true rfl, Nat.le_of_ble_eq_true rfl⟩) ⟨fun _ _ _ _ q => q, va_recv (q0 := 0) hKK.1 (wd_1 hW v_z) rfl rfl, fun _ hU hW1 => ⟨rfl, by rw [hU]; exact hW, hKK.go hS hU hW1, hKX.go hW1⟩⟩ rfl rfl hl.1 rfl (lv_room (Nat.le_of_ble_eq_true rfl)) dL_high_5 ⟨Nat.le_of_ble_eq_true rfl, Nat.le_of_ble_eq_true rfl⟩) hS (fun q H locs ce hW hS hm1 hce hcv hcl => ?_)
  obtain ⟨en, eS⟩ := ee
  dsimp only at hn hW hm1 hcl ⊢
  rcases hn with rfl | rfl
  · refine vx_catch (own := RL) (name := "java/lang/IndexOutOfBoundsException") hown [] ⟨0, 10, 13, 21⟩ [⟨0, 10, 17, 13⟩] ht (fun z hz => by cases hz) rfl (Nat.succ_ne_zero _) (hts (.classLink RL 21 "java/lang/IndexOutOfBoundsException") (List.mem_of_getElem? (i := 1) rfl)) (va_Nw.use rfl (hKX.2.2 1)) hce hcv hcl ?_
    refine lv_astore (lv' := [(4, .ref q), (0, .ref (lo (10, 0, 0))), (1, .int i_1), (2, .int i_2), (3, .ref qo)]) hx hb dL_high_13 hl (by decide) rfl (fun ls hl => ?_)
    refine lv_iconst (v := (1)) hx hb dL_high_15 (by decide) ?_
    exact n_iret hx hb hr hlocks (Nat.le_of_ble_eq_true rfl) (Nat.le_of_ble_eq_true rfl) rfl rfl hW hS (fun _ _ => rfl) (fun d hd => (hm1 d).trans hd) trivial dL_high_16
  · refine vx_catch (own := RL) (name := "java/lang/IllegalArgumentException") hown [⟨0, 10, 13, 21⟩] ⟨0, 10, 17, 13⟩ [] ht (fun z hz => by cases hz with | head => exact Or.inr ⟨Nat.succ_ne_zero _, _, (hts (.classLink RL 21 "java/lang/IndexOutOfBoundsException") (List.mem_of_getElem? (i := 1) rfl)), hKN _ (List.mem_of_getElem? (i := 0) rfl)⟩ | tail _ hz => cases hz) rfl (Nat.succ_ne_zero _) (hts (.classLink RL 13 "java/lang/IllegalArgumentException") (List.mem_of_getElem? (i := 2) rfl)) (va_Nw.use rfl (hKX.2.2 2)) hce hcv hcl ?_
    refine lv_astore (lv' := [(4, .ref q), (0, .ref (lo (10, 0, 0))), (1, .int i_1), (2, .int i_2), (3, .ref qo)]) hx hb dL_high_17 hl (by decide) rfl (fun ls hl => ?_)
    refine lv_iconst (v := (2)) hx hb dL_high_19 (by decide) ?_
    exact n_iret hx hb hr hlocks (Nat.le_of_ble_eq_true rfl) (Nat.le_of_ble_eq_true rfl) rfl rfl hW hS (fun _ _ => rfl) (fun d hd => (hm1 d).trans hd) trivial dL_high_20

abbrev rmL_rob : Room := { frames := 8, cells := 1, slots := 6, locals := 127 }
set_option maxHeartbeats 4000000 in
set_option maxRecDepth 100000 in
theorem tL_rob (l : Launch) (Γ : zG) (lo : zId → Nat) (S : zSt) (Z : va_W) (qo : Nat) (O : Nat → Int64) {i_1 : Int32} {i_2 : Int32} (v_z : zV S (10, 0, 0) = true) {y : (Int32 × zSt)} (hf : fX9_rob S i_1 i_2 = some (Sum.inr y)) : Met l yL_rob wsL_rob rmL_rob (zPL Γ lo S (Z ++ [zOut Γ qo O]) [.ref (lo (10, 0, 0)), .int i_1, .int i_2, .ref qo]) (zQn Γ lo S y.2 (Z ++ [zOut Γ qo (vp_updL O 0 (y.1).toInt64)]) (fun _ => some (.int 0)) (fun _ => True)) 1 6 (zA Γ) := by
  refine va_MetW (cc := cL_rob) (maxL := 5) (ret := (some .int)) (hh := [(0, 10, 13, 21), (0, 10, 17, 13), (0, 10, 21, 15)]) (by decide) rfl ?_
  intro p e s m args below meth c s₁ B hml hv
  obtain ⟨rfl, hW, hKK, hKX, hKY, hKN⟩ := hv
  have hx := B.exec
  have hb := B.bytes
  have hr := B.returns
  have hts := atoms_spec (ws := wsL_rob) B.pre
  have ht : c.exceptionTable.toList = tableOf [(0, 10, 13, 21), (0, 10, 17, 13), (0, 10, 21, 15)] := vx_table (x := yL_rob) B (hts _ (List.mem_of_getElem? (i := 0) rfl))
  have hown : s.vm.findClass RL = some m.cls := findClass_of_methodNamed B.named
  have hlocks := B.notSynchronized
  have hS : va_S (zA Γ) s.heap s.heap [] := va_S.rf
  have hl := lv_entry ([.ref (lo (10, 0, 0)), .int i_1, .int i_2, .ref qo]) (n := 5) (Nat.le_of_ble_eq_true rfl)
  rw [lg_entry_eq]
  generalize (lg_sl ([.ref (lo (10, 0, 0)), .int i_1, .int i_2, .ref qo]) ++ List.replicate (5 - (lg_sl ([.ref (lo (10, 0, 0)), .int i_1, .int i_2, .ref qo])).length) Slot.unset).toArray = ls at hl ⊢
  have hl : lv_has ls 5 [(0, .ref (lo (10, 0, 0))), (1, .int i_1), (2, .int i_2), (3, .ref qo)] := hl
  generalize ([.ref (lo (10, 0, 0)), .int i_1, .int i_2, .ref qo] : List Value).toArray = args at hts ⊢
  obtain ⟨H, hH0⟩ : ∃ H, H = s.heap := ⟨_, rfl⟩
  obtain ⟨locs, hlo0⟩ : ∃ L : List Loc, L = [] := ⟨_, rfl⟩
  have hS : va_S (zA Γ) s.heap H locs := by rw [hH0, hlo0]; exact hS
  have hW : Wd Γ lo S (Z ++ [zOut Γ qo O]) H := by rw [hH0]; exact hW
  rw [← hH0, ← hlo0]
  refine lv_aload_n hx hb dL_rob_0 rfl (lv_at hl 3 rfl) ?_
  refine lv_iconst (v := (0)) hx hb dL_rob_1 (by decide) ?_
  refine lv_aload_n hx hb dL_rob_2 rfl (lv_at hl 0 rfl) ?_
  refine lv_iload_n hx hb dL_rob_3 rfl (lv_at hl 1 rfl) ?_
  refine lv_iload_n hx hb dL_rob_4 rfl (lv_at hl 2 rfl) ?_
  refine z_callV (As := [.int i_1, .int i_2]) (rest := [.int 0, .ref qo]) ⟨hx, hb, hml, hown, hts⟩ (tX9_rob l Γ lo S (Z ++ [zOut Γ qo O]) v_z hf) (cwV 2 hts gL_rob_X9_rob rfl rfl rfl (by decide +kernel) ⟨Nat.le_of_ble_eq_true rfl, Nat.le_of_ble_eq_true rfl⟩) (wd_1 hW v_z) rfl hKK hW hS rfl hl.1 rfl (Nat.le_of_ble_eq_true rfl) dL_rob_5 ⟨Nat.zero_le _, Nat.zero_le _⟩ (fun H locs hW hS hm1 hE => ?_)
  refine lv_i2l hx hb dL_rob_8 rfl ?_
  refine x_out hx hb hKK.1 hW hS dL_rob_9 (fun H locs hW hS => ?_)
  refine lv_goto (tgt := 25) hx hb dL_rob_10 (by decide) ?_
  refine lv_iconst (v := (0)) hx hb dL_rob_25 (by decide) ?_
  exact n_iret hx hb hr hlocks (Nat.le_of_ble_eq_true rfl) (Nat.le_of_ble_eq_true rfl) rfl rfl hW hS (fun _ _ => rfl) (fun d hd => (hm1 d).trans hd) trivial dL_rob_26
set_option maxHeartbeats 4000000 in
set_option maxRecDepth 100000 in
theorem uL_rob (l : Launch) (hl0 : l.stackTraces = false) (Γ : zG) (lo : zId → Nat) (S : zSt) (Z : va_W) (qo : Nat) (O : Nat → Int64) {i_1 : Int32} {i_2 : Int32} (v_z : zV S (10, 0, 0) = true) {ee : Nat × zSt} (hf : fX9_rob S i_1 i_2 = some (Sum.inl ee)) (hn : ee.1 = 1 ∨ ee.1 = 2 ∨ ee.1 = 3) : Met l yL_rob wsL_rob rmL_rob (zPL Γ lo S (Z ++ [zOut Γ qo O]) [.ref (lo (10, 0, 0)), .int i_1, .int i_2, .ref qo]) (zQn Γ lo S ee.2 (Z ++ [zOut Γ qo O]) (fun _ => some (.int (kL [1, 2, 3] ee.1))) (fun _ => True)) 1 6 (zA Γ) := by
  refine va_MetW (cc := cL_rob) (maxL := 5) (ret := (some .int)) (hh := [(0, 10, 13, 21), (0, 10, 17, 13), (0, 10, 21, 15)]) (by decide) rfl ?_
  intro p e s m args below meth c s₁ B hml hv
  obtain ⟨rfl, hW, hKK, hKX, hKY, hKN⟩ := hv
  have hx := B.exec
  have hb := B.bytes
  have hr := B.returns
  have hts := atoms_spec (ws := wsL_rob) B.pre
  have ht : c.exceptionTable.toList = tableOf [(0, 10, 13, 21), (0, 10, 17, 13), (0, 10, 21, 15)] := vx_table (x := yL_rob) B (hts _ (List.mem_of_getElem? (i := 0) rfl))
  have hown : s.vm.findClass RL = some m.cls := findClass_of_methodNamed B.named
  have hlocks := B.notSynchronized
  have hS : va_S (zA Γ) s.heap s.heap [] := va_S.rf
  have hl := lv_entry ([.ref (lo (10, 0, 0)), .int i_1, .int i_2, .ref qo]) (n := 5) (Nat.le_of_ble_eq_true rfl)
  rw [lg_entry_eq]
  generalize (lg_sl ([.ref (lo (10, 0, 0)), .int i_1, .int i_2, .ref qo]) ++ List.replicate (5 - (lg_sl ([.ref (lo (10, 0, 0)), .int i_1, .int i_2, .ref qo])).length) Slot.unset).toArray = ls at hl ⊢
  have hl : lv_has ls 5 [(0, .ref (lo (10, 0, 0))), (1, .int i_1), (2, .int i_2), (3, .ref qo)] := hl
  generalize ([.ref (lo (10, 0, 0)), .int i_1, .int i_2, .ref qo] : List Value).toArray = args at hts ⊢
  obtain ⟨H, hH0⟩ : ∃ H, H = s.heap := ⟨_, rfl⟩
  obtain ⟨locs, hlo0⟩ : ∃ L : List Loc, L = [] := ⟨_, rfl⟩
  have hS : va_S (zA Γ) s.heap H locs := by rw [hH0, hlo0]; exact hS
  have hW : Wd Γ lo S (Z ++ [zOut Γ qo O]) H := by rw [hH0]; exact hW
  rw [← hH0, ← hlo0]
  refine lv_aload_n hx hb dL_rob_0 rfl (lv_at hl 3 rfl) ?_
  refine lv_iconst (v := (0)) hx hb dL_rob_1 (by decide) ?_
  refine lv_aload_n hx hb dL_rob_2 rfl (lv_at hl 0 rfl) ?_
  refine lv_iload_n hx hb dL_rob_3 rfl (lv_at hl 1 rfl) ?_
  refine lv_iload_n hx hb dL_rob_4 rfl (lv_at hl 2 rfl) ?_
  refine l_thr (rest := [.int 0, .ref qo]) (vx_runV (As := [.int i_1, .int i_2]) ⟨hx, hb, hml, hown, hts⟩ (uX9_rob l hl0 Γ lo S (Z ++ [zOut Γ qo O]) v_z hf) (cwV 2 hts gL_rob_X9_rob rfl rfl rfl (by decide +kernel) ⟨Nat.le_of_ble_eq_true rfl, Nat.le_of_ble_eq_true rfl⟩) ⟨fun _ _ _ _ q => q, va_recv (q0 := 0) hKK.1 (wd_1 hW v_z) rfl rfl, fun _ hU hW1 => ⟨rfl, by rw [hU]; exact hW, hKK.go hS hU hW1, hKX.go hW1⟩⟩ rfl rfl hl.1 rfl (lv_room (Nat.le_of_ble_eq_true rfl)) dL_rob_5 ⟨Nat.le_of_ble_eq_true rfl, Nat.le_of_ble_eq_true rfl⟩) hS (fun q H locs ce hW hS hm1 hce hcv hcl => ?_)
  obtain ⟨en, eS⟩ := ee
  dsimp only at hn hW hm1 hcl ⊢
  rcases hn with rfl | rfl | rfl
  · refine vx_catch (own := RL) (name := "java/lang/IndexOutOfBoundsException") hown [] ⟨0, 10, 13, 21⟩ [⟨0, 10, 17, 13⟩, ⟨0, 10, 21, 15⟩] ht (fun z hz => by cases hz) rfl (Nat.succ_ne_zero _) (hts (.classLink RL 21 "java/lang/IndexOutOfBoundsException") (List.mem_of_getElem? (i := 1) rfl)) (va_Nw.use rfl (hKX.2.2 1)) hce hcv hcl ?_
    refine lv_astore (lv' := [(4, .ref q), (0, .ref (lo (10, 0, 0))), (1, .int i_1), (2, .int i_2), (3, .ref qo)]) hx hb dL_rob_13 hl (by decide) rfl (fun ls hl => ?_)
    refine lv_iconst (v := (1)) hx hb dL_rob_15 (by decide) ?_
    exact n_iret hx hb hr hlocks (Nat.le_of_ble_eq_true rfl) (Nat.le_of_ble_eq_true rfl) rfl rfl hW hS (fun _ _ => rfl) (fun d hd => (hm1 d).trans hd) trivial dL_rob_16
  · refine vx_catch (own := RL) (name := "java/lang/IllegalArgumentException") hown [⟨0, 10, 13, 21⟩] ⟨0, 10, 17, 13⟩ [⟨0, 10, 21, 15⟩] ht (fun z hz => by cases hz with | head => exact Or.inr ⟨Nat.succ_ne_zero _, _, (hts (.classLink RL 21 "java/lang/IndexOutOfBoundsException") (List.mem_of_getElem? (i := 1) rfl)), hKN _ (List.mem_of_getElem? (i := 0) rfl)⟩ | tail _ hz => cases hz) rfl (Nat.succ_ne_zero _) (hts (.classLink RL 13 "java/lang/IllegalArgumentException") (List.mem_of_getElem? (i := 2) rfl)) (va_Nw.use rfl (hKX.2.2 2)) hce hcv hcl ?_
    refine lv_astore (lv' := [(4, .ref q), (0, .ref (lo (10, 0, 0))), (1, .int i_1), (2, .int i_2), (3, .ref qo)]) hx hb dL_rob_17 hl (by decide) rfl (fun ls hl => ?_)
    refine lv_iconst (v := (2)) hx hb dL_rob_19 (by decide) ?_
    exact n_iret hx hb hr hlocks (Nat.le_of_ble_eq_true rfl) (Nat.le_of_ble_eq_true rfl) rfl rfl hW hS (fun _ _ => rfl) (fun d hd => (hm1 d).trans hd) trivial dL_rob_20
  · refine vx_catch (own := RL) (name := "java/lang/IllegalStateException") hown [⟨0, 10, 13, 21⟩, ⟨0, 10, 17, 13⟩] ⟨0, 10, 21, 15⟩ [] ht (fun z hz => by cases hz with | head => exact Or.inr ⟨Nat.succ_ne_zero _, _, (hts (.classLink RL 21 "java/lang/IndexOutOfBoundsException") (List.mem_of_getElem? (i := 1) rfl)), hKN _ (List.mem_of_getElem? (i := 1) rfl)⟩ | tail _ hz => cases hz with | head => exact Or.inr ⟨Nat.succ_ne_zero _, _, (hts (.classLink RL 13 "java/lang/IllegalArgumentException") (List.mem_of_getElem? (i := 2) rfl)), hKN _ (List.mem_of_getElem? (i := 2) rfl)⟩ | tail _ hz => cases hz) rfl (Nat.succ_ne_zero _) (hts (.classLink RL 15 "java/lang/IllegalStateException") (List.mem_of_getElem? (i := 3) rfl)) (va_Nw.use rfl (hKX.2.2 3)) hce hcv hcl ?_
    refine lv_astore (lv' := [(4, .ref q), (0, .ref (lo (10, 0, 0))), (1, .int i_1), (2, .int i_2), (3, .ref qo)]) hx hb dL_rob_21 hl (by decide) rfl (fun ls hl => ?_)
    refine lv_iconst (v := (3)) hx hb dL_rob_23 (by decide) ?_
    exact n_iret hx hb hr hlocks (Nat.le_of_ble_eq_true rfl) (Nat.le_of_ble_eq_true rfl) rfl rfl hW hS (fun _ _ => rfl) (fun d hd => (hm1 d).trans hd) trivial dL_rob_24

abbrev rmL_box : Room := { frames := 8, cells := 1, slots := 6, locals := 124 }
set_option maxHeartbeats 4000000 in
set_option maxRecDepth 100000 in
theorem tL_box (l : Launch) (Γ : zG) (lo : zId → Nat) (S : zSt) (Z : va_W) (qo : Nat) (O : Nat → Int64) {i_1 : Int32} (v_z : zV S (10, 0, 0) = true) {y : Int32} (hf : fX9_box S i_1 = some (Sum.inr y)) : Met l yL_box wsL_box rmL_box (zPL Γ lo S (Z ++ [zOut Γ qo O]) [.ref (lo (10, 0, 0)), .int i_1, .ref qo]) (zQn Γ lo S S (Z ++ [zOut Γ qo (vp_updL O 0 (y).toInt64)]) (fun _ => some (.int 0)) (fun _ => True)) 1 6 (zA Γ) := by
  refine va_MetW (cc := cL_box) (maxL := 4) (ret := (some .int)) (hh := [(0, 9, 12, 21)]) (by decide) rfl ?_
  intro p e s m args below meth c s₁ B hml hv
  obtain ⟨rfl, hW, hKK, hKX, hKY, hKN⟩ := hv
  have hx := B.exec
  have hb := B.bytes
  have hr := B.returns
  have hts := atoms_spec (ws := wsL_box) B.pre
  have ht : c.exceptionTable.toList = tableOf [(0, 9, 12, 21)] := vx_table (x := yL_box) B (hts _ (List.mem_of_getElem? (i := 0) rfl))
  have hown : s.vm.findClass RL = some m.cls := findClass_of_methodNamed B.named
  have hlocks := B.notSynchronized
  have hS : va_S (zA Γ) s.heap s.heap [] := va_S.rf
  have hl := lv_entry ([.ref (lo (10, 0, 0)), .int i_1, .ref qo]) (n := 4) (Nat.le_of_ble_eq_true rfl)
  rw [lg_entry_eq]
  generalize (lg_sl ([.ref (lo (10, 0, 0)), .int i_1, .ref qo]) ++ List.replicate (4 - (lg_sl ([.ref (lo (10, 0, 0)), .int i_1, .ref qo])).length) Slot.unset).toArray = ls at hl ⊢
  have hl : lv_has ls 4 [(0, .ref (lo (10, 0, 0))), (1, .int i_1), (2, .ref qo)] := hl
  generalize ([.ref (lo (10, 0, 0)), .int i_1, .ref qo] : List Value).toArray = args at hts ⊢
  obtain ⟨H, hH0⟩ : ∃ H, H = s.heap := ⟨_, rfl⟩
  obtain ⟨locs, hlo0⟩ : ∃ L : List Loc, L = [] := ⟨_, rfl⟩
  have hS : va_S (zA Γ) s.heap H locs := by rw [hH0, hlo0]; exact hS
  have hW : Wd Γ lo S (Z ++ [zOut Γ qo O]) H := by rw [hH0]; exact hW
  rw [← hH0, ← hlo0]
  refine lv_aload_n hx hb dL_box_0 rfl (lv_at hl 2 rfl) ?_
  refine lv_iconst (v := (0)) hx hb dL_box_1 (by decide) ?_
  refine lv_aload_n hx hb dL_box_2 rfl (lv_at hl 0 rfl) ?_
  refine lv_iload_n hx hb dL_box_3 rfl (lv_at hl 1 rfl) ?_
  refine z_callV (As := [.int i_1]) (rest := [.int 0, .ref qo]) ⟨hx, hb, hml, hown, hts⟩ (tX9_box l Γ lo S (Z ++ [zOut Γ qo O]) v_z hf) (cwV 1 hts gL_box_X9_box rfl rfl rfl (by decide +kernel) ⟨Nat.le_of_ble_eq_true rfl, Nat.le_of_ble_eq_true rfl⟩) (wd_1 hW v_z) rfl hKK hW hS rfl hl.1 rfl (Nat.le_of_ble_eq_true rfl) dL_box_4 ⟨Nat.zero_le _, Nat.zero_le _⟩ (fun H locs hW hS hm1 hE => ?_)
  refine lv_i2l hx hb dL_box_7 rfl ?_
  refine x_out hx hb hKK.1 hW hS dL_box_8 (fun H locs hW hS => ?_)
  refine lv_goto (tgt := 15) hx hb dL_box_9 (by decide) ?_
  refine lv_iconst (v := (0)) hx hb dL_box_15 (by decide) ?_
  exact n_iret hx hb hr hlocks (Nat.le_of_ble_eq_true rfl) (Nat.le_of_ble_eq_true rfl) rfl rfl hW hS (fun _ _ => rfl) (fun d hd => (hm1 d).trans hd) trivial dL_box_16
set_option maxHeartbeats 4000000 in
set_option maxRecDepth 100000 in
theorem uL_box (l : Launch) (hl0 : l.stackTraces = false) (Γ : zG) (lo : zId → Nat) (S : zSt) (Z : va_W) (qo : Nat) (O : Nat → Int64) {i_1 : Int32} (v_z : zV S (10, 0, 0) = true) {ee : Nat × zSt} (hf : fX9_box S i_1 = some (Sum.inl ee)) (hn : ee.1 = 1) : Met l yL_box wsL_box rmL_box (zPL Γ lo S (Z ++ [zOut Γ qo O]) [.ref (lo (10, 0, 0)), .int i_1, .ref qo]) (zQn Γ lo S ee.2 (Z ++ [zOut Γ qo O]) (fun _ => some (.int (kL [1] ee.1))) (fun _ => True)) 1 6 (zA Γ) := by
  refine va_MetW (cc := cL_box) (maxL := 4) (ret := (some .int)) (hh := [(0, 9, 12, 21)]) (by decide) rfl ?_
  intro p e s m args below meth c s₁ B hml hv
  obtain ⟨rfl, hW, hKK, hKX, hKY, hKN⟩ := hv
  have hx := B.exec
  have hb := B.bytes
  have hr := B.returns
  have hts := atoms_spec (ws := wsL_box) B.pre
  have ht : c.exceptionTable.toList = tableOf [(0, 9, 12, 21)] := vx_table (x := yL_box) B (hts _ (List.mem_of_getElem? (i := 0) rfl))
  have hown : s.vm.findClass RL = some m.cls := findClass_of_methodNamed B.named
  have hlocks := B.notSynchronized
  have hS : va_S (zA Γ) s.heap s.heap [] := va_S.rf
  have hl := lv_entry ([.ref (lo (10, 0, 0)), .int i_1, .ref qo]) (n := 4) (Nat.le_of_ble_eq_true rfl)
  rw [lg_entry_eq]
  generalize (lg_sl ([.ref (lo (10, 0, 0)), .int i_1, .ref qo]) ++ List.replicate (4 - (lg_sl ([.ref (lo (10, 0, 0)), .int i_1, .ref qo])).length) Slot.unset).toArray = ls at hl ⊢
  have hl : lv_has ls 4 [(0, .ref (lo (10, 0, 0))), (1, .int i_1), (2, .ref qo)] := hl
  generalize ([.ref (lo (10, 0, 0)), .int i_1, .ref qo] : List Value).toArray = args at hts ⊢
  obtain ⟨H, hH0⟩ : ∃ H, H = s.heap := ⟨_, rfl⟩
  obtain ⟨locs, hlo0⟩ : ∃ L : List Loc, L = [] := ⟨_, rfl⟩
  have hS : va_S (zA Γ) s.heap H locs := by rw [hH0, hlo0]; exact hS
  have hW : Wd Γ lo S (Z ++ [zOut Γ qo O]) H := by rw [hH0]; exact hW
  rw [← hH0, ← hlo0]
  refine lv_aload_n hx hb dL_box_0 rfl (lv_at hl 2 rfl) ?_
  refine lv_iconst (v := (0)) hx hb dL_box_1 (by decide) ?_
  refine lv_aload_n hx hb dL_box_2 rfl (lv_at hl 0 rfl) ?_
  refine lv_iload_n hx hb dL_box_3 rfl (lv_at hl 1 rfl) ?_
  refine l_thr (rest := [.int 0, .ref qo]) (vx_runV (As := [.int i_1]) ⟨hx, hb, hml, hown, hts⟩ (uX9_box l hl0 Γ lo S (Z ++ [zOut Γ qo O]) v_z hf) (cwV 1 hts gL_box_X9_box rfl rfl rfl (by decide +kernel) ⟨Nat.le_of_ble_eq_true rfl, Nat.le_of_ble_eq_true rfl⟩) ⟨fun _ _ _ _ q => q, va_recv (q0 := 0) hKK.1 (wd_1 hW v_z) rfl rfl, fun _ hU hW1 => ⟨rfl, by rw [hU]; exact hW, hKK.go hS hU hW1, hKX.go hW1⟩⟩ rfl rfl hl.1 rfl (lv_room (Nat.le_of_ble_eq_true rfl)) dL_box_4 ⟨Nat.le_of_ble_eq_true rfl, Nat.le_of_ble_eq_true rfl⟩) hS (fun q H locs ce hW hS hm1 hce hcv hcl => ?_)
  obtain ⟨en, eS⟩ := ee
  dsimp only at hn hW hm1 hcl ⊢
  subst hn
  refine vx_catch (own := RL) (name := "java/lang/IndexOutOfBoundsException") hown [] ⟨0, 9, 12, 21⟩ [] ht (fun z hz => by cases hz) rfl (Nat.succ_ne_zero _) (hts (.classLink RL 21 "java/lang/IndexOutOfBoundsException") (List.mem_of_getElem? (i := 1) rfl)) (va_Nw.use rfl (hKX.2.2 1)) hce hcv hcl ?_
  refine lv_astore_n (lv' := [(3, .ref q), (0, .ref (lo (10, 0, 0))), (1, .int i_1), (2, .ref qo)]) hx hb dL_box_12 rfl hl (by decide) rfl (fun ls hl => ?_)
  refine lv_iconst (v := (1)) hx hb dL_box_13 (by decide) ?_
  exact n_iret hx hb hr hlocks (Nat.le_of_ble_eq_true rfl) (Nat.le_of_ble_eq_true rfl) rfl rfl hW hS (fun _ _ => rfl) (fun d hd => (hm1 d).trans hd) trivial dL_box_14

abbrev rmL_missing : Room := { frames := 8, cells := 1, slots := 6, locals := 124 }
set_option maxHeartbeats 4000000 in
set_option maxRecDepth 100000 in
theorem tL_missing (l : Launch) (Γ : zG) (lo : zId → Nat) (S : zSt) (Z : va_W) (qo : Nat) (O : Nat → Int64) {i_1 : Int32} (v_z : zV S (10, 0, 0) = true) {y : Int32} (hf : fX9_missing S i_1 = some (Sum.inr y)) : Met l yL_missing wsL_missing rmL_missing (zPL Γ lo S (Z ++ [zOut Γ qo O]) [.ref (lo (10, 0, 0)), .int i_1, .ref qo]) (zQn Γ lo S S (Z ++ [zOut Γ qo (vp_updL O 0 (y).toInt64)]) (fun _ => some (.int 0)) (fun _ => True)) 1 6 (zA Γ) := by
  refine va_MetW (cc := cL_missing) (maxL := 4) (ret := (some .int)) (hh := [(0, 9, 12, 21)]) (by decide) rfl ?_
  intro p e s m args below meth c s₁ B hml hv
  obtain ⟨rfl, hW, hKK, hKX, hKY, hKN⟩ := hv
  have hx := B.exec
  have hb := B.bytes
  have hr := B.returns
  have hts := atoms_spec (ws := wsL_missing) B.pre
  have ht : c.exceptionTable.toList = tableOf [(0, 9, 12, 21)] := vx_table (x := yL_missing) B (hts _ (List.mem_of_getElem? (i := 0) rfl))
  have hown : s.vm.findClass RL = some m.cls := findClass_of_methodNamed B.named
  have hlocks := B.notSynchronized
  have hS : va_S (zA Γ) s.heap s.heap [] := va_S.rf
  have hl := lv_entry ([.ref (lo (10, 0, 0)), .int i_1, .ref qo]) (n := 4) (Nat.le_of_ble_eq_true rfl)
  rw [lg_entry_eq]
  generalize (lg_sl ([.ref (lo (10, 0, 0)), .int i_1, .ref qo]) ++ List.replicate (4 - (lg_sl ([.ref (lo (10, 0, 0)), .int i_1, .ref qo])).length) Slot.unset).toArray = ls at hl ⊢
  have hl : lv_has ls 4 [(0, .ref (lo (10, 0, 0))), (1, .int i_1), (2, .ref qo)] := hl
  generalize ([.ref (lo (10, 0, 0)), .int i_1, .ref qo] : List Value).toArray = args at hts ⊢
  obtain ⟨H, hH0⟩ : ∃ H, H = s.heap := ⟨_, rfl⟩
  obtain ⟨locs, hlo0⟩ : ∃ L : List Loc, L = [] := ⟨_, rfl⟩
  have hS : va_S (zA Γ) s.heap H locs := by rw [hH0, hlo0]; exact hS
  have hW : Wd Γ lo S (Z ++ [zOut Γ qo O]) H := by rw [hH0]; exact hW
  rw [← hH0, ← hlo0]
  refine lv_aload_n hx hb dL_missing_0 rfl (lv_at hl 2 rfl) ?_
  refine lv_iconst (v := (0)) hx hb dL_missing_1 (by decide) ?_
  refine lv_aload_n hx hb dL_missing_2 rfl (lv_at hl 0 rfl) ?_
  refine lv_iload_n hx hb dL_missing_3 rfl (lv_at hl 1 rfl) ?_
  refine z_callV (As := [.int i_1]) (rest := [.int 0, .ref qo]) ⟨hx, hb, hml, hown, hts⟩ (tX9_missing l Γ lo S (Z ++ [zOut Γ qo O]) v_z hf) (cwV 1 hts gL_missing_X9_missing rfl rfl rfl (by decide +kernel) ⟨Nat.le_of_ble_eq_true rfl, Nat.le_of_ble_eq_true rfl⟩) (wd_1 hW v_z) rfl hKK hW hS rfl hl.1 rfl (Nat.le_of_ble_eq_true rfl) dL_missing_4 ⟨Nat.zero_le _, Nat.zero_le _⟩ (fun H locs hW hS hm1 hE => ?_)
  refine lv_i2l hx hb dL_missing_7 rfl ?_
  refine x_out hx hb hKK.1 hW hS dL_missing_8 (fun H locs hW hS => ?_)
  refine lv_goto (tgt := 15) hx hb dL_missing_9 (by decide) ?_
  refine lv_iconst (v := (0)) hx hb dL_missing_15 (by decide) ?_
  exact n_iret hx hb hr hlocks (Nat.le_of_ble_eq_true rfl) (Nat.le_of_ble_eq_true rfl) rfl rfl hW hS (fun _ _ => rfl) (fun d hd => (hm1 d).trans hd) trivial dL_missing_16
set_option maxHeartbeats 4000000 in
set_option maxRecDepth 100000 in
theorem uL_missing (l : Launch) (hl0 : l.stackTraces = false) (Γ : zG) (lo : zId → Nat) (S : zSt) (Z : va_W) (qo : Nat) (O : Nat → Int64) {i_1 : Int32} (v_z : zV S (10, 0, 0) = true) {ee : Nat × zSt} (hf : fX9_missing S i_1 = some (Sum.inl ee)) (hn : ee.1 = 1) : Met l yL_missing wsL_missing rmL_missing (zPL Γ lo S (Z ++ [zOut Γ qo O]) [.ref (lo (10, 0, 0)), .int i_1, .ref qo]) (zQn Γ lo S ee.2 (Z ++ [zOut Γ qo O]) (fun _ => some (.int (kL [1] ee.1))) (fun _ => True)) 1 6 (zA Γ) := by
  refine va_MetW (cc := cL_missing) (maxL := 4) (ret := (some .int)) (hh := [(0, 9, 12, 21)]) (by decide) rfl ?_
  intro p e s m args below meth c s₁ B hml hv
  obtain ⟨rfl, hW, hKK, hKX, hKY, hKN⟩ := hv
  have hx := B.exec
  have hb := B.bytes
  have hr := B.returns
  have hts := atoms_spec (ws := wsL_missing) B.pre
  have ht : c.exceptionTable.toList = tableOf [(0, 9, 12, 21)] := vx_table (x := yL_missing) B (hts _ (List.mem_of_getElem? (i := 0) rfl))
  have hown : s.vm.findClass RL = some m.cls := findClass_of_methodNamed B.named
  have hlocks := B.notSynchronized
  have hS : va_S (zA Γ) s.heap s.heap [] := va_S.rf
  have hl := lv_entry ([.ref (lo (10, 0, 0)), .int i_1, .ref qo]) (n := 4) (Nat.le_of_ble_eq_true rfl)
  rw [lg_entry_eq]
  generalize (lg_sl ([.ref (lo (10, 0, 0)), .int i_1, .ref qo]) ++ List.replicate (4 - (lg_sl ([.ref (lo (10, 0, 0)), .int i_1, .ref qo])).length) Slot.unset).toArray = ls at hl ⊢
  have hl : lv_has ls 4 [(0, .ref (lo (10, 0, 0))), (1, .int i_1), (2, .ref qo)] := hl
  generalize ([.ref (lo (10, 0, 0)), .int i_1, .ref qo] : List Value).toArray = args at hts ⊢
  obtain ⟨H, hH0⟩ : ∃ H, H = s.heap := ⟨_, rfl⟩
  obtain ⟨locs, hlo0⟩ : ∃ L : List Loc, L = [] := ⟨_, rfl⟩
  have hS : va_S (zA Γ) s.heap H locs := by rw [hH0, hlo0]; exact hS
  have hW : Wd Γ lo S (Z ++ [zOut Γ qo O]) H := by rw [hH0]; exact hW
  rw [← hH0, ← hlo0]
  refine lv_aload_n hx hb dL_missing_0 rfl (lv_at hl 2 rfl) ?_
  refine lv_iconst (v := (0)) hx hb dL_missing_1 (by decide) ?_
  refine lv_aload_n hx hb dL_missing_2 rfl (lv_at hl 0 rfl) ?_
  refine lv_iload_n hx hb dL_missing_3 rfl (lv_at hl 1 rfl) ?_
  refine l_thr (rest := [.int 0, .ref qo]) (vx_runV (As := [.int i_1]) ⟨hx, hb, hml, hown, hts⟩ (uX9_missing l hl0 Γ lo S (Z ++ [zOut Γ qo O]) v_z hf) (cwV 1 hts gL_missing_X9_missing rfl rfl rfl (by decide +kernel) ⟨Nat.le_of_ble_eq_true rfl, Nat.le_of_ble_eq_true rfl⟩) ⟨fun _ _ _ _ q => q, va_recv (q0 := 0) hKK.1 (wd_1 hW v_z) rfl rfl, fun _ hU hW1 => ⟨rfl, by rw [hU]; exact hW, hKK.go hS hU hW1, hKX.go hW1⟩⟩ rfl rfl hl.1 rfl (lv_room (Nat.le_of_ble_eq_true rfl)) dL_missing_4 ⟨Nat.le_of_ble_eq_true rfl, Nat.le_of_ble_eq_true rfl⟩) hS (fun q H locs ce hW hS hm1 hce hcv hcl => ?_)
  obtain ⟨en, eS⟩ := ee
  dsimp only at hn hW hm1 hcl ⊢
  subst hn
  refine vx_catch (own := RL) (name := "java/lang/IndexOutOfBoundsException") hown [] ⟨0, 9, 12, 21⟩ [] ht (fun z hz => by cases hz) rfl (Nat.succ_ne_zero _) (hts (.classLink RL 21 "java/lang/IndexOutOfBoundsException") (List.mem_of_getElem? (i := 1) rfl)) (va_Nw.use rfl (hKX.2.2 1)) hce hcv hcl ?_
  refine lv_astore_n (lv' := [(3, .ref q), (0, .ref (lo (10, 0, 0))), (1, .int i_1), (2, .ref qo)]) hx hb dL_missing_12 rfl hl (by decide) rfl (fun ls hl => ?_)
  refine lv_iconst (v := (1)) hx hb dL_missing_13 (by decide) ?_
  exact n_iret hx hb hr hlocks (Nat.le_of_ble_eq_true rfl) (Nat.le_of_ble_eq_true rfl) rfl rfl hW hS (fun _ _ => rfl) (fun d hd => (hm1 d).trans hd) trivial dL_missing_14

abbrev rmL_load : Room := { frames := 8, cells := 1, slots := 6, locals := 128 }
set_option maxHeartbeats 4000000 in
set_option maxRecDepth 100000 in
theorem tL_load (l : Launch) (Γ : zG) (lo : zId → Nat) (S : zSt) (Z : va_W) (qo : Nat) (O : Nat → Int64) {i_1 : Int32} {i_2 : Int32} {i_3 : Int32} (v_z : zV S (10, 0, 0) = true) {y : (Int32 × zSt)} (hf : fX9_load S i_1 i_2 i_3 = some (Sum.inr y)) : Met l yL_load wsL_load rmL_load (zPL Γ lo S (Z ++ [zOut Γ qo O]) [.ref (lo (10, 0, 0)), .int i_1, .int i_2, .int i_3, .ref qo]) (zQn Γ lo S y.2 (Z ++ [zOut Γ qo (vp_updL O 0 (y.1).toInt64)]) (fun _ => some (.int 0)) (fun _ => True)) 1 6 (zA Γ) := by
  refine va_MetW (cc := cL_load) (maxL := 6) (ret := (some .int)) (hh := [(0, 12, 15, 21), (0, 12, 19, 13), (0, 12, 23, 15)]) (by decide) rfl ?_
  intro p e s m args below meth c s₁ B hml hv
  obtain ⟨rfl, hW, hKK, hKX, hKY, hKN⟩ := hv
  have hx := B.exec
  have hb := B.bytes
  have hr := B.returns
  have hts := atoms_spec (ws := wsL_load) B.pre
  have ht : c.exceptionTable.toList = tableOf [(0, 12, 15, 21), (0, 12, 19, 13), (0, 12, 23, 15)] := vx_table (x := yL_load) B (hts _ (List.mem_of_getElem? (i := 0) rfl))
  have hown : s.vm.findClass RL = some m.cls := findClass_of_methodNamed B.named
  have hlocks := B.notSynchronized
  have hS : va_S (zA Γ) s.heap s.heap [] := va_S.rf
  have hl := lv_entry ([.ref (lo (10, 0, 0)), .int i_1, .int i_2, .int i_3, .ref qo]) (n := 6) (Nat.le_of_ble_eq_true rfl)
  rw [lg_entry_eq]
  generalize (lg_sl ([.ref (lo (10, 0, 0)), .int i_1, .int i_2, .int i_3, .ref qo]) ++ List.replicate (6 - (lg_sl ([.ref (lo (10, 0, 0)), .int i_1, .int i_2, .int i_3, .ref qo])).length) Slot.unset).toArray = ls at hl ⊢
  have hl : lv_has ls 6 [(0, .ref (lo (10, 0, 0))), (1, .int i_1), (2, .int i_2), (3, .int i_3), (4, .ref qo)] := hl
  generalize ([.ref (lo (10, 0, 0)), .int i_1, .int i_2, .int i_3, .ref qo] : List Value).toArray = args at hts ⊢
  obtain ⟨H, hH0⟩ : ∃ H, H = s.heap := ⟨_, rfl⟩
  obtain ⟨locs, hlo0⟩ : ∃ L : List Loc, L = [] := ⟨_, rfl⟩
  have hS : va_S (zA Γ) s.heap H locs := by rw [hH0, hlo0]; exact hS
  have hW : Wd Γ lo S (Z ++ [zOut Γ qo O]) H := by rw [hH0]; exact hW
  rw [← hH0, ← hlo0]
  refine lv_aload hx hb dL_load_0 (lv_at hl 4 rfl) ?_
  refine lv_iconst (v := (0)) hx hb dL_load_2 (by decide) ?_
  refine lv_aload_n hx hb dL_load_3 rfl (lv_at hl 0 rfl) ?_
  refine lv_iload_n hx hb dL_load_4 rfl (lv_at hl 1 rfl) ?_
  refine lv_iload_n hx hb dL_load_5 rfl (lv_at hl 2 rfl) ?_
  refine lv_iload_n hx hb dL_load_6 rfl (lv_at hl 3 rfl) ?_
  refine z_callV (As := [.int i_1, .int i_2, .int i_3]) (rest := [.int 0, .ref qo]) ⟨hx, hb, hml, hown, hts⟩ (tX9_load l Γ lo S (Z ++ [zOut Γ qo O]) v_z hf) (cwV 3 hts gL_load_X9_load rfl rfl rfl (by decide +kernel) ⟨Nat.le_of_ble_eq_true rfl, Nat.le_of_ble_eq_true rfl⟩) (wd_1 hW v_z) rfl hKK hW hS rfl hl.1 rfl (Nat.le_of_ble_eq_true rfl) dL_load_7 ⟨Nat.zero_le _, Nat.zero_le _⟩ (fun H locs hW hS hm1 hE => ?_)
  refine lv_i2l hx hb dL_load_10 rfl ?_
  refine x_out hx hb hKK.1 hW hS dL_load_11 (fun H locs hW hS => ?_)
  refine lv_goto (tgt := 27) hx hb dL_load_12 (by decide) ?_
  refine lv_iconst (v := (0)) hx hb dL_load_27 (by decide) ?_
  exact n_iret hx hb hr hlocks (Nat.le_of_ble_eq_true rfl) (Nat.le_of_ble_eq_true rfl) rfl rfl hW hS (fun _ _ => rfl) (fun d hd => (hm1 d).trans hd) trivial dL_load_28
set_option maxHeartbeats 4000000 in
set_option maxRecDepth 100000 in
theorem uL_load (l : Launch) (hl0 : l.stackTraces = false) (Γ : zG) (lo : zId → Nat) (S : zSt) (Z : va_W) (qo : Nat) (O : Nat → Int64) {i_1 : Int32} {i_2 : Int32} {i_3 : Int32} (v_z : zV S (10, 0, 0) = true) {ee : Nat × zSt} (hf : fX9_load S i_1 i_2 i_3 = some (Sum.inl ee)) (hn : ee.1 = 1 ∨ ee.1 = 2 ∨ ee.1 = 3) : Met l yL_load wsL_load rmL_load (zPL Γ lo S (Z ++ [zOut Γ qo O]) [.ref (lo (10, 0, 0)), .int i_1, .int i_2, .int i_3, .ref qo]) (zQn Γ lo S ee.2 (Z ++ [zOut Γ qo O]) (fun _ => some (.int (kL [1, 2, 3] ee.1))) (fun _ => True)) 1 6 (zA Γ) := by
  refine va_MetW (cc := cL_load) (maxL := 6) (ret := (some .int)) (hh := [(0, 12, 15, 21), (0, 12, 19, 13), (0, 12, 23, 15)]) (by decide) rfl ?_
  intro p e s m args below meth c s₁ B hml hv
  obtain ⟨rfl, hW, hKK, hKX, hKY, hKN⟩ := hv
  have hx := B.exec
  have hb := B.bytes
  have hr := B.returns
  have hts := atoms_spec (ws := wsL_load) B.pre
  have ht : c.exceptionTable.toList = tableOf [(0, 12, 15, 21), (0, 12, 19, 13), (0, 12, 23, 15)] := vx_table (x := yL_load) B (hts _ (List.mem_of_getElem? (i := 0) rfl))
  have hown : s.vm.findClass RL = some m.cls := findClass_of_methodNamed B.named
  have hlocks := B.notSynchronized
  have hS : va_S (zA Γ) s.heap s.heap [] := va_S.rf
  have hl := lv_entry ([.ref (lo (10, 0, 0)), .int i_1, .int i_2, .int i_3, .ref qo]) (n := 6) (Nat.le_of_ble_eq_true rfl)
  rw [lg_entry_eq]
  generalize (lg_sl ([.ref (lo (10, 0, 0)), .int i_1, .int i_2, .int i_3, .ref qo]) ++ List.replicate (6 - (lg_sl ([.ref (lo (10, 0, 0)), .int i_1, .int i_2, .int i_3, .ref qo])).length) Slot.unset).toArray = ls at hl ⊢
  have hl : lv_has ls 6 [(0, .ref (lo (10, 0, 0))), (1, .int i_1), (2, .int i_2), (3, .int i_3), (4, .ref qo)] := hl
  generalize ([.ref (lo (10, 0, 0)), .int i_1, .int i_2, .int i_3, .ref qo] : List Value).toArray = args at hts ⊢
  obtain ⟨H, hH0⟩ : ∃ H, H = s.heap := ⟨_, rfl⟩
  obtain ⟨locs, hlo0⟩ : ∃ L : List Loc, L = [] := ⟨_, rfl⟩
  have hS : va_S (zA Γ) s.heap H locs := by rw [hH0, hlo0]; exact hS
  have hW : Wd Γ lo S (Z ++ [zOut Γ qo O]) H := by rw [hH0]; exact hW
  rw [← hH0, ← hlo0]
  refine lv_aload hx hb dL_load_0 (lv_at hl 4 rfl) ?_
  refine lv_iconst (v := (0)) hx hb dL_load_2 (by decide) ?_
  refine lv_aload_n hx hb dL_load_3 rfl (lv_at hl 0 rfl) ?_
  refine lv_iload_n hx hb dL_load_4 rfl (lv_at hl 1 rfl) ?_
  refine lv_iload_n hx hb dL_load_5 rfl (lv_at hl 2 rfl) ?_
  refine lv_iload_n hx hb dL_load_6 rfl (lv_at hl 3 rfl) ?_
  refine l_thr (rest := [.int 0, .ref qo]) (vx_runV (As := [.int i_1, .int i_2, .int i_3]) ⟨hx, hb, hml, hown, hts⟩ (uX9_load l hl0 Γ lo S (Z ++ [zOut Γ qo O]) v_z hf) (cwV 3 hts gL_load_X9_load rfl rfl rfl (by decide +kernel) ⟨Nat.le_of_ble_eq_true rfl, Nat.le_of_ble_eq_true rfl⟩) ⟨fun _ _ _ _ q => q, va_recv (q0 := 0) hKK.1 (wd_1 hW v_z) rfl rfl, fun _ hU hW1 => ⟨rfl, by rw [hU]; exact hW, hKK.go hS hU hW1, hKX.go hW1⟩⟩ rfl rfl hl.1 rfl (lv_room (Nat.le_of_ble_eq_true rfl)) dL_load_7 ⟨Nat.le_of_ble_eq_true rfl, Nat.le_of_ble_eq_true rfl⟩) hS (fun q H locs ce hW hS hm1 hce hcv hcl => ?_)
  obtain ⟨en, eS⟩ := ee
  dsimp only at hn hW hm1 hcl ⊢
  rcases hn with rfl | rfl | rfl
  · refine vx_catch (own := RL) (name := "java/lang/IndexOutOfBoundsException") hown [] ⟨0, 12, 15, 21⟩ [⟨0, 12, 19, 13⟩, ⟨0, 12, 23, 15⟩] ht (fun z hz => by cases hz) rfl (Nat.succ_ne_zero _) (hts (.classLink RL 21 "java/lang/IndexOutOfBoundsException") (List.mem_of_getElem? (i := 1) rfl)) (va_Nw.use rfl (hKX.2.2 1)) hce hcv hcl ?_
    refine lv_astore (lv' := [(5, .ref q), (0, .ref (lo (10, 0, 0))), (1, .int i_1), (2, .int i_2), (3, .int i_3), (4, .ref qo)]) hx hb dL_load_15 hl (by decide) rfl (fun ls hl => ?_)
    refine lv_iconst (v := (1)) hx hb dL_load_17 (by decide) ?_
    exact n_iret hx hb hr hlocks (Nat.le_of_ble_eq_true rfl) (Nat.le_of_ble_eq_true rfl) rfl rfl hW hS (fun _ _ => rfl) (fun d hd => (hm1 d).trans hd) trivial dL_load_18
  · refine vx_catch (own := RL) (name := "java/lang/IllegalArgumentException") hown [⟨0, 12, 15, 21⟩] ⟨0, 12, 19, 13⟩ [⟨0, 12, 23, 15⟩] ht (fun z hz => by cases hz with | head => exact Or.inr ⟨Nat.succ_ne_zero _, _, (hts (.classLink RL 21 "java/lang/IndexOutOfBoundsException") (List.mem_of_getElem? (i := 1) rfl)), hKN _ (List.mem_of_getElem? (i := 0) rfl)⟩ | tail _ hz => cases hz) rfl (Nat.succ_ne_zero _) (hts (.classLink RL 13 "java/lang/IllegalArgumentException") (List.mem_of_getElem? (i := 2) rfl)) (va_Nw.use rfl (hKX.2.2 2)) hce hcv hcl ?_
    refine lv_astore (lv' := [(5, .ref q), (0, .ref (lo (10, 0, 0))), (1, .int i_1), (2, .int i_2), (3, .int i_3), (4, .ref qo)]) hx hb dL_load_19 hl (by decide) rfl (fun ls hl => ?_)
    refine lv_iconst (v := (2)) hx hb dL_load_21 (by decide) ?_
    exact n_iret hx hb hr hlocks (Nat.le_of_ble_eq_true rfl) (Nat.le_of_ble_eq_true rfl) rfl rfl hW hS (fun _ _ => rfl) (fun d hd => (hm1 d).trans hd) trivial dL_load_22
  · refine vx_catch (own := RL) (name := "java/lang/IllegalStateException") hown [⟨0, 12, 15, 21⟩, ⟨0, 12, 19, 13⟩] ⟨0, 12, 23, 15⟩ [] ht (fun z hz => by cases hz with | head => exact Or.inr ⟨Nat.succ_ne_zero _, _, (hts (.classLink RL 21 "java/lang/IndexOutOfBoundsException") (List.mem_of_getElem? (i := 1) rfl)), hKN _ (List.mem_of_getElem? (i := 1) rfl)⟩ | tail _ hz => cases hz with | head => exact Or.inr ⟨Nat.succ_ne_zero _, _, (hts (.classLink RL 13 "java/lang/IllegalArgumentException") (List.mem_of_getElem? (i := 2) rfl)), hKN _ (List.mem_of_getElem? (i := 2) rfl)⟩ | tail _ hz => cases hz) rfl (Nat.succ_ne_zero _) (hts (.classLink RL 15 "java/lang/IllegalStateException") (List.mem_of_getElem? (i := 3) rfl)) (va_Nw.use rfl (hKX.2.2 3)) hce hcv hcl ?_
    refine lv_astore (lv' := [(5, .ref q), (0, .ref (lo (10, 0, 0))), (1, .int i_1), (2, .int i_2), (3, .int i_3), (4, .ref qo)]) hx hb dL_load_23 hl (by decide) rfl (fun ls hl => ?_)
    refine lv_iconst (v := (3)) hx hb dL_load_25 (by decide) ?_
    exact n_iret hx hb hr hlocks (Nat.le_of_ble_eq_true rfl) (Nat.le_of_ble_eq_true rfl) rfl rfl hW hS (fun _ _ => rfl) (fun d hd => (hm1 d).trans hd) trivial dL_load_26

abbrev rmL_parts : Room := { frames := 8, cells := 1, slots := 6, locals := 127 }
set_option maxHeartbeats 4000000 in
set_option maxRecDepth 100000 in
theorem tL_parts (l : Launch) (Γ : zG) (lo : zId → Nat) (S : zSt) (Z : va_W) (qo : Nat) (O : Nat → Int64) {i_1 : Int32} {i_2 : Int32} (v_z : zV S (10, 0, 0) = true) {y : Int32} (hf : fX9_parts S i_1 i_2 = some (Sum.inr y)) : Met l yL_parts wsL_parts rmL_parts (zPL Γ lo S (Z ++ [zOut Γ qo O]) [.ref (lo (10, 0, 0)), .int i_1, .int i_2, .ref qo]) (zQn Γ lo S S (Z ++ [zOut Γ qo (vp_updL O 0 (y).toInt64)]) (fun _ => some (.int 0)) (fun _ => True)) 1 6 (zA Γ) := by
  refine va_MetW (cc := cL_parts) (maxL := 5) (ret := (some .int)) (hh := [(0, 10, 13, 21), (0, 10, 17, 13)]) (by decide) rfl ?_
  intro p e s m args below meth c s₁ B hml hv
  obtain ⟨rfl, hW, hKK, hKX, hKY, hKN⟩ := hv
  have hx := B.exec
  have hb := B.bytes
  have hr := B.returns
  have hts := atoms_spec (ws := wsL_parts) B.pre
  have ht : c.exceptionTable.toList = tableOf [(0, 10, 13, 21), (0, 10, 17, 13)] := vx_table (x := yL_parts) B (hts _ (List.mem_of_getElem? (i := 0) rfl))
  have hown : s.vm.findClass RL = some m.cls := findClass_of_methodNamed B.named
  have hlocks := B.notSynchronized
  have hS : va_S (zA Γ) s.heap s.heap [] := va_S.rf
  have hl := lv_entry ([.ref (lo (10, 0, 0)), .int i_1, .int i_2, .ref qo]) (n := 5) (Nat.le_of_ble_eq_true rfl)
  rw [lg_entry_eq]
  generalize (lg_sl ([.ref (lo (10, 0, 0)), .int i_1, .int i_2, .ref qo]) ++ List.replicate (5 - (lg_sl ([.ref (lo (10, 0, 0)), .int i_1, .int i_2, .ref qo])).length) Slot.unset).toArray = ls at hl ⊢
  have hl : lv_has ls 5 [(0, .ref (lo (10, 0, 0))), (1, .int i_1), (2, .int i_2), (3, .ref qo)] := hl
  generalize ([.ref (lo (10, 0, 0)), .int i_1, .int i_2, .ref qo] : List Value).toArray = args at hts ⊢
  obtain ⟨H, hH0⟩ : ∃ H, H = s.heap := ⟨_, rfl⟩
  obtain ⟨locs, hlo0⟩ : ∃ L : List Loc, L = [] := ⟨_, rfl⟩
  have hS : va_S (zA Γ) s.heap H locs := by rw [hH0, hlo0]; exact hS
  have hW : Wd Γ lo S (Z ++ [zOut Γ qo O]) H := by rw [hH0]; exact hW
  rw [← hH0, ← hlo0]
  refine lv_aload_n hx hb dL_parts_0 rfl (lv_at hl 3 rfl) ?_
  refine lv_iconst (v := (0)) hx hb dL_parts_1 (by decide) ?_
  refine lv_aload_n hx hb dL_parts_2 rfl (lv_at hl 0 rfl) ?_
  refine lv_iload_n hx hb dL_parts_3 rfl (lv_at hl 1 rfl) ?_
  refine lv_iload_n hx hb dL_parts_4 rfl (lv_at hl 2 rfl) ?_
  refine z_callV (As := [.int i_1, .int i_2]) (rest := [.int 0, .ref qo]) ⟨hx, hb, hml, hown, hts⟩ (tX9_parts l Γ lo S (Z ++ [zOut Γ qo O]) v_z hf) (cwV 2 hts gL_parts_X9_parts rfl rfl rfl (by decide +kernel) ⟨Nat.le_of_ble_eq_true rfl, Nat.le_of_ble_eq_true rfl⟩) (wd_1 hW v_z) rfl hKK hW hS rfl hl.1 rfl (Nat.le_of_ble_eq_true rfl) dL_parts_5 ⟨Nat.zero_le _, Nat.zero_le _⟩ (fun H locs hW hS hm1 hE => ?_)
  refine lv_i2l hx hb dL_parts_8 rfl ?_
  refine x_out hx hb hKK.1 hW hS dL_parts_9 (fun H locs hW hS => ?_)
  refine lv_goto (tgt := 21) hx hb dL_parts_10 (by decide) ?_
  refine lv_iconst (v := (0)) hx hb dL_parts_21 (by decide) ?_
  exact n_iret hx hb hr hlocks (Nat.le_of_ble_eq_true rfl) (Nat.le_of_ble_eq_true rfl) rfl rfl hW hS (fun _ _ => rfl) (fun d hd => (hm1 d).trans hd) trivial dL_parts_22
set_option maxHeartbeats 4000000 in
set_option maxRecDepth 100000 in
theorem uL_parts (l : Launch) (hl0 : l.stackTraces = false) (Γ : zG) (lo : zId → Nat) (S : zSt) (Z : va_W) (qo : Nat) (O : Nat → Int64) {i_1 : Int32} {i_2 : Int32} (v_z : zV S (10, 0, 0) = true) {ee : Nat × zSt} (hf : fX9_parts S i_1 i_2 = some (Sum.inl ee)) (hn : ee.1 = 1 ∨ ee.1 = 2) : Met l yL_parts wsL_parts rmL_parts (zPL Γ lo S (Z ++ [zOut Γ qo O]) [.ref (lo (10, 0, 0)), .int i_1, .int i_2, .ref qo]) (zQn Γ lo S ee.2 (Z ++ [zOut Γ qo O]) (fun _ => some (.int (kL [1, 2] ee.1))) (fun _ => True)) 1 6 (zA Γ) := by
  refine va_MetW (cc := cL_parts) (maxL := 5) (ret := (some .int)) (hh := [(0, 10, 13, 21), (0, 10, 17, 13)]) (by decide) rfl ?_
  intro p e s m args below meth c s₁ B hml hv
  obtain ⟨rfl, hW, hKK, hKX, hKY, hKN⟩ := hv
  have hx := B.exec
  have hb := B.bytes
  have hr := B.returns
  have hts := atoms_spec (ws := wsL_parts) B.pre
  have ht : c.exceptionTable.toList = tableOf [(0, 10, 13, 21), (0, 10, 17, 13)] := vx_table (x := yL_parts) B (hts _ (List.mem_of_getElem? (i := 0) rfl))
  have hown : s.vm.findClass RL = some m.cls := findClass_of_methodNamed B.named
  have hlocks := B.notSynchronized
  have hS : va_S (zA Γ) s.heap s.heap [] := va_S.rf
  have hl := lv_entry ([.ref (lo (10, 0, 0)), .int i_1, .int i_2, .ref qo]) (n := 5) (Nat.le_of_ble_eq_true rfl)
  rw [lg_entry_eq]
  generalize (lg_sl ([.ref (lo (10, 0, 0)), .int i_1, .int i_2, .ref qo]) ++ List.replicate (5 - (lg_sl ([.ref (lo (10, 0, 0)), .int i_1, .int i_2, .ref qo])).length) Slot.unset).toArray = ls at hl ⊢
  have hl : lv_has ls 5 [(0, .ref (lo (10, 0, 0))), (1, .int i_1), (2, .int i_2), (3, .ref qo)] := hl
  generalize ([.ref (lo (10, 0, 0)), .int i_1, .int i_2, .ref qo] : List Value).toArray = args at hts ⊢
  obtain ⟨H, hH0⟩ : ∃ H, H = s.heap := ⟨_, rfl⟩
  obtain ⟨locs, hlo0⟩ : ∃ L : List Loc, L = [] := ⟨_, rfl⟩
  have hS : va_S (zA Γ) s.heap H locs := by rw [hH0, hlo0]; exact hS
  have hW : Wd Γ lo S (Z ++ [zOut Γ qo O]) H := by rw [hH0]; exact hW
  rw [← hH0, ← hlo0]
  refine lv_aload_n hx hb dL_parts_0 rfl (lv_at hl 3 rfl) ?_
  refine lv_iconst (v := (0)) hx hb dL_parts_1 (by decide) ?_
  refine lv_aload_n hx hb dL_parts_2 rfl (lv_at hl 0 rfl) ?_
  refine lv_iload_n hx hb dL_parts_3 rfl (lv_at hl 1 rfl) ?_
  refine lv_iload_n hx hb dL_parts_4 rfl (lv_at hl 2 rfl) ?_
  refine l_thr (rest := [.int 0, .ref qo]) (vx_runV (As := [.int i_1, .int i_2]) ⟨hx, hb, hml, hown, hts⟩ (uX9_parts l hl0 Γ lo S (Z ++ [zOut Γ qo O]) v_z hf) (cwV 2 hts gL_parts_X9_parts rfl rfl rfl (by decide +kernel) ⟨Nat.le_of_ble_eq_true rfl, Nat.le_of_ble_eq_true rfl⟩) ⟨fun _ _ _ _ q => q, va_recv (q0 := 0) hKK.1 (wd_1 hW v_z) rfl rfl, fun _ hU hW1 => ⟨rfl, by rw [hU]; exact hW, hKK.go hS hU hW1, hKX.go hW1⟩⟩ rfl rfl hl.1 rfl (lv_room (Nat.le_of_ble_eq_true rfl)) dL_parts_5 ⟨Nat.le_of_ble_eq_true rfl, Nat.le_of_ble_eq_true rfl⟩) hS (fun q H locs ce hW hS hm1 hce hcv hcl => ?_)
  obtain ⟨en, eS⟩ := ee
  dsimp only at hn hW hm1 hcl ⊢
  rcases hn with rfl | rfl
  · refine vx_catch (own := RL) (name := "java/lang/IndexOutOfBoundsException") hown [] ⟨0, 10, 13, 21⟩ [⟨0, 10, 17, 13⟩] ht (fun z hz => by cases hz) rfl (Nat.succ_ne_zero _) (hts (.classLink RL 21 "java/lang/IndexOutOfBoundsException") (List.mem_of_getElem? (i := 1) rfl)) (va_Nw.use rfl (hKX.2.2 1)) hce hcv hcl ?_
    refine lv_astore (lv' := [(4, .ref q), (0, .ref (lo (10, 0, 0))), (1, .int i_1), (2, .int i_2), (3, .ref qo)]) hx hb dL_parts_13 hl (by decide) rfl (fun ls hl => ?_)
    refine lv_iconst (v := (1)) hx hb dL_parts_15 (by decide) ?_
    exact n_iret hx hb hr hlocks (Nat.le_of_ble_eq_true rfl) (Nat.le_of_ble_eq_true rfl) rfl rfl hW hS (fun _ _ => rfl) (fun d hd => (hm1 d).trans hd) trivial dL_parts_16
  · refine vx_catch (own := RL) (name := "java/lang/IllegalArgumentException") hown [⟨0, 10, 13, 21⟩] ⟨0, 10, 17, 13⟩ [] ht (fun z hz => by cases hz with | head => exact Or.inr ⟨Nat.succ_ne_zero _, _, (hts (.classLink RL 21 "java/lang/IndexOutOfBoundsException") (List.mem_of_getElem? (i := 1) rfl)), hKN _ (List.mem_of_getElem? (i := 0) rfl)⟩ | tail _ hz => cases hz) rfl (Nat.succ_ne_zero _) (hts (.classLink RL 13 "java/lang/IllegalArgumentException") (List.mem_of_getElem? (i := 2) rfl)) (va_Nw.use rfl (hKX.2.2 2)) hce hcv hcl ?_
    refine lv_astore (lv' := [(4, .ref q), (0, .ref (lo (10, 0, 0))), (1, .int i_1), (2, .int i_2), (3, .ref qo)]) hx hb dL_parts_17 hl (by decide) rfl (fun ls hl => ?_)
    refine lv_iconst (v := (2)) hx hb dL_parts_19 (by decide) ?_
    exact n_iret hx hb hr hlocks (Nat.le_of_ble_eq_true rfl) (Nat.le_of_ble_eq_true rfl) rfl rfl hW hS (fun _ _ => rfl) (fun d hd => (hm1 d).trans hd) trivial dL_parts_20

abbrev rmL_wanted : Room := { frames := 8, cells := 1, slots := 6, locals := 127 }
set_option maxHeartbeats 4000000 in
set_option maxRecDepth 100000 in
theorem tL_wanted (l : Launch) (Γ : zG) (lo : zId → Nat) (S : zSt) (Z : va_W) (qo : Nat) (O : Nat → Int64) {i_1 : Int32} (v_z : zV S (10, 0, 0) = true) {y : Int32} (hf : fX9_wanted S i_1 = some (Sum.inr y)) : Met l yL_wanted wsL_wanted rmL_wanted (zPL Γ lo S (Z ++ [zOut Γ qo O]) [.ref (lo (10, 0, 0)), .int i_1, .ref qo]) (zQn Γ lo S S (Z ++ [zOut Γ qo (vp_updL O 0 (y).toInt64)]) (fun _ => some (.int 0)) (fun _ => True)) 1 6 (zA Γ) := by
  refine va_MetW (cc := cL_wanted) (maxL := 4) (ret := (some .int)) (hh := [(0, 9, 12, 13)]) (by decide) rfl ?_
  intro p e s m args below meth c s₁ B hml hv
  obtain ⟨rfl, hW, hKK, hKX, hKY, hKN⟩ := hv
  have hx := B.exec
  have hb := B.bytes
  have hr := B.returns
  have hts := atoms_spec (ws := wsL_wanted) B.pre
  have ht : c.exceptionTable.toList = tableOf [(0, 9, 12, 13)] := vx_table (x := yL_wanted) B (hts _ (List.mem_of_getElem? (i := 0) rfl))
  have hown : s.vm.findClass RL = some m.cls := findClass_of_methodNamed B.named
  have hlocks := B.notSynchronized
  have hS : va_S (zA Γ) s.heap s.heap [] := va_S.rf
  have hl := lv_entry ([.ref (lo (10, 0, 0)), .int i_1, .ref qo]) (n := 4) (Nat.le_of_ble_eq_true rfl)
  rw [lg_entry_eq]
  generalize (lg_sl ([.ref (lo (10, 0, 0)), .int i_1, .ref qo]) ++ List.replicate (4 - (lg_sl ([.ref (lo (10, 0, 0)), .int i_1, .ref qo])).length) Slot.unset).toArray = ls at hl ⊢
  have hl : lv_has ls 4 [(0, .ref (lo (10, 0, 0))), (1, .int i_1), (2, .ref qo)] := hl
  generalize ([.ref (lo (10, 0, 0)), .int i_1, .ref qo] : List Value).toArray = args at hts ⊢
  obtain ⟨H, hH0⟩ : ∃ H, H = s.heap := ⟨_, rfl⟩
  obtain ⟨locs, hlo0⟩ : ∃ L : List Loc, L = [] := ⟨_, rfl⟩
  have hS : va_S (zA Γ) s.heap H locs := by rw [hH0, hlo0]; exact hS
  have hW : Wd Γ lo S (Z ++ [zOut Γ qo O]) H := by rw [hH0]; exact hW
  rw [← hH0, ← hlo0]
  refine lv_aload_n hx hb dL_wanted_0 rfl (lv_at hl 2 rfl) ?_
  refine lv_iconst (v := (0)) hx hb dL_wanted_1 (by decide) ?_
  refine lv_aload_n hx hb dL_wanted_2 rfl (lv_at hl 0 rfl) ?_
  refine lv_iload_n hx hb dL_wanted_3 rfl (lv_at hl 1 rfl) ?_
  refine z_callV (As := [.int i_1]) (rest := [.int 0, .ref qo]) ⟨hx, hb, hml, hown, hts⟩ (tX9_wanted l Γ lo S (Z ++ [zOut Γ qo O]) v_z hf) (cwV 1 hts gL_wanted_X9_wanted rfl rfl rfl (by decide +kernel) ⟨Nat.le_of_ble_eq_true rfl, Nat.le_of_ble_eq_true rfl⟩) (wd_1 hW v_z) rfl hKK hW hS rfl hl.1 rfl (Nat.le_of_ble_eq_true rfl) dL_wanted_4 ⟨Nat.zero_le _, Nat.zero_le _⟩ (fun H locs hW hS hm1 hE => ?_)
  refine lv_i2l hx hb dL_wanted_7 rfl ?_
  refine x_out hx hb hKK.1 hW hS dL_wanted_8 (fun H locs hW hS => ?_)
  refine lv_goto (tgt := 15) hx hb dL_wanted_9 (by decide) ?_
  refine lv_iconst (v := (0)) hx hb dL_wanted_15 (by decide) ?_
  exact n_iret hx hb hr hlocks (Nat.le_of_ble_eq_true rfl) (Nat.le_of_ble_eq_true rfl) rfl rfl hW hS (fun _ _ => rfl) (fun d hd => (hm1 d).trans hd) trivial dL_wanted_16
set_option maxHeartbeats 4000000 in
set_option maxRecDepth 100000 in
theorem uL_wanted (l : Launch) (hl0 : l.stackTraces = false) (Γ : zG) (lo : zId → Nat) (S : zSt) (Z : va_W) (qo : Nat) (O : Nat → Int64) {i_1 : Int32} (v_z : zV S (10, 0, 0) = true) {ee : Nat × zSt} (hf : fX9_wanted S i_1 = some (Sum.inl ee)) (hn : ee.1 = 2) : Met l yL_wanted wsL_wanted rmL_wanted (zPL Γ lo S (Z ++ [zOut Γ qo O]) [.ref (lo (10, 0, 0)), .int i_1, .ref qo]) (zQn Γ lo S ee.2 (Z ++ [zOut Γ qo O]) (fun _ => some (.int (kL [2] ee.1))) (fun _ => True)) 1 6 (zA Γ) := by
  refine va_MetW (cc := cL_wanted) (maxL := 4) (ret := (some .int)) (hh := [(0, 9, 12, 13)]) (by decide) rfl ?_
  intro p e s m args below meth c s₁ B hml hv
  obtain ⟨rfl, hW, hKK, hKX, hKY, hKN⟩ := hv
  have hx := B.exec
  have hb := B.bytes
  have hr := B.returns
  have hts := atoms_spec (ws := wsL_wanted) B.pre
  have ht : c.exceptionTable.toList = tableOf [(0, 9, 12, 13)] := vx_table (x := yL_wanted) B (hts _ (List.mem_of_getElem? (i := 0) rfl))
  have hown : s.vm.findClass RL = some m.cls := findClass_of_methodNamed B.named
  have hlocks := B.notSynchronized
  have hS : va_S (zA Γ) s.heap s.heap [] := va_S.rf
  have hl := lv_entry ([.ref (lo (10, 0, 0)), .int i_1, .ref qo]) (n := 4) (Nat.le_of_ble_eq_true rfl)
  rw [lg_entry_eq]
  generalize (lg_sl ([.ref (lo (10, 0, 0)), .int i_1, .ref qo]) ++ List.replicate (4 - (lg_sl ([.ref (lo (10, 0, 0)), .int i_1, .ref qo])).length) Slot.unset).toArray = ls at hl ⊢
  have hl : lv_has ls 4 [(0, .ref (lo (10, 0, 0))), (1, .int i_1), (2, .ref qo)] := hl
  generalize ([.ref (lo (10, 0, 0)), .int i_1, .ref qo] : List Value).toArray = args at hts ⊢
  obtain ⟨H, hH0⟩ : ∃ H, H = s.heap := ⟨_, rfl⟩
  obtain ⟨locs, hlo0⟩ : ∃ L : List Loc, L = [] := ⟨_, rfl⟩
  have hS : va_S (zA Γ) s.heap H locs := by rw [hH0, hlo0]; exact hS
  have hW : Wd Γ lo S (Z ++ [zOut Γ qo O]) H := by rw [hH0]; exact hW
  rw [← hH0, ← hlo0]
  refine lv_aload_n hx hb dL_wanted_0 rfl (lv_at hl 2 rfl) ?_
  refine lv_iconst (v := (0)) hx hb dL_wanted_1 (by decide) ?_
  refine lv_aload_n hx hb dL_wanted_2 rfl (lv_at hl 0 rfl) ?_
  refine lv_iload_n hx hb dL_wanted_3 rfl (lv_at hl 1 rfl) ?_
  refine l_thr (rest := [.int 0, .ref qo]) (vx_runV (As := [.int i_1]) ⟨hx, hb, hml, hown, hts⟩ (uX9_wanted l hl0 Γ lo S (Z ++ [zOut Γ qo O]) v_z hf) (cwV 1 hts gL_wanted_X9_wanted rfl rfl rfl (by decide +kernel) ⟨Nat.le_of_ble_eq_true rfl, Nat.le_of_ble_eq_true rfl⟩) ⟨fun _ _ _ _ q => q, va_recv (q0 := 0) hKK.1 (wd_1 hW v_z) rfl rfl, fun _ hU hW1 => ⟨rfl, by rw [hU]; exact hW, hKK.go hS hU hW1, hKX.go hW1⟩⟩ rfl rfl hl.1 rfl (lv_room (Nat.le_of_ble_eq_true rfl)) dL_wanted_4 ⟨Nat.le_of_ble_eq_true rfl, Nat.le_of_ble_eq_true rfl⟩) hS (fun q H locs ce hW hS hm1 hce hcv hcl => ?_)
  obtain ⟨en, eS⟩ := ee
  dsimp only at hn hW hm1 hcl ⊢
  subst hn
  refine vx_catch (own := RL) (name := "java/lang/IllegalArgumentException") hown [] ⟨0, 9, 12, 13⟩ [] ht (fun z hz => by cases hz) rfl (Nat.succ_ne_zero _) (hts (.classLink RL 13 "java/lang/IllegalArgumentException") (List.mem_of_getElem? (i := 1) rfl)) (va_Nw.use rfl (hKX.2.2 2)) hce hcv hcl ?_
  refine lv_astore_n (lv' := [(3, .ref q), (0, .ref (lo (10, 0, 0))), (1, .int i_1), (2, .ref qo)]) hx hb dL_wanted_12 rfl hl (by decide) rfl (fun ls hl => ?_)
  refine lv_iconst (v := (1)) hx hb dL_wanted_13 (by decide) ?_
  exact n_iret hx hb hr hlocks (Nat.le_of_ble_eq_true rfl) (Nat.le_of_ble_eq_true rfl) rfl rfl hW hS (fun _ _ => rfl) (fun d hd => (hm1 d).trans hd) trivial dL_wanted_14

abbrev rmL_way : Room := { frames := 8, cells := 1, slots := 6, locals := 176 }
set_option maxHeartbeats 4000000 in
set_option maxRecDepth 100000 in
theorem tL_way (l : Launch) (Γ : zG) (lo : zId → Nat) (S : zSt) (Z : va_W) (qo : Nat) (O : Nat → Int64) {i_1 : Int32} (v_z : zV S (10, 0, 0) = true) {y : (Int32 × zSt)} (hf : fX9_way S i_1 = some (Sum.inr y)) : Met l yL_way wsL_way rmL_way (zPL Γ lo S (Z ++ [zOut Γ qo O]) [.ref (lo (10, 0, 0)), .int i_1, .ref qo]) (zQn Γ lo S y.2 (Z ++ [zOut Γ qo (vp_updL O 0 (y.1).toInt64)]) (fun _ => some (.int 0)) (fun _ => True)) 1 6 (zA Γ) := by
  refine va_MetW (cc := cL_way) (maxL := 4) (ret := (some .int)) (hh := [(0, 9, 12, 21)]) (by decide) rfl ?_
  intro p e s m args below meth c s₁ B hml hv
  obtain ⟨rfl, hW, hKK, hKX, hKY, hKN⟩ := hv
  have hx := B.exec
  have hb := B.bytes
  have hr := B.returns
  have hts := atoms_spec (ws := wsL_way) B.pre
  have ht : c.exceptionTable.toList = tableOf [(0, 9, 12, 21)] := vx_table (x := yL_way) B (hts _ (List.mem_of_getElem? (i := 0) rfl))
  have hown : s.vm.findClass RL = some m.cls := findClass_of_methodNamed B.named
  have hlocks := B.notSynchronized
  have hS : va_S (zA Γ) s.heap s.heap [] := va_S.rf
  have hl := lv_entry ([.ref (lo (10, 0, 0)), .int i_1, .ref qo]) (n := 4) (Nat.le_of_ble_eq_true rfl)
  rw [lg_entry_eq]
  generalize (lg_sl ([.ref (lo (10, 0, 0)), .int i_1, .ref qo]) ++ List.replicate (4 - (lg_sl ([.ref (lo (10, 0, 0)), .int i_1, .ref qo])).length) Slot.unset).toArray = ls at hl ⊢
  have hl : lv_has ls 4 [(0, .ref (lo (10, 0, 0))), (1, .int i_1), (2, .ref qo)] := hl
  generalize ([.ref (lo (10, 0, 0)), .int i_1, .ref qo] : List Value).toArray = args at hts ⊢
  obtain ⟨H, hH0⟩ : ∃ H, H = s.heap := ⟨_, rfl⟩
  obtain ⟨locs, hlo0⟩ : ∃ L : List Loc, L = [] := ⟨_, rfl⟩
  have hS : va_S (zA Γ) s.heap H locs := by rw [hH0, hlo0]; exact hS
  have hW : Wd Γ lo S (Z ++ [zOut Γ qo O]) H := by rw [hH0]; exact hW
  rw [← hH0, ← hlo0]
  refine lv_aload_n hx hb dL_way_0 rfl (lv_at hl 2 rfl) ?_
  refine lv_iconst (v := (0)) hx hb dL_way_1 (by decide) ?_
  refine lv_aload_n hx hb dL_way_2 rfl (lv_at hl 0 rfl) ?_
  refine lv_iload_n hx hb dL_way_3 rfl (lv_at hl 1 rfl) ?_
  refine z_callV (As := [.int i_1]) (rest := [.int 0, .ref qo]) ⟨hx, hb, hml, hown, hts⟩ (tX9_way l Γ lo S (Z ++ [zOut Γ qo O]) v_z hf) (cwV 1 hts gL_way_X9_way rfl rfl rfl (by decide +kernel) ⟨Nat.le_of_ble_eq_true rfl, Nat.le_of_ble_eq_true rfl⟩) (wd_1 hW v_z) rfl hKK hW hS rfl hl.1 rfl (Nat.le_of_ble_eq_true rfl) dL_way_4 ⟨Nat.zero_le _, Nat.zero_le _⟩ (fun H locs hW hS hm1 hE => ?_)
  refine lv_i2l hx hb dL_way_7 rfl ?_
  refine x_out hx hb hKK.1 hW hS dL_way_8 (fun H locs hW hS => ?_)
  refine lv_goto (tgt := 15) hx hb dL_way_9 (by decide) ?_
  refine lv_iconst (v := (0)) hx hb dL_way_15 (by decide) ?_
  exact n_iret hx hb hr hlocks (Nat.le_of_ble_eq_true rfl) (Nat.le_of_ble_eq_true rfl) rfl rfl hW hS (fun _ _ => rfl) (fun d hd => (hm1 d).trans hd) trivial dL_way_16
set_option maxHeartbeats 4000000 in
set_option maxRecDepth 100000 in
theorem uL_way (l : Launch) (hl0 : l.stackTraces = false) (Γ : zG) (lo : zId → Nat) (S : zSt) (Z : va_W) (qo : Nat) (O : Nat → Int64) {i_1 : Int32} (v_z : zV S (10, 0, 0) = true) {ee : Nat × zSt} (hf : fX9_way S i_1 = some (Sum.inl ee)) (hn : ee.1 = 1) : Met l yL_way wsL_way rmL_way (zPL Γ lo S (Z ++ [zOut Γ qo O]) [.ref (lo (10, 0, 0)), .int i_1, .ref qo]) (zQn Γ lo S ee.2 (Z ++ [zOut Γ qo O]) (fun _ => some (.int (kL [1] ee.1))) (fun _ => True)) 1 6 (zA Γ) := by
  refine va_MetW (cc := cL_way) (maxL := 4) (ret := (some .int)) (hh := [(0, 9, 12, 21)]) (by decide) rfl ?_
  intro p e s m args below meth c s₁ B hml hv
  obtain ⟨rfl, hW, hKK, hKX, hKY, hKN⟩ := hv
  have hx := B.exec
  have hb := B.bytes
  have hr := B.returns
  have hts := atoms_spec (ws := wsL_way) B.pre
  have ht : c.exceptionTable.toList = tableOf [(0, 9, 12, 21)] := vx_table (x := yL_way) B (hts _ (List.mem_of_getElem? (i := 0) rfl))
  have hown : s.vm.findClass RL = some m.cls := findClass_of_methodNamed B.named
  have hlocks := B.notSynchronized
  have hS : va_S (zA Γ) s.heap s.heap [] := va_S.rf
  have hl := lv_entry ([.ref (lo (10, 0, 0)), .int i_1, .ref qo]) (n := 4) (Nat.le_of_ble_eq_true rfl)
  rw [lg_entry_eq]
  generalize (lg_sl ([.ref (lo (10, 0, 0)), .int i_1, .ref qo]) ++ List.replicate (4 - (lg_sl ([.ref (lo (10, 0, 0)), .int i_1, .ref qo])).length) Slot.unset).toArray = ls at hl ⊢
  have hl : lv_has ls 4 [(0, .ref (lo (10, 0, 0))), (1, .int i_1), (2, .ref qo)] := hl
  generalize ([.ref (lo (10, 0, 0)), .int i_1, .ref qo] : List Value).toArray = args at hts ⊢
  obtain ⟨H, hH0⟩ : ∃ H, H = s.heap := ⟨_, rfl⟩
  obtain ⟨locs, hlo0⟩ : ∃ L : List Loc, L = [] := ⟨_, rfl⟩
  have hS : va_S (zA Γ) s.heap H locs := by rw [hH0, hlo0]; exact hS
  have hW : Wd Γ lo S (Z ++ [zOut Γ qo O]) H := by rw [hH0]; exact hW
  rw [← hH0, ← hlo0]
  refine lv_aload_n hx hb dL_way_0 rfl (lv_at hl 2 rfl) ?_
  refine lv_iconst (v := (0)) hx hb dL_way_1 (by decide) ?_
  refine lv_aload_n hx hb dL_way_2 rfl (lv_at hl 0 rfl) ?_
  refine lv_iload_n hx hb dL_way_3 rfl (lv_at hl 1 rfl) ?_
  refine l_thr (rest := [.int 0, .ref qo]) (vx_runV (As := [.int i_1]) ⟨hx, hb, hml, hown, hts⟩ (uX9_way l hl0 Γ lo S (Z ++ [zOut Γ qo O]) v_z hf) (cwV 1 hts gL_way_X9_way rfl rfl rfl (by decide +kernel) ⟨Nat.le_of_ble_eq_true rfl, Nat.le_of_ble_eq_true rfl⟩) ⟨fun _ _ _ _ q => q, va_recv (q0 := 0) hKK.1 (wd_1 hW v_z) rfl rfl, fun _ hU hW1 => ⟨rfl, by rw [hU]; exact hW, hKK.go hS hU hW1, hKX.go hW1⟩⟩ rfl rfl hl.1 rfl (lv_room (Nat.le_of_ble_eq_true rfl)) dL_way_4 ⟨Nat.le_of_ble_eq_true rfl, Nat.le_of_ble_eq_true rfl⟩) hS (fun q H locs ce hW hS hm1 hce hcv hcl => ?_)
  obtain ⟨en, eS⟩ := ee
  dsimp only at hn hW hm1 hcl ⊢
  subst hn
  refine vx_catch (own := RL) (name := "java/lang/IndexOutOfBoundsException") hown [] ⟨0, 9, 12, 21⟩ [] ht (fun z hz => by cases hz) rfl (Nat.succ_ne_zero _) (hts (.classLink RL 21 "java/lang/IndexOutOfBoundsException") (List.mem_of_getElem? (i := 1) rfl)) (va_Nw.use rfl (hKX.2.2 1)) hce hcv hcl ?_
  refine lv_astore_n (lv' := [(3, .ref q), (0, .ref (lo (10, 0, 0))), (1, .int i_1), (2, .ref qo)]) hx hb dL_way_12 rfl hl (by decide) rfl (fun ls hl => ?_)
  refine lv_iconst (v := (1)) hx hb dL_way_13 (by decide) ?_
  exact n_iret hx hb hr hlocks (Nat.le_of_ble_eq_true rfl) (Nat.le_of_ble_eq_true rfl) rfl rfl hW hS (fun _ _ => rfl) (fun d hd => (hm1 d).trans hd) trivial dL_way_14

abbrev rmL_planned : Room := { frames := 8, cells := 1, slots := 6, locals := 177 }
set_option maxHeartbeats 4000000 in
set_option maxRecDepth 100000 in
theorem tL_planned (l : Launch) (Γ : zG) (lo : zId → Nat) (S : zSt) (Z : va_W) (qo : Nat) (O : Nat → Int64) {i_1 : Int32} {i_2 : Int32} (v_z : zV S (10, 0, 0) = true) {y : (Int32 × zSt)} (hf : fX9_planned S i_1 i_2 = some (Sum.inr y)) : Met l yL_planned wsL_planned rmL_planned (zPL Γ lo S (Z ++ [zOut Γ qo O]) [.ref (lo (10, 0, 0)), .int i_1, .int i_2, .ref qo]) (zQn Γ lo S y.2 (Z ++ [zOut Γ qo (vp_updL O 0 (y.1).toInt64)]) (fun _ => some (.int 0)) (fun _ => True)) 1 6 (zA Γ) := by
  refine va_MetW (cc := cL_planned) (maxL := 5) (ret := (some .int)) (hh := [(0, 10, 13, 21)]) (by decide) rfl ?_
  intro p e s m args below meth c s₁ B hml hv
  obtain ⟨rfl, hW, hKK, hKX, hKY, hKN⟩ := hv
  have hx := B.exec
  have hb := B.bytes
  have hr := B.returns
  have hts := atoms_spec (ws := wsL_planned) B.pre
  have ht : c.exceptionTable.toList = tableOf [(0, 10, 13, 21)] := vx_table (x := yL_planned) B (hts _ (List.mem_of_getElem? (i := 0) rfl))
  have hown : s.vm.findClass RL = some m.cls := findClass_of_methodNamed B.named
  have hlocks := B.notSynchronized
  have hS : va_S (zA Γ) s.heap s.heap [] := va_S.rf
  have hl := lv_entry ([.ref (lo (10, 0, 0)), .int i_1, .int i_2, .ref qo]) (n := 5) (Nat.le_of_ble_eq_true rfl)
  rw [lg_entry_eq]
  generalize (lg_sl ([.ref (lo (10, 0, 0)), .int i_1, .int i_2, .ref qo]) ++ List.replicate (5 - (lg_sl ([.ref (lo (10, 0, 0)), .int i_1, .int i_2, .ref qo])).length) Slot.unset).toArray = ls at hl ⊢
  have hl : lv_has ls 5 [(0, .ref (lo (10, 0, 0))), (1, .int i_1), (2, .int i_2), (3, .ref qo)] := hl
  generalize ([.ref (lo (10, 0, 0)), .int i_1, .int i_2, .ref qo] : List Value).toArray = args at hts ⊢
  obtain ⟨H, hH0⟩ : ∃ H, H = s.heap := ⟨_, rfl⟩
  obtain ⟨locs, hlo0⟩ : ∃ L : List Loc, L = [] := ⟨_, rfl⟩
  have hS : va_S (zA Γ) s.heap H locs := by rw [hH0, hlo0]; exact hS
  have hW : Wd Γ lo S (Z ++ [zOut Γ qo O]) H := by rw [hH0]; exact hW
  rw [← hH0, ← hlo0]
  refine lv_aload_n hx hb dL_planned_0 rfl (lv_at hl 3 rfl) ?_
  refine lv_iconst (v := (0)) hx hb dL_planned_1 (by decide) ?_
  refine lv_aload_n hx hb dL_planned_2 rfl (lv_at hl 0 rfl) ?_
  refine lv_iload_n hx hb dL_planned_3 rfl (lv_at hl 1 rfl) ?_
  refine lv_iload_n hx hb dL_planned_4 rfl (lv_at hl 2 rfl) ?_
  refine z_callV (As := [.int i_1, .int i_2]) (rest := [.int 0, .ref qo]) ⟨hx, hb, hml, hown, hts⟩ (tX9_planned l Γ lo S (Z ++ [zOut Γ qo O]) v_z hf) (cwV 2 hts gL_planned_X9_planned rfl rfl rfl (by decide +kernel) ⟨Nat.le_of_ble_eq_true rfl, Nat.le_of_ble_eq_true rfl⟩) (wd_1 hW v_z) rfl hKK hW hS rfl hl.1 rfl (Nat.le_of_ble_eq_true rfl) dL_planned_5 ⟨Nat.zero_le _, Nat.zero_le _⟩ (fun H locs hW hS hm1 hE => ?_)
  refine lv_i2l hx hb dL_planned_8 rfl ?_
  refine x_out hx hb hKK.1 hW hS dL_planned_9 (fun H locs hW hS => ?_)
  refine lv_goto (tgt := 17) hx hb dL_planned_10 (by decide) ?_
  refine lv_iconst (v := (0)) hx hb dL_planned_17 (by decide) ?_
  exact n_iret hx hb hr hlocks (Nat.le_of_ble_eq_true rfl) (Nat.le_of_ble_eq_true rfl) rfl rfl hW hS (fun _ _ => rfl) (fun d hd => (hm1 d).trans hd) trivial dL_planned_18
set_option maxHeartbeats 4000000 in
set_option maxRecDepth 100000 in
theorem uL_planned (l : Launch) (hl0 : l.stackTraces = false) (Γ : zG) (lo : zId → Nat) (S : zSt) (Z : va_W) (qo : Nat) (O : Nat → Int64) {i_1 : Int32} {i_2 : Int32} (v_z : zV S (10, 0, 0) = true) {ee : Nat × zSt} (hf : fX9_planned S i_1 i_2 = some (Sum.inl ee)) (hn : ee.1 = 1) : Met l yL_planned wsL_planned rmL_planned (zPL Γ lo S (Z ++ [zOut Γ qo O]) [.ref (lo (10, 0, 0)), .int i_1, .int i_2, .ref qo]) (zQn Γ lo S ee.2 (Z ++ [zOut Γ qo O]) (fun _ => some (.int (kL [1] ee.1))) (fun _ => True)) 1 6 (zA Γ) := by
  refine va_MetW (cc := cL_planned) (maxL := 5) (ret := (some .int)) (hh := [(0, 10, 13, 21)]) (by decide) rfl ?_
  intro p e s m args below meth c s₁ B hml hv
  obtain ⟨rfl, hW, hKK, hKX, hKY, hKN⟩ := hv
  have hx := B.exec
  have hb := B.bytes
  have hr := B.returns
  have hts := atoms_spec (ws := wsL_planned) B.pre
  have ht : c.exceptionTable.toList = tableOf [(0, 10, 13, 21)] := vx_table (x := yL_planned) B (hts _ (List.mem_of_getElem? (i := 0) rfl))
  have hown : s.vm.findClass RL = some m.cls := findClass_of_methodNamed B.named
  have hlocks := B.notSynchronized
  have hS : va_S (zA Γ) s.heap s.heap [] := va_S.rf
  have hl := lv_entry ([.ref (lo (10, 0, 0)), .int i_1, .int i_2, .ref qo]) (n := 5) (Nat.le_of_ble_eq_true rfl)
  rw [lg_entry_eq]
  generalize (lg_sl ([.ref (lo (10, 0, 0)), .int i_1, .int i_2, .ref qo]) ++ List.replicate (5 - (lg_sl ([.ref (lo (10, 0, 0)), .int i_1, .int i_2, .ref qo])).length) Slot.unset).toArray = ls at hl ⊢
  have hl : lv_has ls 5 [(0, .ref (lo (10, 0, 0))), (1, .int i_1), (2, .int i_2), (3, .ref qo)] := hl
  generalize ([.ref (lo (10, 0, 0)), .int i_1, .int i_2, .ref qo] : List Value).toArray = args at hts ⊢
  obtain ⟨H, hH0⟩ : ∃ H, H = s.heap := ⟨_, rfl⟩
  obtain ⟨locs, hlo0⟩ : ∃ L : List Loc, L = [] := ⟨_, rfl⟩
  have hS : va_S (zA Γ) s.heap H locs := by rw [hH0, hlo0]; exact hS
  have hW : Wd Γ lo S (Z ++ [zOut Γ qo O]) H := by rw [hH0]; exact hW
  rw [← hH0, ← hlo0]
  refine lv_aload_n hx hb dL_planned_0 rfl (lv_at hl 3 rfl) ?_
  refine lv_iconst (v := (0)) hx hb dL_planned_1 (by decide) ?_
  refine lv_aload_n hx hb dL_planned_2 rfl (lv_at hl 0 rfl) ?_
  refine lv_iload_n hx hb dL_planned_3 rfl (lv_at hl 1 rfl) ?_
  refine lv_iload_n hx hb dL_planned_4 rfl (lv_at hl 2 rfl) ?_
  refine l_thr (rest := [.int 0, .ref qo]) (vx_runV (As := [.int i_1, .int i_2]) ⟨hx, hb, hml, hown, hts⟩ (uX9_planned l hl0 Γ lo S (Z ++ [zOut Γ qo O]) v_z hf) (cwV 2 hts gL_planned_X9_planned rfl rfl rfl (by decide +kernel) ⟨Nat.le_of_ble_eq_true rfl, Nat.le_of_ble_eq_true rfl⟩) ⟨fun _ _ _ _ q => q, va_recv (q0 := 0) hKK.1 (wd_1 hW v_z) rfl rfl, fun _ hU hW1 => ⟨rfl, by rw [hU]; exact hW, hKK.go hS hU hW1, hKX.go hW1⟩⟩ rfl rfl hl.1 rfl (lv_room (Nat.le_of_ble_eq_true rfl)) dL_planned_5 ⟨Nat.le_of_ble_eq_true rfl, Nat.le_of_ble_eq_true rfl⟩) hS (fun q H locs ce hW hS hm1 hce hcv hcl => ?_)
  obtain ⟨en, eS⟩ := ee
  dsimp only at hn hW hm1 hcl ⊢
  subst hn
  refine vx_catch (own := RL) (name := "java/lang/IndexOutOfBoundsException") hown [] ⟨0, 10, 13, 21⟩ [] ht (fun z hz => by cases hz) rfl (Nat.succ_ne_zero _) (hts (.classLink RL 21 "java/lang/IndexOutOfBoundsException") (List.mem_of_getElem? (i := 1) rfl)) (va_Nw.use rfl (hKX.2.2 1)) hce hcv hcl ?_
  refine lv_astore (lv' := [(4, .ref q), (0, .ref (lo (10, 0, 0))), (1, .int i_1), (2, .int i_2), (3, .ref qo)]) hx hb dL_planned_13 hl (by decide) rfl (fun ls hl => ?_)
  refine lv_iconst (v := (1)) hx hb dL_planned_15 (by decide) ?_
  exact n_iret hx hb hr hlocks (Nat.le_of_ble_eq_true rfl) (Nat.le_of_ble_eq_true rfl) rfl rfl hW hS (fun _ _ => rfl) (fun d hd => (hm1 d).trans hd) trivial dL_planned_16

abbrev rmL_go : Room := { frames := 8, cells := 1, slots := 6, locals := 180 }
set_option maxHeartbeats 4000000 in
set_option maxRecDepth 100000 in
theorem tL_go (l : Launch) (Γ : zG) (lo : zId → Nat) (S : zSt) (Z : va_W) (qo : Nat) (O : Nat → Int64) {i_1 : Int32} (v_z : zV S (10, 0, 0) = true) {y : (Int32 × zSt)} (hf : fX9_go S i_1 = some (Sum.inr y)) : Met l yL_go wsL_go rmL_go (zPL Γ lo S (Z ++ [zOut Γ qo O]) [.ref (lo (10, 0, 0)), .int i_1, .ref qo]) (zQn Γ lo S y.2 (Z ++ [zOut Γ qo (vp_updL O 0 (y.1).toInt64)]) (fun _ => some (.int 0)) (fun _ => True)) 1 6 (zA Γ) := by
  refine va_MetW (cc := cL_go) (maxL := 4) (ret := (some .int)) (hh := [(0, 9, 12, 21), (0, 9, 15, 15)]) (by decide) rfl ?_
  intro p e s m args below meth c s₁ B hml hv
  obtain ⟨rfl, hW, hKK, hKX, hKY, hKN⟩ := hv
  have hx := B.exec
  have hb := B.bytes
  have hr := B.returns
  have hts := atoms_spec (ws := wsL_go) B.pre
  have ht : c.exceptionTable.toList = tableOf [(0, 9, 12, 21), (0, 9, 15, 15)] := vx_table (x := yL_go) B (hts _ (List.mem_of_getElem? (i := 0) rfl))
  have hown : s.vm.findClass RL = some m.cls := findClass_of_methodNamed B.named
  have hlocks := B.notSynchronized
  have hS : va_S (zA Γ) s.heap s.heap [] := va_S.rf
  have hl := lv_entry ([.ref (lo (10, 0, 0)), .int i_1, .ref qo]) (n := 4) (Nat.le_of_ble_eq_true rfl)
  rw [lg_entry_eq]
  generalize (lg_sl ([.ref (lo (10, 0, 0)), .int i_1, .ref qo]) ++ List.replicate (4 - (lg_sl ([.ref (lo (10, 0, 0)), .int i_1, .ref qo])).length) Slot.unset).toArray = ls at hl ⊢
  have hl : lv_has ls 4 [(0, .ref (lo (10, 0, 0))), (1, .int i_1), (2, .ref qo)] := hl
  generalize ([.ref (lo (10, 0, 0)), .int i_1, .ref qo] : List Value).toArray = args at hts ⊢
  obtain ⟨H, hH0⟩ : ∃ H, H = s.heap := ⟨_, rfl⟩
  obtain ⟨locs, hlo0⟩ : ∃ L : List Loc, L = [] := ⟨_, rfl⟩
  have hS : va_S (zA Γ) s.heap H locs := by rw [hH0, hlo0]; exact hS
  have hW : Wd Γ lo S (Z ++ [zOut Γ qo O]) H := by rw [hH0]; exact hW
  rw [← hH0, ← hlo0]
  refine lv_aload_n hx hb dL_go_0 rfl (lv_at hl 2 rfl) ?_
  refine lv_iconst (v := (0)) hx hb dL_go_1 (by decide) ?_
  refine lv_aload_n hx hb dL_go_2 rfl (lv_at hl 0 rfl) ?_
  refine lv_iload_n hx hb dL_go_3 rfl (lv_at hl 1 rfl) ?_
  refine z_callV (As := [.int i_1]) (rest := [.int 0, .ref qo]) ⟨hx, hb, hml, hown, hts⟩ (tX9_go l Γ lo S (Z ++ [zOut Γ qo O]) v_z hf) (cwV 1 hts gL_go_X9_go rfl rfl rfl (by decide +kernel) ⟨Nat.le_of_ble_eq_true rfl, Nat.le_of_ble_eq_true rfl⟩) (wd_1 hW v_z) rfl hKK hW hS rfl hl.1 rfl (Nat.le_of_ble_eq_true rfl) dL_go_4 ⟨Nat.zero_le _, Nat.zero_le _⟩ (fun H locs hW hS hm1 hE => ?_)
  refine lv_i2l hx hb dL_go_7 rfl ?_
  refine x_out hx hb hKK.1 hW hS dL_go_8 (fun H locs hW hS => ?_)
  refine lv_goto (tgt := 18) hx hb dL_go_9 (by decide) ?_
  refine lv_iconst (v := (0)) hx hb dL_go_18 (by decide) ?_
  exact n_iret hx hb hr hlocks (Nat.le_of_ble_eq_true rfl) (Nat.le_of_ble_eq_true rfl) rfl rfl hW hS (fun _ _ => rfl) (fun d hd => (hm1 d).trans hd) trivial dL_go_19
set_option maxHeartbeats 4000000 in
set_option maxRecDepth 100000 in
theorem uL_go (l : Launch) (hl0 : l.stackTraces = false) (Γ : zG) (lo : zId → Nat) (S : zSt) (Z : va_W) (qo : Nat) (O : Nat → Int64) {i_1 : Int32} (v_z : zV S (10, 0, 0) = true) {ee : Nat × zSt} (hf : fX9_go S i_1 = some (Sum.inl ee)) (hn : ee.1 = 1 ∨ ee.1 = 3) : Met l yL_go wsL_go rmL_go (zPL Γ lo S (Z ++ [zOut Γ qo O]) [.ref (lo (10, 0, 0)), .int i_1, .ref qo]) (zQn Γ lo S ee.2 (Z ++ [zOut Γ qo O]) (fun _ => some (.int (kL [1, 3] ee.1))) (fun _ => True)) 1 6 (zA Γ) := by
  refine va_MetW (cc := cL_go) (maxL := 4) (ret := (some .int)) (hh := [(0, 9, 12, 21), (0, 9, 15, 15)]) (by decide) rfl ?_
  intro p e s m args below meth c s₁ B hml hv
  obtain ⟨rfl, hW, hKK, hKX, hKY, hKN⟩ := hv
  have hx := B.exec
  have hb := B.bytes
  have hr := B.returns
  have hts := atoms_spec (ws := wsL_go) B.pre
  have ht : c.exceptionTable.toList = tableOf [(0, 9, 12, 21), (0, 9, 15, 15)] := vx_table (x := yL_go) B (hts _ (List.mem_of_getElem? (i := 0) rfl))
  have hown : s.vm.findClass RL = some m.cls := findClass_of_methodNamed B.named
  have hlocks := B.notSynchronized
  have hS : va_S (zA Γ) s.heap s.heap [] := va_S.rf
  have hl := lv_entry ([.ref (lo (10, 0, 0)), .int i_1, .ref qo]) (n := 4) (Nat.le_of_ble_eq_true rfl)
  rw [lg_entry_eq]
  generalize (lg_sl ([.ref (lo (10, 0, 0)), .int i_1, .ref qo]) ++ List.replicate (4 - (lg_sl ([.ref (lo (10, 0, 0)), .int i_1, .ref qo])).length) Slot.unset).toArray = ls at hl ⊢
  have hl : lv_has ls 4 [(0, .ref (lo (10, 0, 0))), (1, .int i_1), (2, .ref qo)] := hl
  generalize ([.ref (lo (10, 0, 0)), .int i_1, .ref qo] : List Value).toArray = args at hts ⊢
  obtain ⟨H, hH0⟩ : ∃ H, H = s.heap := ⟨_, rfl⟩
  obtain ⟨locs, hlo0⟩ : ∃ L : List Loc, L = [] := ⟨_, rfl⟩
  have hS : va_S (zA Γ) s.heap H locs := by rw [hH0, hlo0]; exact hS
  have hW : Wd Γ lo S (Z ++ [zOut Γ qo O]) H := by rw [hH0]; exact hW
  rw [← hH0, ← hlo0]
  refine lv_aload_n hx hb dL_go_0 rfl (lv_at hl 2 rfl) ?_
  refine lv_iconst (v := (0)) hx hb dL_go_1 (by decide) ?_
  refine lv_aload_n hx hb dL_go_2 rfl (lv_at hl 0 rfl) ?_
  refine lv_iload_n hx hb dL_go_3 rfl (lv_at hl 1 rfl) ?_
  refine l_thr (rest := [.int 0, .ref qo]) (vx_runV (As := [.int i_1]) ⟨hx, hb, hml, hown, hts⟩ (uX9_go l hl0 Γ lo S (Z ++ [zOut Γ qo O]) v_z hf) (cwV 1 hts gL_go_X9_go rfl rfl rfl (by decide +kernel) ⟨Nat.le_of_ble_eq_true rfl, Nat.le_of_ble_eq_true rfl⟩) ⟨fun _ _ _ _ q => q, va_recv (q0 := 0) hKK.1 (wd_1 hW v_z) rfl rfl, fun _ hU hW1 => ⟨rfl, by rw [hU]; exact hW, hKK.go hS hU hW1, hKX.go hW1⟩⟩ rfl rfl hl.1 rfl (lv_room (Nat.le_of_ble_eq_true rfl)) dL_go_4 ⟨Nat.le_of_ble_eq_true rfl, Nat.le_of_ble_eq_true rfl⟩) hS (fun q H locs ce hW hS hm1 hce hcv hcl => ?_)
  obtain ⟨en, eS⟩ := ee
  dsimp only at hn hW hm1 hcl ⊢
  rcases hn with rfl | rfl
  · refine vx_catch (own := RL) (name := "java/lang/IndexOutOfBoundsException") hown [] ⟨0, 9, 12, 21⟩ [⟨0, 9, 15, 15⟩] ht (fun z hz => by cases hz) rfl (Nat.succ_ne_zero _) (hts (.classLink RL 21 "java/lang/IndexOutOfBoundsException") (List.mem_of_getElem? (i := 1) rfl)) (va_Nw.use rfl (hKX.2.2 1)) hce hcv hcl ?_
    refine lv_astore_n (lv' := [(3, .ref q), (0, .ref (lo (10, 0, 0))), (1, .int i_1), (2, .ref qo)]) hx hb dL_go_12 rfl hl (by decide) rfl (fun ls hl => ?_)
    refine lv_iconst (v := (1)) hx hb dL_go_13 (by decide) ?_
    exact n_iret hx hb hr hlocks (Nat.le_of_ble_eq_true rfl) (Nat.le_of_ble_eq_true rfl) rfl rfl hW hS (fun _ _ => rfl) (fun d hd => (hm1 d).trans hd) trivial dL_go_14
  · refine vx_catch (own := RL) (name := "java/lang/IllegalStateException") hown [⟨0, 9, 12, 21⟩] ⟨0, 9, 15, 15⟩ [] ht (fun z hz => by cases hz with | head => exact Or.inr ⟨Nat.succ_ne_zero _, _, (hts (.classLink RL 21 "java/lang/IndexOutOfBoundsException") (List.mem_of_getElem? (i := 1) rfl)), hKN _ (List.mem_of_getElem? (i := 1) rfl)⟩ | tail _ hz => cases hz) rfl (Nat.succ_ne_zero _) (hts (.classLink RL 15 "java/lang/IllegalStateException") (List.mem_of_getElem? (i := 2) rfl)) (va_Nw.use rfl (hKX.2.2 3)) hce hcv hcl ?_
    refine lv_astore_n (lv' := [(3, .ref q), (0, .ref (lo (10, 0, 0))), (1, .int i_1), (2, .ref qo)]) hx hb dL_go_15 rfl hl (by decide) rfl (fun ls hl => ?_)
    refine lv_iconst (v := (2)) hx hb dL_go_16 (by decide) ?_
    exact n_iret hx hb hr hlocks (Nat.le_of_ble_eq_true rfl) (Nat.le_of_ble_eq_true rfl) rfl rfl hW hS (fun _ _ => rfl) (fun d hd => (hm1 d).trans hd) trivial dL_go_17

abbrev rmL_vanAt : Room := { frames := 8, cells := 1, slots := 6, locals := 124 }
set_option maxHeartbeats 4000000 in
set_option maxRecDepth 100000 in
theorem tL_vanAt (l : Launch) (Γ : zG) (lo : zId → Nat) (S : zSt) (Z : va_W) (qo : Nat) (O : Nat → Int64) {i_1 : Int32} (v_z : zV S (10, 0, 0) = true) {y : Int32} (hf : fX9_vanAt S i_1 = some (Sum.inr y)) : Met l yL_vanAt wsL_vanAt rmL_vanAt (zPL Γ lo S (Z ++ [zOut Γ qo O]) [.ref (lo (10, 0, 0)), .int i_1, .ref qo]) (zQn Γ lo S S (Z ++ [zOut Γ qo (vp_updL O 0 (y).toInt64)]) (fun _ => some (.int 0)) (fun _ => True)) 1 6 (zA Γ) := by
  refine va_MetW (cc := cL_vanAt) (maxL := 4) (ret := (some .int)) (hh := [(0, 9, 12, 21)]) (by decide) rfl ?_
  intro p e s m args below meth c s₁ B hml hv
  obtain ⟨rfl, hW, hKK, hKX, hKY, hKN⟩ := hv
  have hx := B.exec
  have hb := B.bytes
  have hr := B.returns
  have hts := atoms_spec (ws := wsL_vanAt) B.pre
  have ht : c.exceptionTable.toList = tableOf [(0, 9, 12, 21)] := vx_table (x := yL_vanAt) B (hts _ (List.mem_of_getElem? (i := 0) rfl))
  have hown : s.vm.findClass RL = some m.cls := findClass_of_methodNamed B.named
  have hlocks := B.notSynchronized
  have hS : va_S (zA Γ) s.heap s.heap [] := va_S.rf
  have hl := lv_entry ([.ref (lo (10, 0, 0)), .int i_1, .ref qo]) (n := 4) (Nat.le_of_ble_eq_true rfl)
  rw [lg_entry_eq]
  generalize (lg_sl ([.ref (lo (10, 0, 0)), .int i_1, .ref qo]) ++ List.replicate (4 - (lg_sl ([.ref (lo (10, 0, 0)), .int i_1, .ref qo])).length) Slot.unset).toArray = ls at hl ⊢
  have hl : lv_has ls 4 [(0, .ref (lo (10, 0, 0))), (1, .int i_1), (2, .ref qo)] := hl
  generalize ([.ref (lo (10, 0, 0)), .int i_1, .ref qo] : List Value).toArray = args at hts ⊢
  obtain ⟨H, hH0⟩ : ∃ H, H = s.heap := ⟨_, rfl⟩
  obtain ⟨locs, hlo0⟩ : ∃ L : List Loc, L = [] := ⟨_, rfl⟩
  have hS : va_S (zA Γ) s.heap H locs := by rw [hH0, hlo0]; exact hS
  have hW : Wd Γ lo S (Z ++ [zOut Γ qo O]) H := by rw [hH0]; exact hW
  rw [← hH0, ← hlo0]
  refine lv_aload_n hx hb dL_vanAt_0 rfl (lv_at hl 2 rfl) ?_
  refine lv_iconst (v := (0)) hx hb dL_vanAt_1 (by decide) ?_
  refine lv_aload_n hx hb dL_vanAt_2 rfl (lv_at hl 0 rfl) ?_
  refine lv_iload_n hx hb dL_vanAt_3 rfl (lv_at hl 1 rfl) ?_
  refine z_callV (As := [.int i_1]) (rest := [.int 0, .ref qo]) ⟨hx, hb, hml, hown, hts⟩ (tX9_vanAt l Γ lo S (Z ++ [zOut Γ qo O]) v_z hf) (cwV 1 hts gL_vanAt_X9_vanAt rfl rfl rfl (by decide +kernel) ⟨Nat.le_of_ble_eq_true rfl, Nat.le_of_ble_eq_true rfl⟩) (wd_1 hW v_z) rfl hKK hW hS rfl hl.1 rfl (Nat.le_of_ble_eq_true rfl) dL_vanAt_4 ⟨Nat.zero_le _, Nat.zero_le _⟩ (fun H locs hW hS hm1 hE => ?_)
  refine lv_i2l hx hb dL_vanAt_7 rfl ?_
  refine x_out hx hb hKK.1 hW hS dL_vanAt_8 (fun H locs hW hS => ?_)
  refine lv_goto (tgt := 15) hx hb dL_vanAt_9 (by decide) ?_
  refine lv_iconst (v := (0)) hx hb dL_vanAt_15 (by decide) ?_
  exact n_iret hx hb hr hlocks (Nat.le_of_ble_eq_true rfl) (Nat.le_of_ble_eq_true rfl) rfl rfl hW hS (fun _ _ => rfl) (fun d hd => (hm1 d).trans hd) trivial dL_vanAt_16
set_option maxHeartbeats 4000000 in
set_option maxRecDepth 100000 in
theorem uL_vanAt (l : Launch) (hl0 : l.stackTraces = false) (Γ : zG) (lo : zId → Nat) (S : zSt) (Z : va_W) (qo : Nat) (O : Nat → Int64) {i_1 : Int32} (v_z : zV S (10, 0, 0) = true) {ee : Nat × zSt} (hf : fX9_vanAt S i_1 = some (Sum.inl ee)) (hn : ee.1 = 1) : Met l yL_vanAt wsL_vanAt rmL_vanAt (zPL Γ lo S (Z ++ [zOut Γ qo O]) [.ref (lo (10, 0, 0)), .int i_1, .ref qo]) (zQn Γ lo S ee.2 (Z ++ [zOut Γ qo O]) (fun _ => some (.int (kL [1] ee.1))) (fun _ => True)) 1 6 (zA Γ) := by
  refine va_MetW (cc := cL_vanAt) (maxL := 4) (ret := (some .int)) (hh := [(0, 9, 12, 21)]) (by decide) rfl ?_
  intro p e s m args below meth c s₁ B hml hv
  obtain ⟨rfl, hW, hKK, hKX, hKY, hKN⟩ := hv
  have hx := B.exec
  have hb := B.bytes
  have hr := B.returns
  have hts := atoms_spec (ws := wsL_vanAt) B.pre
  have ht : c.exceptionTable.toList = tableOf [(0, 9, 12, 21)] := vx_table (x := yL_vanAt) B (hts _ (List.mem_of_getElem? (i := 0) rfl))
  have hown : s.vm.findClass RL = some m.cls := findClass_of_methodNamed B.named
  have hlocks := B.notSynchronized
  have hS : va_S (zA Γ) s.heap s.heap [] := va_S.rf
  have hl := lv_entry ([.ref (lo (10, 0, 0)), .int i_1, .ref qo]) (n := 4) (Nat.le_of_ble_eq_true rfl)
  rw [lg_entry_eq]
  generalize (lg_sl ([.ref (lo (10, 0, 0)), .int i_1, .ref qo]) ++ List.replicate (4 - (lg_sl ([.ref (lo (10, 0, 0)), .int i_1, .ref qo])).length) Slot.unset).toArray = ls at hl ⊢
  have hl : lv_has ls 4 [(0, .ref (lo (10, 0, 0))), (1, .int i_1), (2, .ref qo)] := hl
  generalize ([.ref (lo (10, 0, 0)), .int i_1, .ref qo] : List Value).toArray = args at hts ⊢
  obtain ⟨H, hH0⟩ : ∃ H, H = s.heap := ⟨_, rfl⟩
  obtain ⟨locs, hlo0⟩ : ∃ L : List Loc, L = [] := ⟨_, rfl⟩
  have hS : va_S (zA Γ) s.heap H locs := by rw [hH0, hlo0]; exact hS
  have hW : Wd Γ lo S (Z ++ [zOut Γ qo O]) H := by rw [hH0]; exact hW
  rw [← hH0, ← hlo0]
  refine lv_aload_n hx hb dL_vanAt_0 rfl (lv_at hl 2 rfl) ?_
  refine lv_iconst (v := (0)) hx hb dL_vanAt_1 (by decide) ?_
  refine lv_aload_n hx hb dL_vanAt_2 rfl (lv_at hl 0 rfl) ?_
  refine lv_iload_n hx hb dL_vanAt_3 rfl (lv_at hl 1 rfl) ?_
  refine l_thr (rest := [.int 0, .ref qo]) (vx_runV (As := [.int i_1]) ⟨hx, hb, hml, hown, hts⟩ (uX9_vanAt l hl0 Γ lo S (Z ++ [zOut Γ qo O]) v_z hf) (cwV 1 hts gL_vanAt_X9_vanAt rfl rfl rfl (by decide +kernel) ⟨Nat.le_of_ble_eq_true rfl, Nat.le_of_ble_eq_true rfl⟩) ⟨fun _ _ _ _ q => q, va_recv (q0 := 0) hKK.1 (wd_1 hW v_z) rfl rfl, fun _ hU hW1 => ⟨rfl, by rw [hU]; exact hW, hKK.go hS hU hW1, hKX.go hW1⟩⟩ rfl rfl hl.1 rfl (lv_room (Nat.le_of_ble_eq_true rfl)) dL_vanAt_4 ⟨Nat.le_of_ble_eq_true rfl, Nat.le_of_ble_eq_true rfl⟩) hS (fun q H locs ce hW hS hm1 hce hcv hcl => ?_)
  obtain ⟨en, eS⟩ := ee
  dsimp only at hn hW hm1 hcl ⊢
  subst hn
  refine vx_catch (own := RL) (name := "java/lang/IndexOutOfBoundsException") hown [] ⟨0, 9, 12, 21⟩ [] ht (fun z hz => by cases hz) rfl (Nat.succ_ne_zero _) (hts (.classLink RL 21 "java/lang/IndexOutOfBoundsException") (List.mem_of_getElem? (i := 1) rfl)) (va_Nw.use rfl (hKX.2.2 1)) hce hcv hcl ?_
  refine lv_astore_n (lv' := [(3, .ref q), (0, .ref (lo (10, 0, 0))), (1, .int i_1), (2, .ref qo)]) hx hb dL_vanAt_12 rfl hl (by decide) rfl (fun ls hl => ?_)
  refine lv_iconst (v := (1)) hx hb dL_vanAt_13 (by decide) ?_
  exact n_iret hx hb hr hlocks (Nat.le_of_ble_eq_true rfl) (Nat.le_of_ble_eq_true rfl) rfl rfl hW hS (fun _ _ => rfl) (fun d hd => (hm1 d).trans hd) trivial dL_vanAt_14

