theorem ni_X7_init_Jx4a65c : ∀ w ∈ wsJx4a65c0, w ∈ wsX7_init := by decide +kernel
theorem ni_X7_init_X6 : ∀ w ∈ wsX60, w ∈ wsX7_init := by decide +kernel
theorem ni_X7_init_X7 : ∀ w ∈ wsX70, w ∈ wsX7_init := by decide +kernel
def fX7_init (S : zSt) (g_a : Nat) (i_1 : Int32) (i_2 : Int32) : Option zSt :=
cl (fJ_init S (g_a + 2)) fun S3 =>
cl (fX6_init S3 0 g_a) fun S7 =>
gd (zV S7 (8, g_a, 0) = false) (st (nw S7 (8, g_a, 0) (fun k => ([i_1, i_2, (0 : Int32), (0 : Int32), (-1 : Int32), (0 : Int32), (0 : Int32), (0 : Int32)] : List Int32).getD k 0) (fun _ => 0) (fun _ => none) (fun _ => 0)) fun S10 =>
some (S10))
abbrev rmX7_init : Room := { frames := 4, cells := 4, slots := 17, locals := 80 }
set_option maxHeartbeats 4000000 in
set_option maxRecDepth 100000 in
theorem tX7_init (l : Launch) (Γ : zG) (lo0 : zId → Nat) (S : zSt) (X : va_W) (q_z : Nat) {g_a : Nat} {i_1 : Int32} {i_2 : Int32}  {y : zSt} (hf : fX7_init S g_a i_1 i_2 = some y) : Met l yX7_init wsX7_init rmX7_init (zP2 Γ lo0 S ((q_z, .inr (8, [.int 0, .int 0, .null, .null, .int 0, .int 0, .int 0, .int 0])) :: X) [.ref q_z, .int i_1, .int i_2]) (zQn Γ lo0 S y X (fun _ => none) (fun lo1 => lo1 (8, g_a, 0) = q_z ∧ zV y (8, g_a, 0) = true)) 4 17 (zA Γ) := by
  refine Met.ofW (cc := cX7_init) (maxL := 3) (ret := none) (by decide) rfl ?_
  intro p e s m args below meth c s₁ B hml hv
  obtain ⟨rfl, hW, hKK, hKY⟩ := hv
  have hx := B.exec
  have hb := B.bytes
  have hr := B.returns
  have hts := atoms_spec (ws := wsX7_init) B.pre
  have hown : s.vm.findClass RX7 = some m.cls := findClass_of_methodNamed B.named
  have hlocks := B.notSynchronized
  have hin : meth.name = "<init>" := (name_of_methodNamed B.named B.method).1
  have hS : va_S (zA Γ) s.heap s.heap [] := va_S.rf
  have hB0 : Γ.2.2.1 ≤ s.heap.size := hW.1
  have hm : ∀ c, zV S c = true → zV S c = true := fun _ h => h
  have hl := lv_entry ([.ref q_z, .int i_1, .int i_2]) (n := 3) (Nat.le_of_ble_eq_true rfl)
  rw [lg_entry_eq]
  generalize (lg_sl ([.ref q_z, .int i_1, .int i_2]) ++ List.replicate (3 - (lg_sl ([.ref q_z, .int i_1, .int i_2])).length) Slot.unset).toArray = ls at hl ⊢
  have hl : lv_has ls 3 [(0, .ref q_z), (1, .int i_1), (2, .int i_2)] := hl
  generalize ([.ref q_z, .int i_1, .int i_2] : List Value).toArray = args at hts ⊢
  obtain ⟨H, hH0⟩ : ∃ H, H = s.heap := ⟨_, rfl⟩
  obtain ⟨locs, hlo0⟩ : ∃ L : List Loc, L = [] := ⟨_, rfl⟩
  have hS : va_S (zA Γ) s.heap H locs := by rw [hH0, hlo0]; exact hS
  have hW : Wd Γ lo0 S ((q_z, .inr (8, [.int 0, .int 0, .null, .null, .int 0, .int 0, .int 0, .int 0])) :: X) H := by rw [hH0]; exact hW
  rw [← hH0, ← hlo0]
  obtain ⟨lo, hle⟩ : ∃ z : zId → Nat, z = lo0 := ⟨_, rfl⟩
  have hlo : ∀ d, zV S d = true → lo d = lo0 d := fun d _ => by rw [hle]
  have hW : Wd Γ lo S ((q_z, .inr (8, [.int 0, .int 0, .null, .null, .int 0, .int 0, .int 0, .int 0])) :: X) H := by rw [hle]; exact hW
  have hl : lv_has ls 3 [(0, .ref q_z), (1, .int i_1), (2, .int i_2)] := by first | (rw [hle]; exact hl) | exact hl
  unfold fX7_init at hf
  refine lv_aload_n hx hb dX7_init_0 rfl (lv_at hl 0 rfl) ?_
  refine W.objInit hx hb hown (hts (.methodLink RX7 3 objectInit) (List.mem_of_getElem? (i := 1) rfl)) (hts (.instanceMethod objectInit) (List.mem_of_getElem? (i := 2) rfl)) (hts (.code objectInit ⟨#[0xb1]⟩ 1 none) (List.mem_of_getElem? (i := 3) rfl)) rfl (hl.1.trans hml.symm) rfl dX7_init_1 (Nat.le_of_ble_eq_true rfl) (Nat.le_of_ble_eq_true rfl) ?_
  refine W.eq (g2 := F0 m 4 ls []) rfl ?_
  refine lv_aload_n hx hb dX7_init_4 rfl (lv_at hl 0 rfl) ?_
  refine n_new hx hb hts ni_X7_init_Jx4a65c tyJx4a65c tyJx4a65c_ok hown (hts (.classLink RX7 9 RJx4a65c) (List.mem_of_getElem? (i := 4) rfl)) (hts (.instantiable RJx4a65c 3) (List.mem_of_getElem? (i := 5) rfl)) (hts (.initialized RJx4a65c) (List.mem_of_getElem? (i := 6) rfl)) hKK.1 hW hS hB0 (ci := 0) rfl (fs := [.int 0, .null, .int 0]) df_Jx4a65c (Nat.le_of_ble_eq_true rfl) (Nat.le_of_ble_eq_true rfl) dX7_init_5 (fun q1 H hW hS => ?_)
  refine lv_dup hx hb dX7_init_8 rfl ?_
  obtain ⟨S3, hc2, hf⟩ := op_cl hf
  refine n_callI (As := []) (rest := [.ref q1, .ref q_z]) ⟨hx, hb, hml, hown, hts⟩ (tJ_init l Γ lo S ((q_z, .inr (8, [.int 0, .int 0, .null, .null, .int 0, .int 0, .int 0, .int 0])) :: X) q1  hc2) (cwI 0 hts gX7_init_Jx4a65c_init_da8c8 rfl rfl rfl (hts (.initialized RJx4a65c) (List.mem_of_getElem? (i := 6) rfl)) (hts (.methodLink RX7 11 yJx4a65c_init_da8c8) (List.mem_of_getElem? (i := 18) rfl)) (hts (.instanceMethod yJx4a65c_init_da8c8) (List.mem_of_getElem? (i := 19) rfl)) rfl (by decide +kernel) ⟨Nat.le_of_ble_eq_true rfl, Nat.le_of_ble_eq_true rfl⟩) hKK hKY hW hS rfl hl.1 rfl (Nat.le_of_ble_eq_true rfl) dX7_init_9 ⟨Nat.le_of_ble_eq_true rfl, Nat.le_of_ble_eq_true rfl⟩ (fun lo1 H locs hW hS h1 hmo hE => ?_)
  obtain ⟨hq, v4⟩ := hE
  rw [← hq]
  have hlo : ∀ d, zV S d = true → lo1 d = lo0 d := fun d hd => (h1 d (hm d hd)).trans (hlo d hd)
  rename zId → Nat => lo
  have hm : ∀ c, zV S c = true → zV S3 c = true := fun c h => hmo c (hm c h)
  refine x_putF hx hb hts ni_X7_init_X7 tyX7 tyX7_ok nmX7 hown hKK.1 hW hS 0 rfl rfl 2 (by decide) (hts (.fieldLink RX7 12 "TiltRoute$Table" "bumpers" "Ljava/util/ArrayList;") (List.mem_of_getElem? (i := 7) rfl)) rfl rfl hin rfl rfl rfl rfl (show 2 < 8 by decide) dX7_init_12 (fun H locs hW hS => ?_)
  have hW : Wd Γ lo S3 ((q_z, .inr (8, [.int 0, .int 0, .ref (lo (0, (g_a + 2), 0)), .null, .int 0, .int 0, .int 0, .int 0])) :: X) H := hW
  refine lv_aload_n hx hb dX7_init_15 rfl (lv_at hl 0 rfl) ?_
  refine n_new hx hb hts ni_X7_init_X6 tyX6 tyX6_ok hown (hts (.classLink RX7 18 RX6) (List.mem_of_getElem? (i := 8) rfl)) (hts (.instantiable RX6 2) (List.mem_of_getElem? (i := 9) rfl)) (hts (.initialized RX6) (List.mem_of_getElem? (i := 10) rfl)) hKK.1 hW hS hB0 (ci := 7) rfl (fs := [.null, .null]) df_X6 (Nat.le_of_ble_eq_true rfl) (Nat.le_of_ble_eq_true rfl) dX7_init_16 (fun q5 H hW hS => ?_)
  refine lv_dup hx hb dX7_init_19 rfl ?_
  obtain ⟨S7, hc6, hf⟩ := op_cl hf
  refine n_callIN (As := []) (rest := [.ref q5, .ref q_z]) ⟨hx, hb, hml, hown, hts⟩ (tX6_init l Γ lo S3 ((q_z, .inr (8, [.int 0, .int 0, .ref (lo (0, (g_a + 2), 0)), .null, .int 0, .int 0, .int 0, .int 0])) :: X) q5  hc6) ⟨va_cnB 0 hts gX7_init_X6_init_n20 rfl rfl rfl (hKY.2.2 _ (List.mem_of_getElem? (i := 0) rfl)) (hts (.initialized RX6) (List.mem_of_getElem? (i := 10) rfl)) (by decide +kernel) ⟨Nat.le_of_ble_eq_true rfl, Nat.le_of_ble_eq_true rfl⟩, rfl, hts (.instanceMethod yX6_init) (List.mem_of_getElem? (i := 33) rfl)⟩ hKK hKY hW hS rfl hl.1 rfl (Nat.le_of_ble_eq_true rfl) dX7_init_20 ⟨Nat.le_of_ble_eq_true rfl, Nat.le_of_ble_eq_true rfl⟩ (fun lo1 H locs hW hS h1 hmo hE => ?_)
  obtain ⟨hq, v8⟩ := hE
  rw [← hq]
  rw [← h1 (0, (g_a + 2), 0) v4] at hW
  have hlo : ∀ d, zV S d = true → lo1 d = lo0 d := fun d hd => (h1 d (hm d hd)).trans (hlo d hd)
  rename zId → Nat => lo
  have hm : ∀ c, zV S c = true → zV S7 c = true := fun c h => hmo c (hm c h)
  have v4 : zV S7 (0, (g_a + 2), 0) = true := hmo _ v4
  refine x_putF hx hb hts ni_X7_init_X7 tyX7 tyX7_ok nmX7 hown hKK.1 hW hS 0 rfl rfl 3 (by decide) (hts (.fieldLink RX7 21 "TiltRoute$Table" "rules" "LTiltRoute$Rules;") (List.mem_of_getElem? (i := 11) rfl)) rfl rfl hin rfl rfl rfl rfl (show 3 < 8 by decide) dX7_init_23 (fun H locs hW hS => ?_)
  have hW : Wd Γ lo S7 ((q_z, .inr (8, [.int 0, .int 0, .ref (lo (0, (g_a + 2), 0)), .ref (lo (7, 0, g_a)), .int 0, .int 0, .int 0, .int 0])) :: X) H := hW
  refine lv_aload_n hx hb dX7_init_26 rfl (lv_at hl 0 rfl) ?_
  refine lv_iconst (v := (-1)) hx hb dX7_init_27 (by decide) ?_
  refine x_put hx hb hts ni_X7_init_X7 tyX7 tyX7_ok nmX7 hown hKK.1 hW hS 0 rfl rfl 4 (by decide) (hts (.fieldLink RX7 25 "TiltRoute$Table" "game" "I") (List.mem_of_getElem? (i := 12) rfl)) rfl rfl rfl rfl rfl (show 4 < 8 by decide) dX7_init_28 (fun H locs hW hS => ?_)
  have hW : Wd Γ lo S7 ((q_z, .inr (8, [.int 0, .int 0, .ref (lo (0, (g_a + 2), 0)), .ref (lo (7, 0, g_a)), .int (-1 : Int32), .int 0, .int 0, .int 0])) :: X) H := hW
  refine lv_aload_n hx hb dX7_init_31 rfl (lv_at hl 0 rfl) ?_
  refine lv_iconst (v := (0)) hx hb dX7_init_32 (by decide) ?_
  refine x_put hx hb hts ni_X7_init_X7 tyX7 tyX7_ok nmX7 hown hKK.1 hW hS 0 rfl rfl 5 (by decide) (hts (.fieldLink RX7 29 "TiltRoute$Table" "box" "I") (List.mem_of_getElem? (i := 13) rfl)) rfl rfl rfl rfl rfl (show 5 < 8 by decide) dX7_init_33 (fun H locs hW hS => ?_)
  have hW : Wd Γ lo S7 ((q_z, .inr (8, [.int 0, .int 0, .ref (lo (0, (g_a + 2), 0)), .ref (lo (7, 0, g_a)), .int (-1 : Int32), .int (0 : Int32), .int 0, .int 0])) :: X) H := hW
  refine lv_aload_n hx hb dX7_init_36 rfl (lv_at hl 0 rfl) ?_
  refine lv_iconst (v := (0)) hx hb dX7_init_37 (by decide) ?_
  refine x_put hx hb hts ni_X7_init_X7 tyX7 tyX7_ok nmX7 hown hKK.1 hW hS 0 rfl rfl 6 (by decide) (hts (.fieldLink RX7 32 "TiltRoute$Table" "brought" "I") (List.mem_of_getElem? (i := 14) rfl)) rfl rfl rfl rfl rfl (show 6 < 8 by decide) dX7_init_38 (fun H locs hW hS => ?_)
  have hW : Wd Γ lo S7 ((q_z, .inr (8, [.int 0, .int 0, .ref (lo (0, (g_a + 2), 0)), .ref (lo (7, 0, g_a)), .int (-1 : Int32), .int (0 : Int32), .int (0 : Int32), .int 0])) :: X) H := hW
  refine lv_aload_n hx hb dX7_init_41 rfl (lv_at hl 0 rfl) ?_
  refine lv_iconst (v := (0)) hx hb dX7_init_42 (by decide) ?_
  refine x_put hx hb hts ni_X7_init_X7 tyX7 tyX7_ok nmX7 hown hKK.1 hW hS 0 rfl rfl 7 (by decide) (hts (.fieldLink RX7 35 "TiltRoute$Table" "missing" "I") (List.mem_of_getElem? (i := 15) rfl)) rfl rfl rfl rfl rfl (show 7 < 8 by decide) dX7_init_43 (fun H locs hW hS => ?_)
  have hW : Wd Γ lo S7 ((q_z, .inr (8, [.int 0, .int 0, .ref (lo (0, (g_a + 2), 0)), .ref (lo (7, 0, g_a)), .int (-1 : Int32), .int (0 : Int32), .int (0 : Int32), .int (0 : Int32)])) :: X) H := hW
  refine lv_aload_n hx hb dX7_init_46 rfl (lv_at hl 0 rfl) ?_
  refine lv_iload_n hx hb dX7_init_47 rfl (lv_at hl 1 rfl) ?_
  refine x_putF hx hb hts ni_X7_init_X7 tyX7 tyX7_ok nmX7 hown hKK.1 hW hS 0 rfl rfl 0 (by decide) (hts (.fieldLink RX7 38 "TiltRoute$Table" "site" "I") (List.mem_of_getElem? (i := 16) rfl)) rfl rfl hin rfl rfl rfl rfl (show 0 < 8 by decide) dX7_init_48 (fun H locs hW hS => ?_)
  have hW : Wd Γ lo S7 ((q_z, .inr (8, [.int i_1, .int 0, .ref (lo (0, (g_a + 2), 0)), .ref (lo (7, 0, g_a)), .int (-1 : Int32), .int (0 : Int32), .int (0 : Int32), .int (0 : Int32)])) :: X) H := hW
  refine lv_aload_n hx hb dX7_init_51 rfl (lv_at hl 0 rfl) ?_
  refine lv_iload_n hx hb dX7_init_52 rfl (lv_at hl 2 rfl) ?_
  refine x_putF hx hb hts ni_X7_init_X7 tyX7 tyX7_ok nmX7 hown hKK.1 hW hS 0 rfl rfl 1 (by decide) (hts (.fieldLink RX7 41 "TiltRoute$Table" "price" "I") (List.mem_of_getElem? (i := 17) rfl)) rfl rfl hin rfl rfl rfl rfl (show 1 < 8 by decide) dX7_init_53 (fun H locs hW hS => ?_)
  have hW : Wd Γ lo S7 ((q_z, .inr (8, [.int i_1, .int i_2, .ref (lo (0, (g_a + 2), 0)), .ref (lo (7, 0, g_a)), .int (-1 : Int32), .int (0 : Int32), .int (0 : Int32), .int (0 : Int32)])) :: X) H := hW
  obtain ⟨h9, hf⟩ := op_gd hf
  obtain ⟨S10, eS10, hf⟩ := op_st hf
  have hne : ∀ d, zV S7 d = true → d ≠ (8, g_a, 0) := fun d hd e => by rw [e, h9] at hd; cases hd
  have hW := wd_name hW (8, g_a, 0) h9 (fun k => ([i_1, i_2, (0 : Int32), (0 : Int32), (-1 : Int32), (0 : Int32), (0 : Int32), (0 : Int32)] : List Int32).getD k 0) (fun _ => 0) (fun _ => none) (fun _ => 0) (by rw [show lo (0, (g_a + 2), 0) = lu lo (8, g_a, 0) q_z (0, (g_a + 2), 0) from (lu_n lo q_z (hne _ v4)).symm]; rw [show lo (7, 0, g_a) = lu lo (8, g_a, 0) q_z (7, 0, g_a) from (lu_n lo q_z (hne _ v8)).symm]; rfl) (fun d hd => by rcases hd with rfl | rfl <;> assumption)
  rw [← eS10] at hW
  have h1 : ∀ d, zV S7 d = true → lu lo (8, g_a, 0) q_z d = lo d := fun d hd => lu_n lo q_z (hne d hd)
  obtain ⟨lo1, hl1⟩ : ∃ z, z = lu lo (8, g_a, 0) q_z := ⟨_, rfl⟩
  have hEq_z : lo1 (8, g_a, 0) = q_z := by rw [hl1]; exact lu_s lo _ _
  rw [← hl1] at hW h1
  have hmo : ∀ c, zV S7 c = true → zV S10 c = true := fun c h => by rw [eS10]; exact zV_nwm _ _ _ _ _ _ c h
  have hlo : ∀ d, zV S d = true → lo1 d = lo0 d := fun d hd => (h1 d (hm d hd)).trans (hlo d hd)
  rename zId → Nat => lo
  have hm : ∀ c, zV S c = true → zV S10 c = true := fun c h => hmo c (hm c h)
  have wq_z : zV S10 (8, g_a, 0) = true := by rw [eS10]; exact zV_nws _ _ _ _ _ _
  have hf := Option.some.inj hf
  rw [← hf]
  exact n_vret hx hb hr hlocks (Nat.le_of_ble_eq_true rfl) (Nat.le_of_ble_eq_true rfl) rfl hW hS hlo hm ⟨hEq_z, wq_z⟩ dX7_init_56

theorem ni_X2_init_X2 : ∀ w ∈ wsX20, w ∈ wsX2_init := by decide +kernel
theorem ni_X2_init_X5 : ∀ w ∈ wsX50, w ∈ wsX2_init := by decide +kernel
def fX2_init (S : zSt) (g_a : Nat) (i_1 : Int32) : Option zSt :=
cl (fX5_init S 0 g_a) fun S3 =>
gd (zV S3 (16, g_a, 0) = false) (st (nw S3 (16, g_a, 0) (fun _ => 0) (fun _ => 0) (fun _ => none) (fun _ => 0)) fun S7 =>
gd (zV S7 (3, g_a, 0) = false) (st (nw S7 (3, g_a, 0) (fun k => ([i_1, (0 : Int32), (0 : Int32), (0 : Int32), (0 : Int32), (0 : Int32)] : List Int32).getD k 0) (fun _ => 0) (fun _ => none) (fun _ => 0)) fun S9 =>
some (S9)))
abbrev rmX2_init : Room := { frames := 2, cells := 4, slots := 2530, locals := 40 }
set_option maxHeartbeats 4000000 in
set_option maxRecDepth 100000 in
theorem tX2_init (l : Launch) (Γ : zG) (lo0 : zId → Nat) (S : zSt) (X : va_W) (q_z : Nat) {g_a : Nat} {i_1 : Int32} (v_2 : zV S (7, 1, g_a) = true) {y : zSt} (hf : fX2_init S g_a i_1 = some y) : Met l yX2_init wsX2_init rmX2_init (zP2 Γ lo0 S ((q_z, .inr (3, [.int 0, .null, .null, .null, .int 0, .int 0])) :: X) [.ref q_z, .int i_1, .ref (lo0 (7, 1, g_a))]) (zQn Γ lo0 S y X (fun _ => none) (fun lo1 => lo1 (3, g_a, 0) = q_z ∧ zV y (3, g_a, 0) = true)) 4 2530 (zA Γ) := by
  refine Met.ofW (cc := cX2_init) (maxL := 3) (ret := none) (by decide) rfl ?_
  intro p e s m args below meth c s₁ B hml hv
  obtain ⟨rfl, hW, hKK, hKY⟩ := hv
  have hx := B.exec
  have hb := B.bytes
  have hr := B.returns
  have hts := atoms_spec (ws := wsX2_init) B.pre
  have hown : s.vm.findClass RX2 = some m.cls := findClass_of_methodNamed B.named
  have hlocks := B.notSynchronized
  have hin : meth.name = "<init>" := (name_of_methodNamed B.named B.method).1
  have hS : va_S (zA Γ) s.heap s.heap [] := va_S.rf
  have hB0 : Γ.2.2.1 ≤ s.heap.size := hW.1
  have hm : ∀ c, zV S c = true → zV S c = true := fun _ h => h
  have hl := lv_entry ([.ref q_z, .int i_1, .ref (lo0 (7, 1, g_a))]) (n := 3) (Nat.le_of_ble_eq_true rfl)
  rw [lg_entry_eq]
  generalize (lg_sl ([.ref q_z, .int i_1, .ref (lo0 (7, 1, g_a))]) ++ List.replicate (3 - (lg_sl ([.ref q_z, .int i_1, .ref (lo0 (7, 1, g_a))])).length) Slot.unset).toArray = ls at hl ⊢
  have hl : lv_has ls 3 [(0, .ref q_z), (1, .int i_1), (2, .ref (lo0 (7, 1, g_a)))] := hl
  generalize ([.ref q_z, .int i_1, .ref (lo0 (7, 1, g_a))] : List Value).toArray = args at hts ⊢
  obtain ⟨H, hH0⟩ : ∃ H, H = s.heap := ⟨_, rfl⟩
  obtain ⟨locs, hlo0⟩ : ∃ L : List Loc, L = [] := ⟨_, rfl⟩
  have hS : va_S (zA Γ) s.heap H locs := by rw [hH0, hlo0]; exact hS
  have hW : Wd Γ lo0 S ((q_z, .inr (3, [.int 0, .null, .null, .null, .int 0, .int 0])) :: X) H := by rw [hH0]; exact hW
  rw [← hH0, ← hlo0]
  obtain ⟨lo, hle⟩ : ∃ z : zId → Nat, z = lo0 := ⟨_, rfl⟩
  have hlo : ∀ d, zV S d = true → lo d = lo0 d := fun d _ => by rw [hle]
  have hW : Wd Γ lo S ((q_z, .inr (3, [.int 0, .null, .null, .null, .int 0, .int 0])) :: X) H := by rw [hle]; exact hW
  have hl : lv_has ls 3 [(0, .ref q_z), (1, .int i_1), (2, .ref (lo (7, 1, g_a)))] := by first | (rw [hle]; exact hl) | exact hl
  unfold fX2_init at hf
  refine lv_aload_n hx hb dX2_init_0 rfl (lv_at hl 0 rfl) ?_
  refine W.objInit hx hb hown (hts (.methodLink RX2 3 objectInit) (List.mem_of_getElem? (i := 1) rfl)) (hts (.instanceMethod objectInit) (List.mem_of_getElem? (i := 2) rfl)) (hts (.code objectInit ⟨#[0xb1]⟩ 1 none) (List.mem_of_getElem? (i := 3) rfl)) rfl (hl.1.trans hml.symm) rfl dX2_init_1 (Nat.le_of_ble_eq_true rfl) (Nat.le_of_ble_eq_true rfl) ?_
  refine W.eq (g2 := F0 m 4 ls []) rfl ?_
  refine lv_aload_n hx hb dX2_init_4 rfl (lv_at hl 0 rfl) ?_
  refine n_new hx hb hts ni_X2_init_X5 tyX5 tyX5_ok hown (hts (.classLink RX2 9 RX5) (List.mem_of_getElem? (i := 4) rfl)) (hts (.instantiable RX5 4) (List.mem_of_getElem? (i := 5) rfl)) (hts (.initialized RX5) (List.mem_of_getElem? (i := 6) rfl)) hKK.1 hW hS hB0 (ci := 6) rfl (fs := [.null, .null, .int 0, .int 0]) df_X5 (Nat.le_of_ble_eq_true rfl) (Nat.le_of_ble_eq_true rfl) dX2_init_5 (fun q1 H hW hS => ?_)
  refine lv_dup hx hb dX2_init_8 rfl ?_
  obtain ⟨S3, hc2, hf⟩ := op_cl hf
  refine n_callIN (As := []) (rest := [.ref q1, .ref q_z]) ⟨hx, hb, hml, hown, hts⟩ (tX5_init l Γ lo S ((q_z, .inr (3, [.int 0, .null, .null, .null, .int 0, .int 0])) :: X) q1  hc2) ⟨va_cnB 0 hts gX2_init_X5_init_n11 rfl rfl rfl (hKY.2.2 _ (List.mem_of_getElem? (i := 1) rfl)) (hts (.initialized RX5) (List.mem_of_getElem? (i := 6) rfl)) (by decide +kernel) ⟨Nat.le_of_ble_eq_true rfl, Nat.le_of_ble_eq_true rfl⟩, rfl, hts (.instanceMethod yX5_init) (List.mem_of_getElem? (i := 14) rfl)⟩ hKK hKY hW hS rfl hl.1 rfl (Nat.le_of_ble_eq_true rfl) dX2_init_9 ⟨Nat.le_of_ble_eq_true rfl, Nat.le_of_ble_eq_true rfl⟩ (fun lo1 H locs hW hS h1 hmo hE => ?_)
  obtain ⟨hq, v4⟩ := hE
  rw [← hq]
  rw [← h1 (7, 1, g_a) v_2] at hl
  have hlo : ∀ d, zV S d = true → lo1 d = lo0 d := fun d hd => (h1 d (hm d hd)).trans (hlo d hd)
  rename zId → Nat => lo
  have hm : ∀ c, zV S c = true → zV S3 c = true := fun c h => hmo c (hm c h)
  have v_2 : zV S3 (7, 1, g_a) = true := hmo _ v_2
  refine x_putF hx hb hts ni_X2_init_X2 tyX2 tyX2_ok nmX2 hown hKK.1 hW hS 0 rfl rfl 2 (by decide) (hts (.fieldLink RX2 12 "TiltRoute$Game" "play" "LTiltRoute$Play;") (List.mem_of_getElem? (i := 7) rfl)) rfl rfl hin rfl rfl rfl rfl (show 2 < 6 by decide) dX2_init_12 (fun H locs hW hS => ?_)
  have hW : Wd Γ lo S3 ((q_z, .inr (3, [.int 0, .null, .ref (lo (6, 0, g_a)), .null, .int 0, .int 0])) :: X) H := hW
  refine lv_aload_n hx hb dX2_init_15 rfl (lv_at hl 0 rfl) ?_
  refine lv_sipush (v := (2520)) hx hb dX2_init_16 (by decide) ?_
  refine n_newl (N' := 2520) hx hb (hts (.arrayClass .long) (List.mem_of_getElem? (i := 8) rfl)) hKK.1 hW hS hB0 (by decide) (by decide) (by decide) (Nat.le_of_ble_eq_true rfl) (Nat.le_of_ble_eq_true rfl) dX2_init_19 (fun q5 H hW hS => ?_)
  refine x_putF hx hb hts ni_X2_init_X2 tyX2 tyX2_ok nmX2 hown hKK.1 hW hS 1 rfl rfl 3 (by decide) (hts (.fieldLink RX2 18 "TiltRoute$Game" "log" "[J") (List.mem_of_getElem? (i := 9) rfl)) rfl rfl hin rfl rfl rfl rfl (show 3 < 6 by decide) dX2_init_21 (fun H locs hW hS => ?_)
  have hW : Wd Γ lo S3 ((q5, .inl (Γ.2.1 1, 2520, .inr (.inl (fun _ => 0)))) :: (q_z, .inr (3, [.int 0, .null, .ref (lo (6, 0, g_a)), .ref q5, .int 0, .int 0])) :: X) H := hW
  refine lv_aload_n hx hb dX2_init_24 rfl (lv_at hl 0 rfl) ?_
  refine lv_iconst (v := (0)) hx hb dX2_init_25 (by decide) ?_
  refine x_put hx hb hts ni_X2_init_X2 tyX2 tyX2_ok nmX2 hown hKK.1 hW hS 1 rfl rfl 4 (by decide) (hts (.fieldLink RX2 22 "TiltRoute$Game" "logged" "I") (List.mem_of_getElem? (i := 10) rfl)) rfl rfl rfl rfl rfl (show 4 < 6 by decide) dX2_init_26 (fun H locs hW hS => ?_)
  have hW : Wd Γ lo S3 ((q5, .inl (Γ.2.1 1, 2520, .inr (.inl (fun _ => 0)))) :: (q_z, .inr (3, [.int 0, .null, .ref (lo (6, 0, g_a)), .ref q5, .int (0 : Int32), .int 0])) :: X) H := hW
  refine lv_aload_n hx hb dX2_init_29 rfl (lv_at hl 0 rfl) ?_
  refine lv_iconst (v := (0)) hx hb dX2_init_30 (by decide) ?_
  refine x_put hx hb hts ni_X2_init_X2 tyX2 tyX2_ok nmX2 hown hKK.1 hW hS 1 rfl rfl 5 (by decide) (hts (.fieldLink RX2 26 "TiltRoute$Game" "ballsShot" "I") (List.mem_of_getElem? (i := 11) rfl)) rfl rfl rfl rfl rfl (show 5 < 6 by decide) dX2_init_31 (fun H locs hW hS => ?_)
  have hW : Wd Γ lo S3 ((q5, .inl (Γ.2.1 1, 2520, .inr (.inl (fun _ => 0)))) :: (q_z, .inr (3, [.int 0, .null, .ref (lo (6, 0, g_a)), .ref q5, .int (0 : Int32), .int (0 : Int32)])) :: X) H := hW
  refine lv_aload_n hx hb dX2_init_34 rfl (lv_at hl 0 rfl) ?_
  refine lv_iload_n hx hb dX2_init_35 rfl (lv_at hl 1 rfl) ?_
  refine x_putF hx hb hts ni_X2_init_X2 tyX2 tyX2_ok nmX2 hown hKK.1 hW hS 1 rfl rfl 0 (by decide) (hts (.fieldLink RX2 29 "TiltRoute$Game" "table" "I") (List.mem_of_getElem? (i := 12) rfl)) rfl rfl hin rfl rfl rfl rfl (show 0 < 6 by decide) dX2_init_36 (fun H locs hW hS => ?_)
  have hW : Wd Γ lo S3 ((q5, .inl (Γ.2.1 1, 2520, .inr (.inl (fun _ => 0)))) :: (q_z, .inr (3, [.int i_1, .null, .ref (lo (6, 0, g_a)), .ref q5, .int (0 : Int32), .int (0 : Int32)])) :: X) H := hW
  refine lv_aload_n hx hb dX2_init_39 rfl (lv_at hl 0 rfl) ?_
  refine lv_aload_n hx hb dX2_init_40 rfl (lv_at hl 2 rfl) ?_
  refine x_putF hx hb hts ni_X2_init_X2 tyX2 tyX2_ok nmX2 hown hKK.1 hW hS 1 rfl rfl 1 (by decide) (hts (.fieldLink RX2 32 "TiltRoute$Game" "rules" "LTiltRoute$Rules;") (List.mem_of_getElem? (i := 13) rfl)) rfl rfl hin rfl rfl rfl rfl (show 1 < 6 by decide) dX2_init_41 (fun H locs hW hS => ?_)
  have hW : Wd Γ lo S3 ((q5, .inl (Γ.2.1 1, 2520, .inr (.inl (fun _ => 0)))) :: (q_z, .inr (3, [.int i_1, .ref (lo (7, 1, g_a)), .ref (lo (6, 0, g_a)), .ref q5, .int (0 : Int32), .int (0 : Int32)])) :: X) H := hW
  obtain ⟨h6, hf⟩ := op_gd hf
  obtain ⟨S7, eS7, hf⟩ := op_st hf
  have hne : ∀ d, zV S3 d = true → d ≠ (16, g_a, 0) := fun d hd e => by rw [e, h6] at hd; cases hd
  have hW := wd_name hW (16, g_a, 0) h6 (fun _ => 0) (fun _ => 0) (fun _ => none) (fun _ => 0) (rfl) (fun d hd => hd.elim)
  rw [← eS7] at hW
  have h1 : ∀ d, zV S3 d = true → lu lo (16, g_a, 0) q5 d = lo d := fun d hd => lu_n lo q5 (hne d hd)
  obtain ⟨lo1, hl1⟩ : ∃ z, z = lu lo (16, g_a, 0) q5 := ⟨_, rfl⟩
  have hEq5 : lo1 (16, g_a, 0) = q5 := by rw [hl1]; exact lu_s lo _ _
  rw [← hl1] at hW h1
  have hmo : ∀ c, zV S3 c = true → zV S7 c = true := fun c h => by rw [eS7]; exact zV_nwm _ _ _ _ _ _ c h
  rw [← hEq5] at hW
  rw [← h1 (7, 1, g_a) v_2] at hl
  rw [← h1 (6, 0, g_a) v4] at hW
  rw [← h1 (7, 1, g_a) v_2] at hW
  have hlo : ∀ d, zV S d = true → lo1 d = lo0 d := fun d hd => (h1 d (hm d hd)).trans (hlo d hd)
  rename zId → Nat => lo
  have hm : ∀ c, zV S c = true → zV S7 c = true := fun c h => hmo c (hm c h)
  have v_2 : zV S7 (7, 1, g_a) = true := hmo _ v_2
  have v4 : zV S7 (6, 0, g_a) = true := hmo _ v4
  have wq5 : zV S7 (16, g_a, 0) = true := by rw [eS7]; exact zV_nws _ _ _ _ _ _
  obtain ⟨h8, hf⟩ := op_gd hf
  obtain ⟨S9, eS9, hf⟩ := op_st hf
  have hne : ∀ d, zV S7 d = true → d ≠ (3, g_a, 0) := fun d hd e => by rw [e, h8] at hd; cases hd
  have hW := wd_name hW (3, g_a, 0) h8 (fun k => ([i_1, (0 : Int32), (0 : Int32), (0 : Int32), (0 : Int32), (0 : Int32)] : List Int32).getD k 0) (fun _ => 0) (fun _ => none) (fun _ => 0) (by rw [show lo (6, 0, g_a) = lu lo (3, g_a, 0) q_z (6, 0, g_a) from (lu_n lo q_z (hne _ v4)).symm]; rw [show lo (16, g_a, 0) = lu lo (3, g_a, 0) q_z (16, g_a, 0) from (lu_n lo q_z (hne _ wq5)).symm]; rw [show lo (7, 1, g_a) = lu lo (3, g_a, 0) q_z (7, 1, g_a) from (lu_n lo q_z (hne _ v_2)).symm]; rfl) (fun d hd => by rcases hd with rfl | rfl | rfl <;> assumption)
  rw [← eS9] at hW
  have h1 : ∀ d, zV S7 d = true → lu lo (3, g_a, 0) q_z d = lo d := fun d hd => lu_n lo q_z (hne d hd)
  obtain ⟨lo1, hl1⟩ : ∃ z, z = lu lo (3, g_a, 0) q_z := ⟨_, rfl⟩
  have hEq_z : lo1 (3, g_a, 0) = q_z := by rw [hl1]; exact lu_s lo _ _
  rw [← hl1] at hW h1
  have hmo : ∀ c, zV S7 c = true → zV S9 c = true := fun c h => by rw [eS9]; exact zV_nwm _ _ _ _ _ _ c h
  rw [← h1 (7, 1, g_a) v_2] at hl
  have hlo : ∀ d, zV S d = true → lo1 d = lo0 d := fun d hd => (h1 d (hm d hd)).trans (hlo d hd)
  rename zId → Nat => lo
  have hm : ∀ c, zV S c = true → zV S9 c = true := fun c h => hmo c (hm c h)
  have v_2 : zV S9 (7, 1, g_a) = true := hmo _ v_2
  have wq5 : zV S9 (16, g_a, 0) = true := hmo _ wq5
  have wq_z : zV S9 (3, g_a, 0) = true := by rw [eS9]; exact zV_nws _ _ _ _ _ _
  have hf := Option.some.inj hf
  rw [← hf]
  exact n_vret hx hb hr hlocks (Nat.le_of_ble_eq_true rfl) (Nat.le_of_ble_eq_true rfl) rfl hW hS hlo hm ⟨hEq_z, wq_z⟩ dX2_init_44

theorem ni_X9_init_Jx4a65c : ∀ w ∈ wsJx4a65c0, w ∈ wsX9_init := by decide +kernel
theorem ni_X9_init_X4 : ∀ w ∈ wsX40, w ∈ wsX9_init := by decide +kernel
theorem ni_X9_init_X5 : ∀ w ∈ wsX50, w ∈ wsX9_init := by decide +kernel
theorem ni_X9_init_X8 : ∀ w ∈ wsX80, w ∈ wsX9_init := by decide +kernel
theorem ni_X9_init_X9 : ∀ w ∈ wsX90, w ∈ wsX9_init := by decide +kernel
def fX9_init (S : zSt)  : Option zSt :=
cl (fJ_init S 0) fun S3 =>
cl (fJ_init S3 1) fun S7 =>
cl (fX8_init S7 0) fun S11 =>
cl (fX8_init S11 1) fun S15 =>
cl (fX5_init S15 1 0) fun S20 =>
cl (fX4_init S20) fun S24 =>
gd (zV S24 (22, 0, 0) = false) (st (nw S24 (22, 0, 0) (fun _ => 0) (fun _ => 0) (fun _ => none) (fun _ => 0)) fun S28 =>
gd (zV S28 (21, 0, 0) = false) (st (nw S28 (21, 0, 0) (fun _ => 0) (fun _ => 0) (fun _ => none) (fun _ => 0)) fun S30 =>
gd (zV S30 (10, 0, 0) = false) (st (nw S30 (10, 0, 0) (fun k => ([(0 : Int32), (0 : Int32), (0 : Int32), (0 : Int32), (0 : Int32), (0 : Int32), (0 : Int32), (0 : Int32), (0 : Int32)] : List Int32).getD k 0) (fun _ => 0) (fun _ => none) (fun _ => 0)) fun S32 =>
some (S32))))
abbrev rmX9_init : Room := { frames := 4, cells := 15, slots := 147, locals := 80 }
set_option maxHeartbeats 4000000 in
set_option maxRecDepth 100000 in
theorem tX9_init (l : Launch) (Γ : zG) (lo0 : zId → Nat) (S : zSt) (X : va_W) (q_z : Nat)   {y : zSt} (hf : fX9_init S  = some y) : Met l yX9_init wsX9_init rmX9_init (zP2 Γ lo0 S ((q_z, .inr (10, [.null, .null, .null, .null, .null, .null, .null, .null, .int 0])) :: X) [.ref q_z]) (zQn Γ lo0 S y X (fun _ => none) (fun lo1 => lo1 (10, 0, 0) = q_z ∧ zV y (10, 0, 0) = true)) 15 147 (zA Γ) := by
  refine Met.ofW (cc := cX9_init) (maxL := 1) (ret := none) (by decide) rfl ?_
  intro p e s m args below meth c s₁ B hml hv
  obtain ⟨rfl, hW, hKK, hKY⟩ := hv
  have hx := B.exec
  have hb := B.bytes
  have hr := B.returns
  have hts := atoms_spec (ws := wsX9_init) B.pre
  have hown : s.vm.findClass RX9 = some m.cls := findClass_of_methodNamed B.named
  have hlocks := B.notSynchronized
  have hin : meth.name = "<init>" := (name_of_methodNamed B.named B.method).1
  have hS : va_S (zA Γ) s.heap s.heap [] := va_S.rf
  have hB0 : Γ.2.2.1 ≤ s.heap.size := hW.1
  have hm : ∀ c, zV S c = true → zV S c = true := fun _ h => h
  have hl := lv_entry ([.ref q_z]) (n := 1) (Nat.le_of_ble_eq_true rfl)
  rw [lg_entry_eq]
  generalize (lg_sl ([.ref q_z]) ++ List.replicate (1 - (lg_sl ([.ref q_z])).length) Slot.unset).toArray = ls at hl ⊢
  have hl : lv_has ls 1 [(0, .ref q_z)] := hl
  generalize ([.ref q_z] : List Value).toArray = args at hts ⊢
  obtain ⟨H, hH0⟩ : ∃ H, H = s.heap := ⟨_, rfl⟩
  obtain ⟨locs, hlo0⟩ : ∃ L : List Loc, L = [] := ⟨_, rfl⟩
  have hS : va_S (zA Γ) s.heap H locs := by rw [hH0, hlo0]; exact hS
  have hW : Wd Γ lo0 S ((q_z, .inr (10, [.null, .null, .null, .null, .null, .null, .null, .null, .int 0])) :: X) H := by rw [hH0]; exact hW
  rw [← hH0, ← hlo0]
  obtain ⟨lo, hle⟩ : ∃ z : zId → Nat, z = lo0 := ⟨_, rfl⟩
  have hlo : ∀ d, zV S d = true → lo d = lo0 d := fun d _ => by rw [hle]
  have hW : Wd Γ lo S ((q_z, .inr (10, [.null, .null, .null, .null, .null, .null, .null, .null, .int 0])) :: X) H := by rw [hle]; exact hW
  have hl : lv_has ls 1 [(0, .ref q_z)] := by first | (rw [hle]; exact hl) | exact hl
  unfold fX9_init at hf
  refine lv_aload_n hx hb dX9_init_0 rfl (lv_at hl 0 rfl) ?_
  refine W.objInit hx hb hown (hts (.methodLink RX9 3 objectInit) (List.mem_of_getElem? (i := 1) rfl)) (hts (.instanceMethod objectInit) (List.mem_of_getElem? (i := 2) rfl)) (hts (.code objectInit ⟨#[0xb1]⟩ 1 none) (List.mem_of_getElem? (i := 3) rfl)) rfl (hl.1.trans hml.symm) rfl dX9_init_1 (Nat.le_of_ble_eq_true rfl) (Nat.le_of_ble_eq_true rfl) ?_
  refine W.eq (g2 := F0 m 4 ls []) rfl ?_
  refine lv_aload_n hx hb dX9_init_4 rfl (lv_at hl 0 rfl) ?_
  refine n_new hx hb hts ni_X9_init_Jx4a65c tyJx4a65c tyJx4a65c_ok hown (hts (.classLink RX9 9 RJx4a65c) (List.mem_of_getElem? (i := 4) rfl)) (hts (.instantiable RJx4a65c 3) (List.mem_of_getElem? (i := 5) rfl)) (hts (.initialized RJx4a65c) (List.mem_of_getElem? (i := 6) rfl)) hKK.1 hW hS hB0 (ci := 0) rfl (fs := [.int 0, .null, .int 0]) df_Jx4a65c (Nat.le_of_ble_eq_true rfl) (Nat.le_of_ble_eq_true rfl) dX9_init_5 (fun q1 H hW hS => ?_)
  refine lv_dup hx hb dX9_init_8 rfl ?_
  obtain ⟨S3, hc2, hf⟩ := op_cl hf
  refine n_callI (As := []) (rest := [.ref q1, .ref q_z]) ⟨hx, hb, hml, hown, hts⟩ (tJ_init l Γ lo S ((q_z, .inr (10, [.null, .null, .null, .null, .null, .null, .null, .null, .int 0])) :: X) q1  hc2) (cwI 0 hts gX9_init_Jx4a65c_init_da8c8 rfl rfl rfl (hts (.initialized RJx4a65c) (List.mem_of_getElem? (i := 6) rfl)) (hts (.methodLink RX9 11 yJx4a65c_init_da8c8) (List.mem_of_getElem? (i := 27) rfl)) (hts (.instanceMethod yJx4a65c_init_da8c8) (List.mem_of_getElem? (i := 28) rfl)) rfl (by decide +kernel) ⟨Nat.le_of_ble_eq_true rfl, Nat.le_of_ble_eq_true rfl⟩) hKK hKY hW hS rfl hl.1 rfl (Nat.le_of_ble_eq_true rfl) dX9_init_9 ⟨Nat.le_of_ble_eq_true rfl, Nat.le_of_ble_eq_true rfl⟩ (fun lo1 H locs hW hS h1 hmo hE => ?_)
  obtain ⟨hq, v4⟩ := hE
  rw [← hq]
  have hlo : ∀ d, zV S d = true → lo1 d = lo0 d := fun d hd => (h1 d (hm d hd)).trans (hlo d hd)
  rename zId → Nat => lo
  have hm : ∀ c, zV S c = true → zV S3 c = true := fun c h => hmo c (hm c h)
  refine x_putF hx hb hts ni_X9_init_X9 tyX9 tyX9_ok nmX9 hown hKK.1 hW hS 0 rfl rfl 0 (by decide) (hts (.fieldLink RX9 12 "TiltRoute" "tables" "Ljava/util/ArrayList;") (List.mem_of_getElem? (i := 7) rfl)) rfl rfl hin rfl rfl rfl rfl (show 0 < 9 by decide) dX9_init_12 (fun H locs hW hS => ?_)
  have hW : Wd Γ lo S3 ((q_z, .inr (10, [.ref (lo (0, 0, 0)), .null, .null, .null, .null, .null, .null, .null, .int 0])) :: X) H := hW
  refine lv_aload_n hx hb dX9_init_15 rfl (lv_at hl 0 rfl) ?_
  refine n_new hx hb hts ni_X9_init_Jx4a65c tyJx4a65c tyJx4a65c_ok hown (hts (.classLink RX9 9 RJx4a65c) (List.mem_of_getElem? (i := 4) rfl)) (hts (.instantiable RJx4a65c 3) (List.mem_of_getElem? (i := 5) rfl)) (hts (.initialized RJx4a65c) (List.mem_of_getElem? (i := 6) rfl)) hKK.1 hW hS hB0 (ci := 0) rfl (fs := [.int 0, .null, .int 0]) df_Jx4a65c (Nat.le_of_ble_eq_true rfl) (Nat.le_of_ble_eq_true rfl) dX9_init_16 (fun q5 H hW hS => ?_)
  refine lv_dup hx hb dX9_init_19 rfl ?_
  obtain ⟨S7, hc6, hf⟩ := op_cl hf
  refine n_callI (As := []) (rest := [.ref q5, .ref q_z]) ⟨hx, hb, hml, hown, hts⟩ (tJ_init l Γ lo S3 ((q_z, .inr (10, [.ref (lo (0, 0, 0)), .null, .null, .null, .null, .null, .null, .null, .int 0])) :: X) q5  hc6) (cwI 0 hts gX9_init_Jx4a65c_init_da8c8 rfl rfl rfl (hts (.initialized RJx4a65c) (List.mem_of_getElem? (i := 6) rfl)) (hts (.methodLink RX9 11 yJx4a65c_init_da8c8) (List.mem_of_getElem? (i := 27) rfl)) (hts (.instanceMethod yJx4a65c_init_da8c8) (List.mem_of_getElem? (i := 28) rfl)) rfl (by decide +kernel) ⟨Nat.le_of_ble_eq_true rfl, Nat.le_of_ble_eq_true rfl⟩) hKK hKY hW hS rfl hl.1 rfl (Nat.le_of_ble_eq_true rfl) dX9_init_20 ⟨Nat.le_of_ble_eq_true rfl, Nat.le_of_ble_eq_true rfl⟩ (fun lo1 H locs hW hS h1 hmo hE => ?_)
  obtain ⟨hq, v8⟩ := hE
  rw [← hq]
  rw [← h1 (0, 0, 0) v4] at hW
  have hlo : ∀ d, zV S d = true → lo1 d = lo0 d := fun d hd => (h1 d (hm d hd)).trans (hlo d hd)
  rename zId → Nat => lo
  have hm : ∀ c, zV S c = true → zV S7 c = true := fun c h => hmo c (hm c h)
  have v4 : zV S7 (0, 0, 0) = true := hmo _ v4
  refine x_putF hx hb hts ni_X9_init_X9 tyX9 tyX9_ok nmX9 hown hKK.1 hW hS 0 rfl rfl 1 (by decide) (hts (.fieldLink RX9 16 "TiltRoute" "games" "Ljava/util/ArrayList;") (List.mem_of_getElem? (i := 8) rfl)) rfl rfl hin rfl rfl rfl rfl (show 1 < 9 by decide) dX9_init_23 (fun H locs hW hS => ?_)
  have hW : Wd Γ lo S7 ((q_z, .inr (10, [.ref (lo (0, 0, 0)), .ref (lo (0, 1, 0)), .null, .null, .null, .null, .null, .null, .int 0])) :: X) H := hW
  refine lv_aload_n hx hb dX9_init_26 rfl (lv_at hl 0 rfl) ?_
  refine n_new hx hb hts ni_X9_init_X8 tyX8 tyX8_ok hown (hts (.classLink RX9 19 RX8) (List.mem_of_getElem? (i := 9) rfl)) (hts (.instantiable RX8 2) (List.mem_of_getElem? (i := 10) rfl)) (hts (.initialized RX8) (List.mem_of_getElem? (i := 11) rfl)) hKK.1 hW hS hB0 (ci := 9) rfl (fs := [.null, .int 0]) df_X8 (Nat.le_of_ble_eq_true rfl) (Nat.le_of_ble_eq_true rfl) dX9_init_27 (fun q9 H hW hS => ?_)
  refine lv_dup hx hb dX9_init_30 rfl ?_
  obtain ⟨S11, hc10, hf⟩ := op_cl hf
  refine n_callIN (As := []) (rest := [.ref q9, .ref q_z]) ⟨hx, hb, hml, hown, hts⟩ (tX8_init l Γ lo S7 ((q_z, .inr (10, [.ref (lo (0, 0, 0)), .ref (lo (0, 1, 0)), .null, .null, .null, .null, .null, .null, .int 0])) :: X) q9  hc10) ⟨va_cnB 0 hts gX9_init_X8_init_n21 rfl rfl rfl (hKY.2.2 _ (List.mem_of_getElem? (i := 2) rfl)) (hts (.initialized RX8) (List.mem_of_getElem? (i := 11) rfl)) (by decide +kernel) ⟨Nat.le_of_ble_eq_true rfl, Nat.le_of_ble_eq_true rfl⟩, rfl, hts (.instanceMethod yX8_init) (List.mem_of_getElem? (i := 42) rfl)⟩ hKK hKY hW hS rfl hl.1 rfl (Nat.le_of_ble_eq_true rfl) dX9_init_31 ⟨Nat.le_of_ble_eq_true rfl, Nat.le_of_ble_eq_true rfl⟩ (fun lo1 H locs hW hS h1 hmo hE => ?_)
  obtain ⟨hq, v12⟩ := hE
  rw [← hq]
  rw [← h1 (0, 0, 0) v4] at hW
  rw [← h1 (0, 1, 0) v8] at hW
  have hlo : ∀ d, zV S d = true → lo1 d = lo0 d := fun d hd => (h1 d (hm d hd)).trans (hlo d hd)
  rename zId → Nat => lo
  have hm : ∀ c, zV S c = true → zV S11 c = true := fun c h => hmo c (hm c h)
  have v4 : zV S11 (0, 0, 0) = true := hmo _ v4
  have v8 : zV S11 (0, 1, 0) = true := hmo _ v8
  refine x_putF hx hb hts ni_X9_init_X9 tyX9 tyX9_ok nmX9 hown hKK.1 hW hS 0 rfl rfl 2 (by decide) (hts (.fieldLink RX9 22 "TiltRoute" "firstVan" "LTiltRoute$Van;") (List.mem_of_getElem? (i := 12) rfl)) rfl rfl hin rfl rfl rfl rfl (show 2 < 9 by decide) dX9_init_34 (fun H locs hW hS => ?_)
  have hW : Wd Γ lo S11 ((q_z, .inr (10, [.ref (lo (0, 0, 0)), .ref (lo (0, 1, 0)), .ref (lo (9, 0, 0)), .null, .null, .null, .null, .null, .int 0])) :: X) H := hW
  refine lv_aload_n hx hb dX9_init_37 rfl (lv_at hl 0 rfl) ?_
  refine n_new hx hb hts ni_X9_init_X8 tyX8 tyX8_ok hown (hts (.classLink RX9 19 RX8) (List.mem_of_getElem? (i := 9) rfl)) (hts (.instantiable RX8 2) (List.mem_of_getElem? (i := 10) rfl)) (hts (.initialized RX8) (List.mem_of_getElem? (i := 11) rfl)) hKK.1 hW hS hB0 (ci := 9) rfl (fs := [.null, .int 0]) df_X8 (Nat.le_of_ble_eq_true rfl) (Nat.le_of_ble_eq_true rfl) dX9_init_38 (fun q13 H hW hS => ?_)
  refine lv_dup hx hb dX9_init_41 rfl ?_
  obtain ⟨S15, hc14, hf⟩ := op_cl hf
  refine n_callIN (As := []) (rest := [.ref q13, .ref q_z]) ⟨hx, hb, hml, hown, hts⟩ (tX8_init l Γ lo S11 ((q_z, .inr (10, [.ref (lo (0, 0, 0)), .ref (lo (0, 1, 0)), .ref (lo (9, 0, 0)), .null, .null, .null, .null, .null, .int 0])) :: X) q13  hc14) ⟨va_cnB 0 hts gX9_init_X8_init_n21 rfl rfl rfl (hKY.2.2 _ (List.mem_of_getElem? (i := 2) rfl)) (hts (.initialized RX8) (List.mem_of_getElem? (i := 11) rfl)) (by decide +kernel) ⟨Nat.le_of_ble_eq_true rfl, Nat.le_of_ble_eq_true rfl⟩, rfl, hts (.instanceMethod yX8_init) (List.mem_of_getElem? (i := 42) rfl)⟩ hKK hKY hW hS rfl hl.1 rfl (Nat.le_of_ble_eq_true rfl) dX9_init_42 ⟨Nat.le_of_ble_eq_true rfl, Nat.le_of_ble_eq_true rfl⟩ (fun lo1 H locs hW hS h1 hmo hE => ?_)
  obtain ⟨hq, v16⟩ := hE
  rw [← hq]
  rw [← h1 (0, 0, 0) v4] at hW
  rw [← h1 (0, 1, 0) v8] at hW
  rw [← h1 (9, 0, 0) v12] at hW
  have hlo : ∀ d, zV S d = true → lo1 d = lo0 d := fun d hd => (h1 d (hm d hd)).trans (hlo d hd)
  rename zId → Nat => lo
  have hm : ∀ c, zV S c = true → zV S15 c = true := fun c h => hmo c (hm c h)
  have v4 : zV S15 (0, 0, 0) = true := hmo _ v4
  have v8 : zV S15 (0, 1, 0) = true := hmo _ v8
  have v12 : zV S15 (9, 0, 0) = true := hmo _ v12
  refine x_putF hx hb hts ni_X9_init_X9 tyX9 tyX9_ok nmX9 hown hKK.1 hW hS 0 rfl rfl 3 (by decide) (hts (.fieldLink RX9 26 "TiltRoute" "secondVan" "LTiltRoute$Van;") (List.mem_of_getElem? (i := 13) rfl)) rfl rfl hin rfl rfl rfl rfl (show 3 < 9 by decide) dX9_init_45 (fun H locs hW hS => ?_)
  have hW : Wd Γ lo S15 ((q_z, .inr (10, [.ref (lo (0, 0, 0)), .ref (lo (0, 1, 0)), .ref (lo (9, 0, 0)), .ref (lo (9, 1, 0)), .null, .null, .null, .null, .int 0])) :: X) H := hW
  refine lv_aload_n hx hb dX9_init_48 rfl (lv_at hl 0 rfl) ?_
  refine lv_bipush (v := (60)) hx hb dX9_init_49 (by decide) ?_
  refine n_newz (N' := 60) hx hb (hts (.arrayClass .boolean) (List.mem_of_getElem? (i := 14) rfl)) hKK.1 hW hS hB0 (by decide) (by decide) (by decide) (Nat.le_of_ble_eq_true rfl) (Nat.le_of_ble_eq_true rfl) dX9_init_51 (fun q17 H hW hS => ?_)
  refine x_putF hx hb hts ni_X9_init_X9 tyX9 tyX9_ok nmX9 hown hKK.1 hW hS 1 rfl rfl 4 (by decide) (hts (.fieldLink RX9 29 "TiltRoute" "mended" "[Z") (List.mem_of_getElem? (i := 15) rfl)) rfl rfl hin rfl rfl rfl rfl (show 4 < 9 by decide) dX9_init_53 (fun H locs hW hS => ?_)
  have hW : Wd Γ lo S15 ((q17, .inl (Γ.2.1 2, 60, .inl (fun _ => 0))) :: (q_z, .inr (10, [.ref (lo (0, 0, 0)), .ref (lo (0, 1, 0)), .ref (lo (9, 0, 0)), .ref (lo (9, 1, 0)), .ref q17, .null, .null, .null, .int 0])) :: X) H := hW
  refine lv_aload_n hx hb dX9_init_56 rfl (lv_at hl 0 rfl) ?_
  refine n_new hx hb hts ni_X9_init_X5 tyX5 tyX5_ok hown (hts (.classLink RX9 33 RX5) (List.mem_of_getElem? (i := 16) rfl)) (hts (.instantiable RX5 4) (List.mem_of_getElem? (i := 17) rfl)) (hts (.initialized RX5) (List.mem_of_getElem? (i := 18) rfl)) hKK.1 hW hS hB0 (ci := 6) rfl (fs := [.null, .null, .int 0, .int 0]) df_X5 (Nat.le_of_ble_eq_true rfl) (Nat.le_of_ble_eq_true rfl) dX9_init_57 (fun q18 H hW hS => ?_)
  refine lv_dup hx hb dX9_init_60 rfl ?_
  obtain ⟨S20, hc19, hf⟩ := op_cl hf
  refine n_callIN (As := []) (rest := [.ref q18, .ref q_z]) ⟨hx, hb, hml, hown, hts⟩ (tX5_init l Γ lo S15 ((q17, .inl (Γ.2.1 2, 60, .inl (fun _ => 0))) :: (q_z, .inr (10, [.ref (lo (0, 0, 0)), .ref (lo (0, 1, 0)), .ref (lo (9, 0, 0)), .ref (lo (9, 1, 0)), .ref q17, .null, .null, .null, .int 0])) :: X) q18  hc19) ⟨va_cnB 0 hts gX9_init_X5_init_n35 rfl rfl rfl (hKY.2.2 _ (List.mem_of_getElem? (i := 3) rfl)) (hts (.initialized RX5) (List.mem_of_getElem? (i := 18) rfl)) (by decide +kernel) ⟨Nat.le_of_ble_eq_true rfl, Nat.le_of_ble_eq_true rfl⟩, rfl, hts (.instanceMethod yX5_init) (List.mem_of_getElem? (i := 47) rfl)⟩ hKK hKY hW hS rfl hl.1 rfl (Nat.le_of_ble_eq_true rfl) dX9_init_61 ⟨Nat.le_of_ble_eq_true rfl, Nat.le_of_ble_eq_true rfl⟩ (fun lo1 H locs hW hS h1 hmo hE => ?_)
  obtain ⟨hq, v21⟩ := hE
  rw [← hq]
  rw [← h1 (0, 0, 0) v4] at hW
  rw [← h1 (0, 1, 0) v8] at hW
  rw [← h1 (9, 0, 0) v12] at hW
  rw [← h1 (9, 1, 0) v16] at hW
  have hlo : ∀ d, zV S d = true → lo1 d = lo0 d := fun d hd => (h1 d (hm d hd)).trans (hlo d hd)
  rename zId → Nat => lo
  have hm : ∀ c, zV S c = true → zV S20 c = true := fun c h => hmo c (hm c h)
  have v4 : zV S20 (0, 0, 0) = true := hmo _ v4
  have v8 : zV S20 (0, 1, 0) = true := hmo _ v8
  have v12 : zV S20 (9, 0, 0) = true := hmo _ v12
  have v16 : zV S20 (9, 1, 0) = true := hmo _ v16
  refine x_putF hx hb hts ni_X9_init_X9 tyX9 tyX9_ok nmX9 hown hKK.1 hW hS 1 rfl rfl 5 (by decide) (hts (.fieldLink RX9 36 "TiltRoute" "replay" "LTiltRoute$Play;") (List.mem_of_getElem? (i := 19) rfl)) rfl rfl hin rfl rfl rfl rfl (show 5 < 9 by decide) dX9_init_64 (fun H locs hW hS => ?_)
  have hW : Wd Γ lo S20 ((q17, .inl (Γ.2.1 2, 60, .inl (fun _ => 0))) :: (q_z, .inr (10, [.ref (lo (0, 0, 0)), .ref (lo (0, 1, 0)), .ref (lo (9, 0, 0)), .ref (lo (9, 1, 0)), .ref q17, .ref (lo (6, 1, 0)), .null, .null, .int 0])) :: X) H := hW
  refine lv_aload_n hx hb dX9_init_67 rfl (lv_at hl 0 rfl) ?_
  refine n_new hx hb hts ni_X9_init_X4 tyX4 tyX4_ok hown (hts (.classLink RX9 40 RX4) (List.mem_of_getElem? (i := 20) rfl)) (hts (.instantiable RX4 5) (List.mem_of_getElem? (i := 21) rfl)) (hts (.initialized RX4) (List.mem_of_getElem? (i := 22) rfl)) hKK.1 hW hS hB0 (ci := 5) rfl (fs := [.null, .null, .null, .int 0, .int 0]) df_X4 (Nat.le_of_ble_eq_true rfl) (Nat.le_of_ble_eq_true rfl) dX9_init_68 (fun q22 H hW hS => ?_)
  refine lv_dup hx hb dX9_init_71 rfl ?_
  obtain ⟨S24, hc23, hf⟩ := op_cl hf
  refine n_callIN (As := []) (rest := [.ref q22, .ref q_z]) ⟨hx, hb, hml, hown, hts⟩ (tX4_init l Γ lo S20 ((q17, .inl (Γ.2.1 2, 60, .inl (fun _ => 0))) :: (q_z, .inr (10, [.ref (lo (0, 0, 0)), .ref (lo (0, 1, 0)), .ref (lo (9, 0, 0)), .ref (lo (9, 1, 0)), .ref q17, .ref (lo (6, 1, 0)), .null, .null, .int 0])) :: X) q22  hc23) ⟨va_cnB 0 hts gX9_init_X4_init_n42 rfl rfl rfl (hKY.2.2 _ (List.mem_of_getElem? (i := 4) rfl)) (hts (.initialized RX4) (List.mem_of_getElem? (i := 22) rfl)) (by decide +kernel) ⟨Nat.le_of_ble_eq_true rfl, Nat.le_of_ble_eq_true rfl⟩, rfl, hts (.instanceMethod yX4_init) (List.mem_of_getElem? (i := 54) rfl)⟩ hKK hKY hW hS rfl hl.1 rfl (Nat.le_of_ble_eq_true rfl) dX9_init_72 ⟨Nat.le_of_ble_eq_true rfl, Nat.le_of_ble_eq_true rfl⟩ (fun lo1 H locs hW hS h1 hmo hE => ?_)
  obtain ⟨hq, v25⟩ := hE
  rw [← hq]
  rw [← h1 (0, 0, 0) v4] at hW
  rw [← h1 (0, 1, 0) v8] at hW
  rw [← h1 (9, 0, 0) v12] at hW
  rw [← h1 (9, 1, 0) v16] at hW
  rw [← h1 (6, 1, 0) v21] at hW
  have hlo : ∀ d, zV S d = true → lo1 d = lo0 d := fun d hd => (h1 d (hm d hd)).trans (hlo d hd)
  rename zId → Nat => lo
  have hm : ∀ c, zV S c = true → zV S24 c = true := fun c h => hmo c (hm c h)
  have v4 : zV S24 (0, 0, 0) = true := hmo _ v4
  have v8 : zV S24 (0, 1, 0) = true := hmo _ v8
  have v12 : zV S24 (9, 0, 0) = true := hmo _ v12
  have v16 : zV S24 (9, 1, 0) = true := hmo _ v16
  have v21 : zV S24 (6, 1, 0) = true := hmo _ v21
  refine x_putF hx hb hts ni_X9_init_X9 tyX9 tyX9_ok nmX9 hown hKK.1 hW hS 1 rfl rfl 6 (by decide) (hts (.fieldLink RX9 43 "TiltRoute" "plan" "LTiltRoute$Plan;") (List.mem_of_getElem? (i := 23) rfl)) rfl rfl hin rfl rfl rfl rfl (show 6 < 9 by decide) dX9_init_75 (fun H locs hW hS => ?_)
  have hW : Wd Γ lo S24 ((q17, .inl (Γ.2.1 2, 60, .inl (fun _ => 0))) :: (q_z, .inr (10, [.ref (lo (0, 0, 0)), .ref (lo (0, 1, 0)), .ref (lo (9, 0, 0)), .ref (lo (9, 1, 0)), .ref q17, .ref (lo (6, 1, 0)), .ref (lo (5, 0, 0)), .null, .int 0])) :: X) H := hW
  refine lv_aload_n hx hb dX9_init_78 rfl (lv_at hl 0 rfl) ?_
  refine lv_bipush (v := (40)) hx hb dX9_init_79 (by decide) ?_
  refine n_newi (N' := 40) hx hb (hts (.arrayClass .int) (List.mem_of_getElem? (i := 24) rfl)) hKK.1 hW hS hB0 (by decide) (by decide) (by decide) (Nat.le_of_ble_eq_true rfl) (Nat.le_of_ble_eq_true rfl) dX9_init_81 (fun q26 H hW hS => ?_)
  refine x_putF hx hb hts ni_X9_init_X9 tyX9 tyX9_ok nmX9 hown hKK.1 hW hS 2 rfl rfl 7 (by decide) (hts (.fieldLink RX9 47 "TiltRoute" "validScores" "[I") (List.mem_of_getElem? (i := 25) rfl)) rfl rfl hin rfl rfl rfl rfl (show 7 < 9 by decide) dX9_init_83 (fun H locs hW hS => ?_)
  have hW : Wd Γ lo S24 ((q26, .inl (Γ.2.1 0, 40, .inl (fun _ => 0))) :: (q17, .inl (Γ.2.1 2, 60, .inl (fun _ => 0))) :: (q_z, .inr (10, [.ref (lo (0, 0, 0)), .ref (lo (0, 1, 0)), .ref (lo (9, 0, 0)), .ref (lo (9, 1, 0)), .ref q17, .ref (lo (6, 1, 0)), .ref (lo (5, 0, 0)), .ref q26, .int 0])) :: X) H := hW
  refine lv_aload_n hx hb dX9_init_86 rfl (lv_at hl 0 rfl) ?_
  refine lv_iconst (v := (0)) hx hb dX9_init_87 (by decide) ?_
  refine x_put hx hb hts ni_X9_init_X9 tyX9 tyX9_ok nmX9 hown hKK.1 hW hS 2 rfl rfl 8 (by decide) (hts (.fieldLink RX9 51 "TiltRoute" "stickings" "I") (List.mem_of_getElem? (i := 26) rfl)) rfl rfl rfl rfl rfl (show 8 < 9 by decide) dX9_init_88 (fun H locs hW hS => ?_)
  have hW : Wd Γ lo S24 ((q26, .inl (Γ.2.1 0, 40, .inl (fun _ => 0))) :: (q17, .inl (Γ.2.1 2, 60, .inl (fun _ => 0))) :: (q_z, .inr (10, [.ref (lo (0, 0, 0)), .ref (lo (0, 1, 0)), .ref (lo (9, 0, 0)), .ref (lo (9, 1, 0)), .ref q17, .ref (lo (6, 1, 0)), .ref (lo (5, 0, 0)), .ref q26, .int (0 : Int32)])) :: X) H := hW
  obtain ⟨h27, hf⟩ := op_gd hf
  obtain ⟨S28, eS28, hf⟩ := op_st hf
  have hne : ∀ d, zV S24 d = true → d ≠ (22, 0, 0) := fun d hd e => by rw [e, h27] at hd; cases hd
  have hW := wd_name hW (22, 0, 0) h27 (fun _ => 0) (fun _ => 0) (fun _ => none) (fun _ => 0) (rfl) (fun d hd => hd.elim)
  rw [← eS28] at hW
  have h1 : ∀ d, zV S24 d = true → lu lo (22, 0, 0) q26 d = lo d := fun d hd => lu_n lo q26 (hne d hd)
  obtain ⟨lo1, hl1⟩ : ∃ z, z = lu lo (22, 0, 0) q26 := ⟨_, rfl⟩
  have hEq26 : lo1 (22, 0, 0) = q26 := by rw [hl1]; exact lu_s lo _ _
  rw [← hl1] at hW h1
  have hmo : ∀ c, zV S24 c = true → zV S28 c = true := fun c h => by rw [eS28]; exact zV_nwm _ _ _ _ _ _ c h
  rw [← hEq26] at hW
  rw [← h1 (0, 0, 0) v4] at hW
  rw [← h1 (0, 1, 0) v8] at hW
  rw [← h1 (9, 0, 0) v12] at hW
  rw [← h1 (9, 1, 0) v16] at hW
  rw [← h1 (6, 1, 0) v21] at hW
  rw [← h1 (5, 0, 0) v25] at hW
  have hlo : ∀ d, zV S d = true → lo1 d = lo0 d := fun d hd => (h1 d (hm d hd)).trans (hlo d hd)
  rename zId → Nat => lo
  have hm : ∀ c, zV S c = true → zV S28 c = true := fun c h => hmo c (hm c h)
  have v4 : zV S28 (0, 0, 0) = true := hmo _ v4
  have v8 : zV S28 (0, 1, 0) = true := hmo _ v8
  have v12 : zV S28 (9, 0, 0) = true := hmo _ v12
  have v16 : zV S28 (9, 1, 0) = true := hmo _ v16
  have v21 : zV S28 (6, 1, 0) = true := hmo _ v21
  have v25 : zV S28 (5, 0, 0) = true := hmo _ v25
  have wq26 : zV S28 (22, 0, 0) = true := by rw [eS28]; exact zV_nws _ _ _ _ _ _
  obtain ⟨h29, hf⟩ := op_gd hf
  obtain ⟨S30, eS30, hf⟩ := op_st hf
  have hne : ∀ d, zV S28 d = true → d ≠ (21, 0, 0) := fun d hd e => by rw [e, h29] at hd; cases hd
  have hW := wd_name hW (21, 0, 0) h29 (fun _ => 0) (fun _ => 0) (fun _ => none) (fun _ => 0) (rfl) (fun d hd => hd.elim)
  rw [← eS30] at hW
  have h1 : ∀ d, zV S28 d = true → lu lo (21, 0, 0) q17 d = lo d := fun d hd => lu_n lo q17 (hne d hd)
  obtain ⟨lo1, hl1⟩ : ∃ z, z = lu lo (21, 0, 0) q17 := ⟨_, rfl⟩
  have hEq17 : lo1 (21, 0, 0) = q17 := by rw [hl1]; exact lu_s lo _ _
  rw [← hl1] at hW h1
  have hmo : ∀ c, zV S28 c = true → zV S30 c = true := fun c h => by rw [eS30]; exact zV_nwm _ _ _ _ _ _ c h
  rw [← hEq17] at hW
  rw [← h1 (0, 0, 0) v4] at hW
  rw [← h1 (0, 1, 0) v8] at hW
  rw [← h1 (9, 0, 0) v12] at hW
  rw [← h1 (9, 1, 0) v16] at hW
  rw [← h1 (6, 1, 0) v21] at hW
  rw [← h1 (5, 0, 0) v25] at hW
  rw [← h1 (22, 0, 0) wq26] at hW
  have hlo : ∀ d, zV S d = true → lo1 d = lo0 d := fun d hd => (h1 d (hm d hd)).trans (hlo d hd)
  rename zId → Nat => lo
  have hm : ∀ c, zV S c = true → zV S30 c = true := fun c h => hmo c (hm c h)
  have v4 : zV S30 (0, 0, 0) = true := hmo _ v4
  have v8 : zV S30 (0, 1, 0) = true := hmo _ v8
  have v12 : zV S30 (9, 0, 0) = true := hmo _ v12
  have v16 : zV S30 (9, 1, 0) = true := hmo _ v16
  have v21 : zV S30 (6, 1, 0) = true := hmo _ v21
  have v25 : zV S30 (5, 0, 0) = true := hmo _ v25
  have wq26 : zV S30 (22, 0, 0) = true := hmo _ wq26
  have wq17 : zV S30 (21, 0, 0) = true := by rw [eS30]; exact zV_nws _ _ _ _ _ _
  obtain ⟨h31, hf⟩ := op_gd hf
  obtain ⟨S32, eS32, hf⟩ := op_st hf
  have hne : ∀ d, zV S30 d = true → d ≠ (10, 0, 0) := fun d hd e => by rw [e, h31] at hd; cases hd
  have hW := wd_name hW (10, 0, 0) h31 (fun k => ([(0 : Int32), (0 : Int32), (0 : Int32), (0 : Int32), (0 : Int32), (0 : Int32), (0 : Int32), (0 : Int32), (0 : Int32)] : List Int32).getD k 0) (fun _ => 0) (fun _ => none) (fun _ => 0) (by rw [show lo (0, 0, 0) = lu lo (10, 0, 0) q_z (0, 0, 0) from (lu_n lo q_z (hne _ v4)).symm]; rw [show lo (0, 1, 0) = lu lo (10, 0, 0) q_z (0, 1, 0) from (lu_n lo q_z (hne _ v8)).symm]; rw [show lo (9, 0, 0) = lu lo (10, 0, 0) q_z (9, 0, 0) from (lu_n lo q_z (hne _ v12)).symm]; rw [show lo (9, 1, 0) = lu lo (10, 0, 0) q_z (9, 1, 0) from (lu_n lo q_z (hne _ v16)).symm]; rw [show lo (21, 0, 0) = lu lo (10, 0, 0) q_z (21, 0, 0) from (lu_n lo q_z (hne _ wq17)).symm]; rw [show lo (6, 1, 0) = lu lo (10, 0, 0) q_z (6, 1, 0) from (lu_n lo q_z (hne _ v21)).symm]; rw [show lo (5, 0, 0) = lu lo (10, 0, 0) q_z (5, 0, 0) from (lu_n lo q_z (hne _ v25)).symm]; rw [show lo (22, 0, 0) = lu lo (10, 0, 0) q_z (22, 0, 0) from (lu_n lo q_z (hne _ wq26)).symm]; rfl) (fun d hd => by rcases hd with rfl | rfl | rfl | rfl | rfl | rfl | rfl | rfl <;> assumption)
  rw [← eS32] at hW
  have h1 : ∀ d, zV S30 d = true → lu lo (10, 0, 0) q_z d = lo d := fun d hd => lu_n lo q_z (hne d hd)
  obtain ⟨lo1, hl1⟩ : ∃ z, z = lu lo (10, 0, 0) q_z := ⟨_, rfl⟩
  have hEq_z : lo1 (10, 0, 0) = q_z := by rw [hl1]; exact lu_s lo _ _
  rw [← hl1] at hW h1
  have hmo : ∀ c, zV S30 c = true → zV S32 c = true := fun c h => by rw [eS32]; exact zV_nwm _ _ _ _ _ _ c h
  have hlo : ∀ d, zV S d = true → lo1 d = lo0 d := fun d hd => (h1 d (hm d hd)).trans (hlo d hd)
  rename zId → Nat => lo
  have hm : ∀ c, zV S c = true → zV S32 c = true := fun c h => hmo c (hm c h)
  have wq26 : zV S32 (22, 0, 0) = true := hmo _ wq26
  have wq17 : zV S32 (21, 0, 0) = true := hmo _ wq17
  have wq_z : zV S32 (10, 0, 0) = true := by rw [eS32]; exact zV_nws _ _ _ _ _ _
  have hf := Option.some.inj hf
  rw [← hf]
  exact n_vret hx hb hr hlocks (Nat.le_of_ble_eq_true rfl) (Nat.le_of_ble_eq_true rfl) rfl hW hS hlo hm ⟨hEq_z, wq_z⟩ dX9_init_91

