theorem df_X0 : ∀ j, j < 4 → defaultValue (tyX0 j) = vp_V [.int 0, .int 0, .int 0, .int 0] j := by
  intro j hj
  match j, hj with
  | 0, _ => rfl
  | 1, _ => rfl
  | 2, _ => rfl
  | 3, _ => rfl
  | k + 4, h => exact absurd h (by omega)
theorem df_X1 : ∀ j, j < 7 → defaultValue (tyX1 j) = vp_V [.int 0, .int 0, .int 0, .int 0, .int 0, .int 0, .int 0] j := by
  intro j hj
  match j, hj with
  | 0, _ => rfl
  | 1, _ => rfl
  | 2, _ => rfl
  | 3, _ => rfl
  | 4, _ => rfl
  | 5, _ => rfl
  | 6, _ => rfl
  | k + 7, h => exact absurd h (by omega)
theorem df_X2 : ∀ j, j < 6 → defaultValue (tyX2 j) = vp_V [.int 0, .null, .null, .null, .int 0, .int 0] j := by
  intro j hj
  match j, hj with
  | 0, _ => rfl
  | 1, _ => rfl
  | 2, _ => rfl
  | 3, _ => rfl
  | 4, _ => rfl
  | 5, _ => rfl
  | k + 6, h => exact absurd h (by omega)
theorem df_X3 : ∀ j, j < 5 → defaultValue (tyX3 j) = vp_V [.int 0, .int 0, .int 0, .int 0, .int 0] j := by
  intro j hj
  match j, hj with
  | 0, _ => rfl
  | 1, _ => rfl
  | 2, _ => rfl
  | 3, _ => rfl
  | 4, _ => rfl
  | k + 5, h => exact absurd h (by omega)
theorem df_X4 : ∀ j, j < 5 → defaultValue (tyX4 j) = vp_V [.null, .null, .null, .int 0, .int 0] j := by
  intro j hj
  match j, hj with
  | 0, _ => rfl
  | 1, _ => rfl
  | 2, _ => rfl
  | 3, _ => rfl
  | 4, _ => rfl
  | k + 5, h => exact absurd h (by omega)
theorem df_X5 : ∀ j, j < 4 → defaultValue (tyX5 j) = vp_V [.null, .null, .int 0, .int 0] j := by
  intro j hj
  match j, hj with
  | 0, _ => rfl
  | 1, _ => rfl
  | 2, _ => rfl
  | 3, _ => rfl
  | k + 4, h => exact absurd h (by omega)
theorem df_X6 : ∀ j, j < 2 → defaultValue (tyX6 j) = vp_V [.null, .null] j := by
  intro j hj
  match j, hj with
  | 0, _ => rfl
  | 1, _ => rfl
  | k + 2, h => exact absurd h (by omega)
theorem df_X7 : ∀ j, j < 8 → defaultValue (tyX7 j) = vp_V [.int 0, .int 0, .null, .null, .int 0, .int 0, .int 0, .int 0] j := by
  intro j hj
  match j, hj with
  | 0, _ => rfl
  | 1, _ => rfl
  | 2, _ => rfl
  | 3, _ => rfl
  | 4, _ => rfl
  | 5, _ => rfl
  | 6, _ => rfl
  | 7, _ => rfl
  | k + 8, h => exact absurd h (by omega)
theorem df_X8 : ∀ j, j < 2 → defaultValue (tyX8 j) = vp_V [.null, .int 0] j := by
  intro j hj
  match j, hj with
  | 0, _ => rfl
  | 1, _ => rfl
  | k + 2, h => exact absurd h (by omega)
theorem df_X9 : ∀ j, j < 9 → defaultValue (tyX9 j) = vp_V [.null, .null, .null, .null, .null, .null, .null, .null, .int 0] j := by
  intro j hj
  match j, hj with
  | 0, _ => rfl
  | 1, _ => rfl
  | 2, _ => rfl
  | 3, _ => rfl
  | 4, _ => rfl
  | 5, _ => rfl
  | 6, _ => rfl
  | 7, _ => rfl
  | 8, _ => rfl
  | k + 9, h => exact absurd h (by omega)
theorem df_Jx4a65c : ∀ j, j < 3 → defaultValue (tyJx4a65c j) = vp_V [.int 0, .null, .int 0] j := by
  intro j hj
  match j, hj with
  | 0, _ => rfl
  | 1, _ => rfl
  | 2, _ => rfl
  | k + 3, h => exact absurd h (by omega)

theorem ni_X1_init_X1 : ∀ w ∈ wsX10, w ∈ wsX1_init := by decide +kernel
def fX1_init (S : zSt) (g_a : Nat) (g_b : Nat) (i_1 : Int32) (i_2 : Int32) (i_3 : Int32) (i_4 : Int32) (i_5 : Int32) : Option zSt :=
gd (zV S (2, g_a, g_b) = false) (st (nw S (2, g_a, g_b) (fun k => ([i_1, i_2, i_3, i_4, i_5, (0 : Int32), (-1 : Int32)] : List Int32).getD k 0) (fun _ => 0) (fun _ => none) (fun _ => 0)) fun S2 =>
some (S2))
abbrev rmX1_init : Room := { frames := 1, cells := 0, slots := 0, locals := 20 }
set_option maxHeartbeats 4000000 in
set_option maxRecDepth 100000 in
theorem tX1_init (l : Launch) (Γ : zG) (lo0 : zId → Nat) (S : zSt) (X : va_W) (q_z : Nat) {g_a : Nat} {g_b : Nat} {i_1 : Int32} {i_2 : Int32} {i_3 : Int32} {i_4 : Int32} {i_5 : Int32}  {y : zSt} (hf : fX1_init S g_a g_b i_1 i_2 i_3 i_4 i_5 = some y) : Met l yX1_init wsX1_init rmX1_init (zP2 Γ lo0 S ((q_z, .inr (2, [.int 0, .int 0, .int 0, .int 0, .int 0, .int 0, .int 0])) :: X) [.ref q_z, .int i_1, .int i_2, .int i_3, .int i_4, .int i_5]) (zQn Γ lo0 S y X (fun _ => none) (fun lo1 => lo1 (2, g_a, g_b) = q_z ∧ zV y (2, g_a, g_b) = true)) 0 0 (zA Γ) := by
  refine Met.ofW (cc := cX1_init) (maxL := 6) (ret := none) (by decide) rfl ?_
  intro p e s m args below meth c s₁ B hml hv
  obtain ⟨rfl, hW, hKK, hKY⟩ := hv
  have hx := B.exec
  have hb := B.bytes
  have hr := B.returns
  have hts := atoms_spec (ws := wsX1_init) B.pre
  have hown : s.vm.findClass RX1 = some m.cls := findClass_of_methodNamed B.named
  have hlocks := B.notSynchronized
  have hin : meth.name = "<init>" := (name_of_methodNamed B.named B.method).1
  have hS : va_S (zA Γ) s.heap s.heap [] := va_S.rf
  have hB0 : Γ.2.2.1 ≤ s.heap.size := hW.1
  have hm : ∀ c, zV S c = true → zV S c = true := fun _ h => h
  have hl := lv_entry ([.ref q_z, .int i_1, .int i_2, .int i_3, .int i_4, .int i_5]) (n := 6) (Nat.le_of_ble_eq_true rfl)
  rw [lg_entry_eq]
  generalize (lg_sl ([.ref q_z, .int i_1, .int i_2, .int i_3, .int i_4, .int i_5]) ++ List.replicate (6 - (lg_sl ([.ref q_z, .int i_1, .int i_2, .int i_3, .int i_4, .int i_5])).length) Slot.unset).toArray = ls at hl ⊢
  have hl : lv_has ls 6 [(0, .ref q_z), (1, .int i_1), (2, .int i_2), (3, .int i_3), (4, .int i_4), (5, .int i_5)] := hl
  generalize ([.ref q_z, .int i_1, .int i_2, .int i_3, .int i_4, .int i_5] : List Value).toArray = args at hts ⊢
  obtain ⟨H, hH0⟩ : ∃ H, H = s.heap := ⟨_, rfl⟩
  obtain ⟨locs, hlo0⟩ : ∃ L : List Loc, L = [] := ⟨_, rfl⟩
  have hS : va_S (zA Γ) s.heap H locs := by rw [hH0, hlo0]; exact hS
  have hW : Wd Γ lo0 S ((q_z, .inr (2, [.int 0, .int 0, .int 0, .int 0, .int 0, .int 0, .int 0])) :: X) H := by rw [hH0]; exact hW
  rw [← hH0, ← hlo0]
  obtain ⟨lo, hle⟩ : ∃ z : zId → Nat, z = lo0 := ⟨_, rfl⟩
  have hlo : ∀ d, zV S d = true → lo d = lo0 d := fun d _ => by rw [hle]
  have hW : Wd Γ lo S ((q_z, .inr (2, [.int 0, .int 0, .int 0, .int 0, .int 0, .int 0, .int 0])) :: X) H := by rw [hle]; exact hW
  have hl : lv_has ls 6 [(0, .ref q_z), (1, .int i_1), (2, .int i_2), (3, .int i_3), (4, .int i_4), (5, .int i_5)] := by first | (rw [hle]; exact hl) | exact hl
  unfold fX1_init at hf
  refine lv_aload_n hx hb dX1_init_0 rfl (lv_at hl 0 rfl) ?_
  refine W.objInit hx hb hown (hts (.methodLink RX1 3 objectInit) (List.mem_of_getElem? (i := 1) rfl)) (hts (.instanceMethod objectInit) (List.mem_of_getElem? (i := 2) rfl)) (hts (.code objectInit ⟨#[0xb1]⟩ 1 none) (List.mem_of_getElem? (i := 3) rfl)) rfl (hl.1.trans hml.symm) rfl dX1_init_1 (Nat.le_of_ble_eq_true rfl) (Nat.le_of_ble_eq_true rfl) ?_
  refine W.eq (g2 := F0 m 4 ls []) rfl ?_
  refine lv_aload_n hx hb dX1_init_4 rfl (lv_at hl 0 rfl) ?_
  refine lv_iconst (v := (0)) hx hb dX1_init_5 (by decide) ?_
  refine x_put hx hb hts ni_X1_init_X1 tyX1 tyX1_ok nmX1 hown hKK.1 hW hS 0 rfl rfl 5 (by decide) (hts (.fieldLink RX1 9 "TiltRoute$Bumper" "wear" "I") (List.mem_of_getElem? (i := 4) rfl)) rfl rfl rfl rfl rfl (show 5 < 7 by decide) dX1_init_6 (fun H locs hW hS => ?_)
  have hW : Wd Γ lo S ((q_z, .inr (2, [.int 0, .int 0, .int 0, .int 0, .int 0, .int (0 : Int32), .int 0])) :: X) H := hW
  refine lv_aload_n hx hb dX1_init_9 rfl (lv_at hl 0 rfl) ?_
  refine lv_iconst (v := (-1)) hx hb dX1_init_10 (by decide) ?_
  refine x_put hx hb hts ni_X1_init_X1 tyX1 tyX1_ok nmX1 hown hKK.1 hW hS 0 rfl rfl 6 (by decide) (hts (.fieldLink RX1 15 "TiltRoute$Bumper" "sticking" "I") (List.mem_of_getElem? (i := 5) rfl)) rfl rfl rfl rfl rfl (show 6 < 7 by decide) dX1_init_11 (fun H locs hW hS => ?_)
  have hW : Wd Γ lo S ((q_z, .inr (2, [.int 0, .int 0, .int 0, .int 0, .int 0, .int (0 : Int32), .int (-1 : Int32)])) :: X) H := hW
  refine lv_aload_n hx hb dX1_init_14 rfl (lv_at hl 0 rfl) ?_
  refine lv_iload_n hx hb dX1_init_15 rfl (lv_at hl 1 rfl) ?_
  refine x_putF hx hb hts ni_X1_init_X1 tyX1 tyX1_ok nmX1 hown hKK.1 hW hS 0 rfl rfl 0 (by decide) (hts (.fieldLink RX1 18 "TiltRoute$Bumper" "left" "I") (List.mem_of_getElem? (i := 6) rfl)) rfl rfl hin rfl rfl rfl rfl (show 0 < 7 by decide) dX1_init_16 (fun H locs hW hS => ?_)
  have hW : Wd Γ lo S ((q_z, .inr (2, [.int i_1, .int 0, .int 0, .int 0, .int 0, .int (0 : Int32), .int (-1 : Int32)])) :: X) H := hW
  refine lv_aload_n hx hb dX1_init_19 rfl (lv_at hl 0 rfl) ?_
  refine lv_iload_n hx hb dX1_init_20 rfl (lv_at hl 2 rfl) ?_
  refine x_putF hx hb hts ni_X1_init_X1 tyX1 tyX1_ok nmX1 hown hKK.1 hW hS 0 rfl rfl 1 (by decide) (hts (.fieldLink RX1 21 "TiltRoute$Bumper" "top" "I") (List.mem_of_getElem? (i := 7) rfl)) rfl rfl hin rfl rfl rfl rfl (show 1 < 7 by decide) dX1_init_21 (fun H locs hW hS => ?_)
  have hW : Wd Γ lo S ((q_z, .inr (2, [.int i_1, .int i_2, .int 0, .int 0, .int 0, .int (0 : Int32), .int (-1 : Int32)])) :: X) H := hW
  refine lv_aload_n hx hb dX1_init_24 rfl (lv_at hl 0 rfl) ?_
  refine lv_iload_n hx hb dX1_init_25 rfl (lv_at hl 3 rfl) ?_
  refine x_putF hx hb hts ni_X1_init_X1 tyX1 tyX1_ok nmX1 hown hKK.1 hW hS 0 rfl rfl 2 (by decide) (hts (.fieldLink RX1 24 "TiltRoute$Bumper" "width" "I") (List.mem_of_getElem? (i := 8) rfl)) rfl rfl hin rfl rfl rfl rfl (show 2 < 7 by decide) dX1_init_26 (fun H locs hW hS => ?_)
  have hW : Wd Γ lo S ((q_z, .inr (2, [.int i_1, .int i_2, .int i_3, .int 0, .int 0, .int (0 : Int32), .int (-1 : Int32)])) :: X) H := hW
  refine lv_aload_n hx hb dX1_init_29 rfl (lv_at hl 0 rfl) ?_
  refine lv_iload hx hb dX1_init_30 (lv_at hl 4 rfl) ?_
  refine x_putF hx hb hts ni_X1_init_X1 tyX1 tyX1_ok nmX1 hown hKK.1 hW hS 0 rfl rfl 3 (by decide) (hts (.fieldLink RX1 27 "TiltRoute$Bumper" "height" "I") (List.mem_of_getElem? (i := 9) rfl)) rfl rfl hin rfl rfl rfl rfl (show 3 < 7 by decide) dX1_init_32 (fun H locs hW hS => ?_)
  have hW : Wd Γ lo S ((q_z, .inr (2, [.int i_1, .int i_2, .int i_3, .int i_4, .int 0, .int (0 : Int32), .int (-1 : Int32)])) :: X) H := hW
  refine lv_aload_n hx hb dX1_init_35 rfl (lv_at hl 0 rfl) ?_
  refine lv_iload hx hb dX1_init_36 (lv_at hl 5 rfl) ?_
  refine x_putF hx hb hts ni_X1_init_X1 tyX1 tyX1_ok nmX1 hown hKK.1 hW hS 0 rfl rfl 4 (by decide) (hts (.fieldLink RX1 30 "TiltRoute$Bumper" "kick" "I") (List.mem_of_getElem? (i := 10) rfl)) rfl rfl hin rfl rfl rfl rfl (show 4 < 7 by decide) dX1_init_38 (fun H locs hW hS => ?_)
  have hW : Wd Γ lo S ((q_z, .inr (2, [.int i_1, .int i_2, .int i_3, .int i_4, .int i_5, .int (0 : Int32), .int (-1 : Int32)])) :: X) H := hW
  obtain ⟨h1, hf⟩ := op_gd hf
  obtain ⟨S2, eS2, hf⟩ := op_st hf
  have hne : ∀ d, zV S d = true → d ≠ (2, g_a, g_b) := fun d hd e => by rw [e, h1] at hd; cases hd
  have hW := wd_name hW (2, g_a, g_b) h1 (fun k => ([i_1, i_2, i_3, i_4, i_5, (0 : Int32), (-1 : Int32)] : List Int32).getD k 0) (fun _ => 0) (fun _ => none) (fun _ => 0) (rfl) (fun d hd => hd.elim)
  rw [← eS2] at hW
  have h1 : ∀ d, zV S d = true → lu lo (2, g_a, g_b) q_z d = lo d := fun d hd => lu_n lo q_z (hne d hd)
  obtain ⟨lo1, hl1⟩ : ∃ z, z = lu lo (2, g_a, g_b) q_z := ⟨_, rfl⟩
  have hEq_z : lo1 (2, g_a, g_b) = q_z := by rw [hl1]; exact lu_s lo _ _
  rw [← hl1] at hW h1
  have hmo : ∀ c, zV S c = true → zV S2 c = true := fun c h => by rw [eS2]; exact zV_nwm _ _ _ _ _ _ c h
  have hlo : ∀ d, zV S d = true → lo1 d = lo0 d := fun d hd => (h1 d (hm d hd)).trans (hlo d hd)
  rename zId → Nat => lo
  have hm : ∀ c, zV S c = true → zV S2 c = true := fun c h => hmo c (hm c h)
  have wq_z : zV S2 (2, g_a, g_b) = true := by rw [eS2]; exact zV_nws _ _ _ _ _ _
  have hf := Option.some.inj hf
  rw [← hf]
  exact n_vret hx hb hr hlocks (Nat.le_of_ble_eq_true rfl) (Nat.le_of_ble_eq_true rfl) rfl hW hS hlo hm ⟨hEq_z, wq_z⟩ dX1_init_41

theorem ni_X3_init_X3 : ∀ w ∈ wsX30, w ∈ wsX3_init := by decide +kernel
def fX3_init (S : zSt) (g_a : Nat) (i_1 : Int32) (i_2 : Int32) (i_3 : Int32) (i_4 : Int32) (i_5 : Int32) : Option zSt :=
gd (zV S (4, g_a, 0) = false) (st (nw S (4, g_a, 0) (fun k => ([i_1, i_2, i_3, i_4, i_5] : List Int32).getD k 0) (fun _ => 0) (fun _ => none) (fun _ => 0)) fun S2 =>
some (S2))
abbrev rmX3_init : Room := { frames := 1, cells := 0, slots := 0, locals := 20 }
set_option maxHeartbeats 4000000 in
set_option maxRecDepth 100000 in
theorem tX3_init (l : Launch) (Γ : zG) (lo0 : zId → Nat) (S : zSt) (X : va_W) (q_z : Nat) {g_a : Nat} {i_1 : Int32} {i_2 : Int32} {i_3 : Int32} {i_4 : Int32} {i_5 : Int32}  {y : zSt} (hf : fX3_init S g_a i_1 i_2 i_3 i_4 i_5 = some y) : Met l yX3_init wsX3_init rmX3_init (zP2 Γ lo0 S ((q_z, .inr (4, [.int 0, .int 0, .int 0, .int 0, .int 0])) :: X) [.ref q_z, .int i_1, .int i_2, .int i_3, .int i_4, .int i_5]) (zQn Γ lo0 S y X (fun _ => none) (fun lo1 => lo1 (4, g_a, 0) = q_z ∧ zV y (4, g_a, 0) = true)) 0 0 (zA Γ) := by
  refine Met.ofW (cc := cX3_init) (maxL := 6) (ret := none) (by decide) rfl ?_
  intro p e s m args below meth c s₁ B hml hv
  obtain ⟨rfl, hW, hKK, hKY⟩ := hv
  have hx := B.exec
  have hb := B.bytes
  have hr := B.returns
  have hts := atoms_spec (ws := wsX3_init) B.pre
  have hown : s.vm.findClass RX3 = some m.cls := findClass_of_methodNamed B.named
  have hlocks := B.notSynchronized
  have hin : meth.name = "<init>" := (name_of_methodNamed B.named B.method).1
  have hS : va_S (zA Γ) s.heap s.heap [] := va_S.rf
  have hB0 : Γ.2.2.1 ≤ s.heap.size := hW.1
  have hm : ∀ c, zV S c = true → zV S c = true := fun _ h => h
  have hl := lv_entry ([.ref q_z, .int i_1, .int i_2, .int i_3, .int i_4, .int i_5]) (n := 6) (Nat.le_of_ble_eq_true rfl)
  rw [lg_entry_eq]
  generalize (lg_sl ([.ref q_z, .int i_1, .int i_2, .int i_3, .int i_4, .int i_5]) ++ List.replicate (6 - (lg_sl ([.ref q_z, .int i_1, .int i_2, .int i_3, .int i_4, .int i_5])).length) Slot.unset).toArray = ls at hl ⊢
  have hl : lv_has ls 6 [(0, .ref q_z), (1, .int i_1), (2, .int i_2), (3, .int i_3), (4, .int i_4), (5, .int i_5)] := hl
  generalize ([.ref q_z, .int i_1, .int i_2, .int i_3, .int i_4, .int i_5] : List Value).toArray = args at hts ⊢
  obtain ⟨H, hH0⟩ : ∃ H, H = s.heap := ⟨_, rfl⟩
  obtain ⟨locs, hlo0⟩ : ∃ L : List Loc, L = [] := ⟨_, rfl⟩
  have hS : va_S (zA Γ) s.heap H locs := by rw [hH0, hlo0]; exact hS
  have hW : Wd Γ lo0 S ((q_z, .inr (4, [.int 0, .int 0, .int 0, .int 0, .int 0])) :: X) H := by rw [hH0]; exact hW
  rw [← hH0, ← hlo0]
  obtain ⟨lo, hle⟩ : ∃ z : zId → Nat, z = lo0 := ⟨_, rfl⟩
  have hlo : ∀ d, zV S d = true → lo d = lo0 d := fun d _ => by rw [hle]
  have hW : Wd Γ lo S ((q_z, .inr (4, [.int 0, .int 0, .int 0, .int 0, .int 0])) :: X) H := by rw [hle]; exact hW
  have hl : lv_has ls 6 [(0, .ref q_z), (1, .int i_1), (2, .int i_2), (3, .int i_3), (4, .int i_4), (5, .int i_5)] := by first | (rw [hle]; exact hl) | exact hl
  unfold fX3_init at hf
  refine lv_aload_n hx hb dX3_init_0 rfl (lv_at hl 0 rfl) ?_
  refine W.objInit hx hb hown (hts (.methodLink RX3 1 objectInit) (List.mem_of_getElem? (i := 1) rfl)) (hts (.instanceMethod objectInit) (List.mem_of_getElem? (i := 2) rfl)) (hts (.code objectInit ⟨#[0xb1]⟩ 1 none) (List.mem_of_getElem? (i := 3) rfl)) rfl (hl.1.trans hml.symm) rfl dX3_init_1 (Nat.le_of_ble_eq_true rfl) (Nat.le_of_ble_eq_true rfl) ?_
  refine W.eq (g2 := F0 m 4 ls []) rfl ?_
  refine lv_aload_n hx hb dX3_init_4 rfl (lv_at hl 0 rfl) ?_
  refine lv_iload_n hx hb dX3_init_5 rfl (lv_at hl 1 rfl) ?_
  refine x_putF hx hb hts ni_X3_init_X3 tyX3 tyX3_ok nmX3 hown hKK.1 hW hS 0 rfl rfl 0 (by decide) (hts (.fieldLink RX3 7 "TiltRoute$Mode" "begins" "I") (List.mem_of_getElem? (i := 4) rfl)) rfl rfl hin rfl rfl rfl rfl (show 0 < 5 by decide) dX3_init_6 (fun H locs hW hS => ?_)
  have hW : Wd Γ lo S ((q_z, .inr (4, [.int i_1, .int 0, .int 0, .int 0, .int 0])) :: X) H := hW
  refine lv_aload_n hx hb dX3_init_9 rfl (lv_at hl 0 rfl) ?_
  refine lv_iload_n hx hb dX3_init_10 rfl (lv_at hl 2 rfl) ?_
  refine x_putF hx hb hts ni_X3_init_X3 tyX3 tyX3_ok nmX3 hown hKK.1 hW hS 0 rfl rfl 1 (by decide) (hts (.fieldLink RX3 13 "TiltRoute$Mode" "ends" "I") (List.mem_of_getElem? (i := 5) rfl)) rfl rfl hin rfl rfl rfl rfl (show 1 < 5 by decide) dX3_init_11 (fun H locs hW hS => ?_)
  have hW : Wd Γ lo S ((q_z, .inr (4, [.int i_1, .int i_2, .int 0, .int 0, .int 0])) :: X) H := hW
  refine lv_aload_n hx hb dX3_init_14 rfl (lv_at hl 0 rfl) ?_
  refine lv_iload_n hx hb dX3_init_15 rfl (lv_at hl 3 rfl) ?_
  refine x_putF hx hb hts ni_X3_init_X3 tyX3 tyX3_ok nmX3 hown hKK.1 hW hS 0 rfl rfl 2 (by decide) (hts (.fieldLink RX3 16 "TiltRoute$Mode" "limit" "I") (List.mem_of_getElem? (i := 6) rfl)) rfl rfl hin rfl rfl rfl rfl (show 2 < 5 by decide) dX3_init_16 (fun H locs hW hS => ?_)
  have hW : Wd Γ lo S ((q_z, .inr (4, [.int i_1, .int i_2, .int i_3, .int 0, .int 0])) :: X) H := hW
  refine lv_aload_n hx hb dX3_init_19 rfl (lv_at hl 0 rfl) ?_
  refine lv_iload hx hb dX3_init_20 (lv_at hl 4 rfl) ?_
  refine x_putF hx hb hts ni_X3_init_X3 tyX3 tyX3_ok nmX3 hown hKK.1 hW hS 0 rfl rfl 3 (by decide) (hts (.fieldLink RX3 19 "TiltRoute$Mode" "times" "I") (List.mem_of_getElem? (i := 7) rfl)) rfl rfl hin rfl rfl rfl rfl (show 3 < 5 by decide) dX3_init_22 (fun H locs hW hS => ?_)
  have hW : Wd Γ lo S ((q_z, .inr (4, [.int i_1, .int i_2, .int i_3, .int i_4, .int 0])) :: X) H := hW
  refine lv_aload_n hx hb dX3_init_25 rfl (lv_at hl 0 rfl) ?_
  refine lv_iload hx hb dX3_init_26 (lv_at hl 5 rfl) ?_
  refine x_putF hx hb hts ni_X3_init_X3 tyX3 tyX3_ok nmX3 hown hKK.1 hW hS 0 rfl rfl 4 (by decide) (hts (.fieldLink RX3 22 "TiltRoute$Mode" "bonus" "I") (List.mem_of_getElem? (i := 8) rfl)) rfl rfl hin rfl rfl rfl rfl (show 4 < 5 by decide) dX3_init_28 (fun H locs hW hS => ?_)
  have hW : Wd Γ lo S ((q_z, .inr (4, [.int i_1, .int i_2, .int i_3, .int i_4, .int i_5])) :: X) H := hW
  obtain ⟨h1, hf⟩ := op_gd hf
  obtain ⟨S2, eS2, hf⟩ := op_st hf
  have hne : ∀ d, zV S d = true → d ≠ (4, g_a, 0) := fun d hd e => by rw [e, h1] at hd; cases hd
  have hW := wd_name hW (4, g_a, 0) h1 (fun k => ([i_1, i_2, i_3, i_4, i_5] : List Int32).getD k 0) (fun _ => 0) (fun _ => none) (fun _ => 0) (rfl) (fun d hd => hd.elim)
  rw [← eS2] at hW
  have h1 : ∀ d, zV S d = true → lu lo (4, g_a, 0) q_z d = lo d := fun d hd => lu_n lo q_z (hne d hd)
  obtain ⟨lo1, hl1⟩ : ∃ z, z = lu lo (4, g_a, 0) q_z := ⟨_, rfl⟩
  have hEq_z : lo1 (4, g_a, 0) = q_z := by rw [hl1]; exact lu_s lo _ _
  rw [← hl1] at hW h1
  have hmo : ∀ c, zV S c = true → zV S2 c = true := fun c h => by rw [eS2]; exact zV_nwm _ _ _ _ _ _ c h
  have hlo : ∀ d, zV S d = true → lo1 d = lo0 d := fun d hd => (h1 d (hm d hd)).trans (hlo d hd)
  rename zId → Nat => lo
  have hm : ∀ c, zV S c = true → zV S2 c = true := fun c h => hmo c (hm c h)
  have wq_z : zV S2 (4, g_a, 0) = true := by rw [eS2]; exact zV_nws _ _ _ _ _ _
  have hf := Option.some.inj hf
  rw [← hf]
  exact n_vret hx hb hr hlocks (Nat.le_of_ble_eq_true rfl) (Nat.le_of_ble_eq_true rfl) rfl hW hS hlo hm ⟨hEq_z, wq_z⟩ dX3_init_31

theorem ni_X0_init_X0 : ∀ w ∈ wsX00, w ∈ wsX0_init := by decide +kernel
def fX0_init (S : zSt) (i_1 : Int32) (i_2 : Int32) (i_3 : Int32) : Option zSt :=
gd (zV S (1, 0, 0) = false) (st (nw S (1, 0, 0) (fun k => ([i_1, (0 : Int32), i_2, i_3] : List Int32).getD k 0) (fun _ => 0) (fun _ => none) (fun _ => 0)) fun S2 =>
some (S2))
abbrev rmX0_init : Room := { frames := 1, cells := 0, slots := 0, locals := 20 }
set_option maxHeartbeats 4000000 in
set_option maxRecDepth 100000 in
theorem tX0_init (l : Launch) (Γ : zG) (lo0 : zId → Nat) (S : zSt) (X : va_W) (q_z : Nat) {i_1 : Int32} {i_2 : Int32} {i_3 : Int32}  {y : zSt} (hf : fX0_init S i_1 i_2 i_3 = some y) : Met l yX0_init wsX0_init rmX0_init (zP2 Γ lo0 S ((q_z, .inr (1, [.int 0, .int 0, .int 0, .int 0])) :: X) [.ref q_z, .int i_1, .int i_2, .int i_3]) (zQn Γ lo0 S y X (fun _ => none) (fun lo1 => lo1 (1, 0, 0) = q_z ∧ zV y (1, 0, 0) = true)) 0 0 (zA Γ) := by
  refine Met.ofW (cc := cX0_init) (maxL := 4) (ret := none) (by decide) rfl ?_
  intro p e s m args below meth c s₁ B hml hv
  obtain ⟨rfl, hW, hKK, hKY⟩ := hv
  have hx := B.exec
  have hb := B.bytes
  have hr := B.returns
  have hts := atoms_spec (ws := wsX0_init) B.pre
  have hown : s.vm.findClass RX0 = some m.cls := findClass_of_methodNamed B.named
  have hlocks := B.notSynchronized
  have hin : meth.name = "<init>" := (name_of_methodNamed B.named B.method).1
  have hS : va_S (zA Γ) s.heap s.heap [] := va_S.rf
  have hB0 : Γ.2.2.1 ≤ s.heap.size := hW.1
  have hm : ∀ c, zV S c = true → zV S c = true := fun _ h => h
  have hl := lv_entry ([.ref q_z, .int i_1, .int i_2, .int i_3]) (n := 4) (Nat.le_of_ble_eq_true rfl)
  rw [lg_entry_eq]
  generalize (lg_sl ([.ref q_z, .int i_1, .int i_2, .int i_3]) ++ List.replicate (4 - (lg_sl ([.ref q_z, .int i_1, .int i_2, .int i_3])).length) Slot.unset).toArray = ls at hl ⊢
  have hl : lv_has ls 4 [(0, .ref q_z), (1, .int i_1), (2, .int i_2), (3, .int i_3)] := hl
  generalize ([.ref q_z, .int i_1, .int i_2, .int i_3] : List Value).toArray = args at hts ⊢
  obtain ⟨H, hH0⟩ : ∃ H, H = s.heap := ⟨_, rfl⟩
  obtain ⟨locs, hlo0⟩ : ∃ L : List Loc, L = [] := ⟨_, rfl⟩
  have hS : va_S (zA Γ) s.heap H locs := by rw [hH0, hlo0]; exact hS
  have hW : Wd Γ lo0 S ((q_z, .inr (1, [.int 0, .int 0, .int 0, .int 0])) :: X) H := by rw [hH0]; exact hW
  rw [← hH0, ← hlo0]
  obtain ⟨lo, hle⟩ : ∃ z : zId → Nat, z = lo0 := ⟨_, rfl⟩
  have hlo : ∀ d, zV S d = true → lo d = lo0 d := fun d _ => by rw [hle]
  have hW : Wd Γ lo S ((q_z, .inr (1, [.int 0, .int 0, .int 0, .int 0])) :: X) H := by rw [hle]; exact hW
  have hl : lv_has ls 4 [(0, .ref q_z), (1, .int i_1), (2, .int i_2), (3, .int i_3)] := by first | (rw [hle]; exact hl) | exact hl
  unfold fX0_init at hf
  refine lv_aload_n hx hb dX0_init_0 rfl (lv_at hl 0 rfl) ?_
  refine W.objInit hx hb hown (hts (.methodLink RX0 3 objectInit) (List.mem_of_getElem? (i := 1) rfl)) (hts (.instanceMethod objectInit) (List.mem_of_getElem? (i := 2) rfl)) (hts (.code objectInit ⟨#[0xb1]⟩ 1 none) (List.mem_of_getElem? (i := 3) rfl)) rfl (hl.1.trans hml.symm) rfl dX0_init_1 (Nat.le_of_ble_eq_true rfl) (Nat.le_of_ble_eq_true rfl) ?_
  refine W.eq (g2 := F0 m 4 ls []) rfl ?_
  refine lv_aload_n hx hb dX0_init_4 rfl (lv_at hl 0 rfl) ?_
  refine lv_iconst (v := (0)) hx hb dX0_init_5 (by decide) ?_
  refine x_put hx hb hts ni_X0_init_X0 tyX0 tyX0_ok nmX0 hown hKK.1 hW hS 0 rfl rfl 1 (by decide) (hts (.fieldLink RX0 9 "TiltRoute$Ball" "y" "I") (List.mem_of_getElem? (i := 4) rfl)) rfl rfl rfl rfl rfl (show 1 < 4 by decide) dX0_init_6 (fun H locs hW hS => ?_)
  have hW : Wd Γ lo S ((q_z, .inr (1, [.int 0, .int (0 : Int32), .int 0, .int 0])) :: X) H := hW
  refine lv_aload_n hx hb dX0_init_9 rfl (lv_at hl 0 rfl) ?_
  refine lv_iload_n hx hb dX0_init_10 rfl (lv_at hl 1 rfl) ?_
  refine x_put hx hb hts ni_X0_init_X0 tyX0 tyX0_ok nmX0 hown hKK.1 hW hS 0 rfl rfl 0 (by decide) (hts (.fieldLink RX0 15 "TiltRoute$Ball" "x" "I") (List.mem_of_getElem? (i := 5) rfl)) rfl rfl rfl rfl rfl (show 0 < 4 by decide) dX0_init_11 (fun H locs hW hS => ?_)
  have hW : Wd Γ lo S ((q_z, .inr (1, [.int i_1, .int (0 : Int32), .int 0, .int 0])) :: X) H := hW
  refine lv_aload_n hx hb dX0_init_14 rfl (lv_at hl 0 rfl) ?_
  refine lv_iload_n hx hb dX0_init_15 rfl (lv_at hl 2 rfl) ?_
  refine x_put hx hb hts ni_X0_init_X0 tyX0 tyX0_ok nmX0 hown hKK.1 hW hS 0 rfl rfl 2 (by decide) (hts (.fieldLink RX0 18 "TiltRoute$Ball" "right" "I") (List.mem_of_getElem? (i := 6) rfl)) rfl rfl rfl rfl rfl (show 2 < 4 by decide) dX0_init_16 (fun H locs hW hS => ?_)
  have hW : Wd Γ lo S ((q_z, .inr (1, [.int i_1, .int (0 : Int32), .int i_2, .int 0])) :: X) H := hW
  refine lv_aload_n hx hb dX0_init_19 rfl (lv_at hl 0 rfl) ?_
  refine lv_iload_n hx hb dX0_init_20 rfl (lv_at hl 3 rfl) ?_
  refine x_put hx hb hts ni_X0_init_X0 tyX0 tyX0_ok nmX0 hown hKK.1 hW hS 0 rfl rfl 3 (by decide) (hts (.fieldLink RX0 21 "TiltRoute$Ball" "down" "I") (List.mem_of_getElem? (i := 7) rfl)) rfl rfl rfl rfl rfl (show 3 < 4 by decide) dX0_init_21 (fun H locs hW hS => ?_)
  have hW : Wd Γ lo S ((q_z, .inr (1, [.int i_1, .int (0 : Int32), .int i_2, .int i_3])) :: X) H := hW
  obtain ⟨h1, hf⟩ := op_gd hf
  obtain ⟨S2, eS2, hf⟩ := op_st hf
  have hne : ∀ d, zV S d = true → d ≠ (1, 0, 0) := fun d hd e => by rw [e, h1] at hd; cases hd
  have hW := wd_name hW (1, 0, 0) h1 (fun k => ([i_1, (0 : Int32), i_2, i_3] : List Int32).getD k 0) (fun _ => 0) (fun _ => none) (fun _ => 0) (rfl) (fun d hd => hd.elim)
  rw [← eS2] at hW
  have h1 : ∀ d, zV S d = true → lu lo (1, 0, 0) q_z d = lo d := fun d hd => lu_n lo q_z (hne d hd)
  obtain ⟨lo1, hl1⟩ : ∃ z, z = lu lo (1, 0, 0) q_z := ⟨_, rfl⟩
  have hEq_z : lo1 (1, 0, 0) = q_z := by rw [hl1]; exact lu_s lo _ _
  rw [← hl1] at hW h1
  have hmo : ∀ c, zV S c = true → zV S2 c = true := fun c h => by rw [eS2]; exact zV_nwm _ _ _ _ _ _ c h
  have hlo : ∀ d, zV S d = true → lo1 d = lo0 d := fun d hd => (h1 d (hm d hd)).trans (hlo d hd)
  rename zId → Nat => lo
  have hm : ∀ c, zV S c = true → zV S2 c = true := fun c h => hmo c (hm c h)
  have wq_z : zV S2 (1, 0, 0) = true := by rw [eS2]; exact zV_nws _ _ _ _ _ _
  have hf := Option.some.inj hf
  rw [← hf]
  exact n_vret hx hb hr hlocks (Nat.le_of_ble_eq_true rfl) (Nat.le_of_ble_eq_true rfl) rfl hW hS hlo hm ⟨hEq_z, wq_z⟩ dX0_init_24

theorem ni_X6_init_X6 : ∀ w ∈ wsX60, w ∈ wsX6_init := by decide +kernel
def fX6_init (S : zSt) (g_a : Nat) (g_b : Nat) : Option zSt :=
gd (zV S (13, g_a, g_b) = false) (st (nw S (13, g_a, g_b) (fun _ => 0) (fun _ => 0) (fun _ => none) (fun _ => 0)) fun S4 =>
gd (zV S4 (12, g_a, g_b) = false) (st (nw S4 (12, g_a, g_b) (fun _ => 0) (fun _ => 0) (fun _ => none) (fun _ => 0)) fun S6 =>
gd (zV S6 (7, g_a, g_b) = false) (st (nw S6 (7, g_a, g_b) (fun k => ([(0 : Int32), (0 : Int32)] : List Int32).getD k 0) (fun _ => 0) (fun _ => none) (fun _ => 0)) fun S8 =>
some (S8))))
abbrev rmX6_init : Room := { frames := 1, cells := 2, slots := 12, locals := 20 }
set_option maxHeartbeats 4000000 in
set_option maxRecDepth 100000 in
theorem tX6_init (l : Launch) (Γ : zG) (lo0 : zId → Nat) (S : zSt) (X : va_W) (q_z : Nat) {g_a : Nat} {g_b : Nat}  {y : zSt} (hf : fX6_init S g_a g_b = some y) : Met l yX6_init wsX6_init rmX6_init (zP2 Γ lo0 S ((q_z, .inr (7, [.null, .null])) :: X) [.ref q_z]) (zQn Γ lo0 S y X (fun _ => none) (fun lo1 => lo1 (7, g_a, g_b) = q_z ∧ zV y (7, g_a, g_b) = true)) 2 12 (zA Γ) := by
  refine Met.ofW (cc := cX6_init) (maxL := 1) (ret := none) (by decide) rfl ?_
  intro p e s m args below meth c s₁ B hml hv
  obtain ⟨rfl, hW, hKK, hKY⟩ := hv
  have hx := B.exec
  have hb := B.bytes
  have hr := B.returns
  have hts := atoms_spec (ws := wsX6_init) B.pre
  have hown : s.vm.findClass RX6 = some m.cls := findClass_of_methodNamed B.named
  have hlocks := B.notSynchronized
  have hin : meth.name = "<init>" := (name_of_methodNamed B.named B.method).1
  have hS : va_S (zA Γ) s.heap s.heap [] := va_S.rf
  have hB0 : Γ.2.2.1 ≤ s.heap.size := hW.1
  have hm : ∀ c, zV S c = true → zV S c = true := fun _ h => h
  have hl := lv_entry ([.ref q_z]) (n := 1) (Nat.le_of_ble_eq_true rfl)
  rw [lg_entry_eq]
  generalize (lg_sl ([.ref q_z]) ++ List.replicate (1 - (lg_sl ([.ref q_z])).length) Slot.unset).toArray = ls at hl ⊢
  have hl : lv_has ls 1 [(0, .ref q_z)] := hl
  generalize ([.ref q_z] : List Value).toArray = args at hts ⊢
  obtain ⟨H, hH0⟩ : ∃ H, H = s.heap := ⟨_, rfl⟩
  obtain ⟨locs, hlo0⟩ : ∃ L : List Loc, L = [] := ⟨_, rfl⟩
  have hS : va_S (zA Γ) s.heap H locs := by rw [hH0, hlo0]; exact hS
  have hW : Wd Γ lo0 S ((q_z, .inr (7, [.null, .null])) :: X) H := by rw [hH0]; exact hW
  rw [← hH0, ← hlo0]
  obtain ⟨lo, hle⟩ : ∃ z : zId → Nat, z = lo0 := ⟨_, rfl⟩
  have hlo : ∀ d, zV S d = true → lo d = lo0 d := fun d _ => by rw [hle]
  have hW : Wd Γ lo S ((q_z, .inr (7, [.null, .null])) :: X) H := by rw [hle]; exact hW
  have hl : lv_has ls 1 [(0, .ref q_z)] := by first | (rw [hle]; exact hl) | exact hl
  unfold fX6_init at hf
  refine lv_aload_n hx hb dX6_init_0 rfl (lv_at hl 0 rfl) ?_
  refine W.objInit hx hb hown (hts (.methodLink RX6 3 objectInit) (List.mem_of_getElem? (i := 1) rfl)) (hts (.instanceMethod objectInit) (List.mem_of_getElem? (i := 2) rfl)) (hts (.code objectInit ⟨#[0xb1]⟩ 1 none) (List.mem_of_getElem? (i := 3) rfl)) rfl (hl.1.trans hml.symm) rfl dX6_init_1 (Nat.le_of_ble_eq_true rfl) (Nat.le_of_ble_eq_true rfl) ?_
  refine W.eq (g2 := F0 m 4 ls []) rfl ?_
  refine lv_aload_n hx hb dX6_init_4 rfl (lv_at hl 0 rfl) ?_
  refine lv_bipush (v := (8)) hx hb dX6_init_5 (by decide) ?_
  refine n_newi (N' := 8) hx hb (hts (.arrayClass .int) (List.mem_of_getElem? (i := 4) rfl)) hKK.1 hW hS hB0 (by decide) (by decide) (by decide) (Nat.le_of_ble_eq_true rfl) (Nat.le_of_ble_eq_true rfl) dX6_init_7 (fun q1 H hW hS => ?_)
  refine x_putF hx hb hts ni_X6_init_X6 tyX6 tyX6_ok nmX6 hown hKK.1 hW hS 1 rfl rfl 0 (by decide) (hts (.fieldLink RX6 9 "TiltRoute$Rules" "points" "[I") (List.mem_of_getElem? (i := 5) rfl)) rfl rfl hin rfl rfl rfl rfl (show 0 < 2 by decide) dX6_init_9 (fun H locs hW hS => ?_)
  have hW : Wd Γ lo S ((q1, .inl (Γ.2.1 0, 8, .inl (fun _ => 0))) :: (q_z, .inr (7, [.ref q1, .null])) :: X) H := hW
  refine lv_aload_n hx hb dX6_init_12 rfl (lv_at hl 0 rfl) ?_
  refine lv_iconst (v := (4)) hx hb dX6_init_13 (by decide) ?_
  refine n_newq (kA := 3) (N' := 4) hx hb hown (hts (.classLink RX6 15 RX3) (List.mem_of_getElem? (i := 6) rfl)) hKY.1 hKK.1 rfl hW hS hB0 (by decide) (by decide) (by decide) (Nat.le_of_ble_eq_true rfl) (Nat.le_of_ble_eq_true rfl) dX6_init_14 (fun q2 H hW hS => ?_)
  refine x_putF hx hb hts ni_X6_init_X6 tyX6 tyX6_ok nmX6 hown hKK.1 hW hS 2 rfl rfl 1 (by decide) (hts (.fieldLink RX6 17 "TiltRoute$Rules" "modes" "[LTiltRoute$Mode;") (List.mem_of_getElem? (i := 7) rfl)) rfl rfl hin rfl rfl rfl rfl (show 1 < 2 by decide) dX6_init_17 (fun H locs hW hS => ?_)
  have hW : Wd Γ lo S ((q2, .inl (Γ.2.1 3, 4, .inr (.inr (.inr (.inr (fun _ => none)))))) :: (q1, .inl (Γ.2.1 0, 8, .inl (fun _ => 0))) :: (q_z, .inr (7, [.ref q1, .ref q2])) :: X) H := hW
  obtain ⟨h3, hf⟩ := op_gd hf
  obtain ⟨S4, eS4, hf⟩ := op_st hf
  have hne : ∀ d, zV S d = true → d ≠ (13, g_a, g_b) := fun d hd e => by rw [e, h3] at hd; cases hd
  have hW := wd_name hW (13, g_a, g_b) h3 (fun _ => 0) (fun _ => 0) (fun _ => none) (fun _ => 0) (rfl) (fun d hd => by obtain ⟨_, _, h, _⟩ := hd; rw [zQ_nw, if_pos rfl] at h; cases h)
  rw [← eS4] at hW
  have h1 : ∀ d, zV S d = true → lu lo (13, g_a, g_b) q2 d = lo d := fun d hd => lu_n lo q2 (hne d hd)
  obtain ⟨lo1, hl1⟩ : ∃ z, z = lu lo (13, g_a, g_b) q2 := ⟨_, rfl⟩
  have hEq2 : lo1 (13, g_a, g_b) = q2 := by rw [hl1]; exact lu_s lo _ _
  rw [← hl1] at hW h1
  have hmo : ∀ c, zV S c = true → zV S4 c = true := fun c h => by rw [eS4]; exact zV_nwm _ _ _ _ _ _ c h
  rw [← hEq2] at hW
  have hlo : ∀ d, zV S d = true → lo1 d = lo0 d := fun d hd => (h1 d (hm d hd)).trans (hlo d hd)
  rename zId → Nat => lo
  have hm : ∀ c, zV S c = true → zV S4 c = true := fun c h => hmo c (hm c h)
  have wq2 : zV S4 (13, g_a, g_b) = true := by rw [eS4]; exact zV_nws _ _ _ _ _ _
  obtain ⟨h5, hf⟩ := op_gd hf
  obtain ⟨S6, eS6, hf⟩ := op_st hf
  have hne : ∀ d, zV S4 d = true → d ≠ (12, g_a, g_b) := fun d hd e => by rw [e, h5] at hd; cases hd
  have hW := wd_name hW (12, g_a, g_b) h5 (fun _ => 0) (fun _ => 0) (fun _ => none) (fun _ => 0) (rfl) (fun d hd => hd.elim)
  rw [← eS6] at hW
  have h1 : ∀ d, zV S4 d = true → lu lo (12, g_a, g_b) q1 d = lo d := fun d hd => lu_n lo q1 (hne d hd)
  obtain ⟨lo1, hl1⟩ : ∃ z, z = lu lo (12, g_a, g_b) q1 := ⟨_, rfl⟩
  have hEq1 : lo1 (12, g_a, g_b) = q1 := by rw [hl1]; exact lu_s lo _ _
  rw [← hl1] at hW h1
  have hmo : ∀ c, zV S4 c = true → zV S6 c = true := fun c h => by rw [eS6]; exact zV_nwm _ _ _ _ _ _ c h
  rw [← hEq1] at hW
  rw [← h1 (13, g_a, g_b) wq2] at hW
  have hlo : ∀ d, zV S d = true → lo1 d = lo0 d := fun d hd => (h1 d (hm d hd)).trans (hlo d hd)
  rename zId → Nat => lo
  have hm : ∀ c, zV S c = true → zV S6 c = true := fun c h => hmo c (hm c h)
  have wq2 : zV S6 (13, g_a, g_b) = true := hmo _ wq2
  have wq1 : zV S6 (12, g_a, g_b) = true := by rw [eS6]; exact zV_nws _ _ _ _ _ _
  obtain ⟨h7, hf⟩ := op_gd hf
  obtain ⟨S8, eS8, hf⟩ := op_st hf
  have hne : ∀ d, zV S6 d = true → d ≠ (7, g_a, g_b) := fun d hd e => by rw [e, h7] at hd; cases hd
  have hW := wd_name hW (7, g_a, g_b) h7 (fun k => ([(0 : Int32), (0 : Int32)] : List Int32).getD k 0) (fun _ => 0) (fun _ => none) (fun _ => 0) (by rw [show lo (12, g_a, g_b) = lu lo (7, g_a, g_b) q_z (12, g_a, g_b) from (lu_n lo q_z (hne _ wq1)).symm]; rw [show lo (13, g_a, g_b) = lu lo (7, g_a, g_b) q_z (13, g_a, g_b) from (lu_n lo q_z (hne _ wq2)).symm]; rfl) (fun d hd => by rcases hd with rfl | rfl <;> assumption)
  rw [← eS8] at hW
  have h1 : ∀ d, zV S6 d = true → lu lo (7, g_a, g_b) q_z d = lo d := fun d hd => lu_n lo q_z (hne d hd)
  obtain ⟨lo1, hl1⟩ : ∃ z, z = lu lo (7, g_a, g_b) q_z := ⟨_, rfl⟩
  have hEq_z : lo1 (7, g_a, g_b) = q_z := by rw [hl1]; exact lu_s lo _ _
  rw [← hl1] at hW h1
  have hmo : ∀ c, zV S6 c = true → zV S8 c = true := fun c h => by rw [eS8]; exact zV_nwm _ _ _ _ _ _ c h
  have hlo : ∀ d, zV S d = true → lo1 d = lo0 d := fun d hd => (h1 d (hm d hd)).trans (hlo d hd)
  rename zId → Nat => lo
  have hm : ∀ c, zV S c = true → zV S8 c = true := fun c h => hmo c (hm c h)
  have wq2 : zV S8 (13, g_a, g_b) = true := hmo _ wq2
  have wq1 : zV S8 (12, g_a, g_b) = true := hmo _ wq1
  have wq_z : zV S8 (7, g_a, g_b) = true := by rw [eS8]; exact zV_nws _ _ _ _ _ _
  have hf := Option.some.inj hf
  rw [← hf]
  exact n_vret hx hb hr hlocks (Nat.le_of_ble_eq_true rfl) (Nat.le_of_ble_eq_true rfl) rfl hW hS hlo hm ⟨hEq_z, wq_z⟩ dX6_init_20

theorem ni_X5_init_X5 : ∀ w ∈ wsX50, w ∈ wsX5_init := by decide +kernel
def fX5_init (S : zSt) (g_a : Nat) (g_b : Nat) : Option zSt :=
gd (zV S (15, g_a, g_b) = false) (st (nw S (15, g_a, g_b) (fun _ => 0) (fun _ => 0) (fun _ => none) (fun _ => 0)) fun S4 =>
gd (zV S4 (14, g_a, g_b) = false) (st (nw S4 (14, g_a, g_b) (fun _ => 0) (fun _ => 0) (fun _ => none) (fun _ => 0)) fun S6 =>
gd (zV S6 (6, g_a, g_b) = false) (st (nw S6 (6, g_a, g_b) (fun k => ([(0 : Int32), (0 : Int32), (0 : Int32), (0 : Int32)] : List Int32).getD k 0) (fun _ => 0) (fun _ => none) (fun _ => 0)) fun S8 =>
some (S8))))
abbrev rmX5_init : Room := { frames := 1, cells := 2, slots := 6, locals := 20 }
set_option maxHeartbeats 4000000 in
set_option maxRecDepth 100000 in
theorem tX5_init (l : Launch) (Γ : zG) (lo0 : zId → Nat) (S : zSt) (X : va_W) (q_z : Nat) {g_a : Nat} {g_b : Nat}  {y : zSt} (hf : fX5_init S g_a g_b = some y) : Met l yX5_init wsX5_init rmX5_init (zP2 Γ lo0 S ((q_z, .inr (6, [.null, .null, .int 0, .int 0])) :: X) [.ref q_z]) (zQn Γ lo0 S y X (fun _ => none) (fun lo1 => lo1 (6, g_a, g_b) = q_z ∧ zV y (6, g_a, g_b) = true)) 2 6 (zA Γ) := by
  refine Met.ofW (cc := cX5_init) (maxL := 1) (ret := none) (by decide) rfl ?_
  intro p e s m args below meth c s₁ B hml hv
  obtain ⟨rfl, hW, hKK, hKY⟩ := hv
  have hx := B.exec
  have hb := B.bytes
  have hr := B.returns
  have hts := atoms_spec (ws := wsX5_init) B.pre
  have hown : s.vm.findClass RX5 = some m.cls := findClass_of_methodNamed B.named
  have hlocks := B.notSynchronized
  have hin : meth.name = "<init>" := (name_of_methodNamed B.named B.method).1
  have hS : va_S (zA Γ) s.heap s.heap [] := va_S.rf
  have hB0 : Γ.2.2.1 ≤ s.heap.size := hW.1
  have hm : ∀ c, zV S c = true → zV S c = true := fun _ h => h
  have hl := lv_entry ([.ref q_z]) (n := 1) (Nat.le_of_ble_eq_true rfl)
  rw [lg_entry_eq]
  generalize (lg_sl ([.ref q_z]) ++ List.replicate (1 - (lg_sl ([.ref q_z])).length) Slot.unset).toArray = ls at hl ⊢
  have hl : lv_has ls 1 [(0, .ref q_z)] := hl
  generalize ([.ref q_z] : List Value).toArray = args at hts ⊢
  obtain ⟨H, hH0⟩ : ∃ H, H = s.heap := ⟨_, rfl⟩
  obtain ⟨locs, hlo0⟩ : ∃ L : List Loc, L = [] := ⟨_, rfl⟩
  have hS : va_S (zA Γ) s.heap H locs := by rw [hH0, hlo0]; exact hS
  have hW : Wd Γ lo0 S ((q_z, .inr (6, [.null, .null, .int 0, .int 0])) :: X) H := by rw [hH0]; exact hW
  rw [← hH0, ← hlo0]
  obtain ⟨lo, hle⟩ : ∃ z : zId → Nat, z = lo0 := ⟨_, rfl⟩
  have hlo : ∀ d, zV S d = true → lo d = lo0 d := fun d _ => by rw [hle]
  have hW : Wd Γ lo S ((q_z, .inr (6, [.null, .null, .int 0, .int 0])) :: X) H := by rw [hle]; exact hW
  have hl : lv_has ls 1 [(0, .ref q_z)] := by first | (rw [hle]; exact hl) | exact hl
  unfold fX5_init at hf
  refine lv_aload_n hx hb dX5_init_0 rfl (lv_at hl 0 rfl) ?_
  refine W.objInit hx hb hown (hts (.methodLink RX5 3 objectInit) (List.mem_of_getElem? (i := 1) rfl)) (hts (.instanceMethod objectInit) (List.mem_of_getElem? (i := 2) rfl)) (hts (.code objectInit ⟨#[0xb1]⟩ 1 none) (List.mem_of_getElem? (i := 3) rfl)) rfl (hl.1.trans hml.symm) rfl dX5_init_1 (Nat.le_of_ble_eq_true rfl) (Nat.le_of_ble_eq_true rfl) ?_
  refine W.eq (g2 := F0 m 4 ls []) rfl ?_
  refine lv_aload_n hx hb dX5_init_4 rfl (lv_at hl 0 rfl) ?_
  refine lv_iconst (v := (3)) hx hb dX5_init_5 (by decide) ?_
  refine n_newi (N' := 3) hx hb (hts (.arrayClass .int) (List.mem_of_getElem? (i := 4) rfl)) hKK.1 hW hS hB0 (by decide) (by decide) (by decide) (Nat.le_of_ble_eq_true rfl) (Nat.le_of_ble_eq_true rfl) dX5_init_6 (fun q1 H hW hS => ?_)
  refine x_putF hx hb hts ni_X5_init_X5 tyX5 tyX5_ok nmX5 hown hKK.1 hW hS 1 rfl rfl 0 (by decide) (hts (.fieldLink RX5 9 "TiltRoute$Play" "stacked" "[I") (List.mem_of_getElem? (i := 5) rfl)) rfl rfl hin rfl rfl rfl rfl (show 0 < 4 by decide) dX5_init_8 (fun H locs hW hS => ?_)
  have hW : Wd Γ lo S ((q1, .inl (Γ.2.1 0, 3, .inl (fun _ => 0))) :: (q_z, .inr (6, [.ref q1, .null, .int 0, .int 0])) :: X) H := hW
  refine lv_aload_n hx hb dX5_init_11 rfl (lv_at hl 0 rfl) ?_
  refine lv_iconst (v := (3)) hx hb dX5_init_12 (by decide) ?_
  refine n_newi (N' := 3) hx hb (hts (.arrayClass .int) (List.mem_of_getElem? (i := 4) rfl)) hKK.1 hW hS hB0 (by decide) (by decide) (by decide) (Nat.le_of_ble_eq_true rfl) (Nat.le_of_ble_eq_true rfl) dX5_init_13 (fun q2 H hW hS => ?_)
  refine x_putF hx hb hts ni_X5_init_X5 tyX5 tyX5_ok nmX5 hown hKK.1 hW hS 2 rfl rfl 1 (by decide) (hts (.fieldLink RX5 15 "TiltRoute$Play" "hits" "[I") (List.mem_of_getElem? (i := 6) rfl)) rfl rfl hin rfl rfl rfl rfl (show 1 < 4 by decide) dX5_init_15 (fun H locs hW hS => ?_)
  have hW : Wd Γ lo S ((q2, .inl (Γ.2.1 0, 3, .inl (fun _ => 0))) :: (q1, .inl (Γ.2.1 0, 3, .inl (fun _ => 0))) :: (q_z, .inr (6, [.ref q1, .ref q2, .int 0, .int 0])) :: X) H := hW
  refine lv_aload_n hx hb dX5_init_18 rfl (lv_at hl 0 rfl) ?_
  refine lv_iconst (v := (0)) hx hb dX5_init_19 (by decide) ?_
  refine x_put hx hb hts ni_X5_init_X5 tyX5 tyX5_ok nmX5 hown hKK.1 hW hS 2 rfl rfl 2 (by decide) (hts (.fieldLink RX5 18 "TiltRoute$Play" "depth" "I") (List.mem_of_getElem? (i := 7) rfl)) rfl rfl rfl rfl rfl (show 2 < 4 by decide) dX5_init_20 (fun H locs hW hS => ?_)
  have hW : Wd Γ lo S ((q2, .inl (Γ.2.1 0, 3, .inl (fun _ => 0))) :: (q1, .inl (Γ.2.1 0, 3, .inl (fun _ => 0))) :: (q_z, .inr (6, [.ref q1, .ref q2, .int (0 : Int32), .int 0])) :: X) H := hW
  refine lv_aload_n hx hb dX5_init_23 rfl (lv_at hl 0 rfl) ?_
  refine lv_iconst (v := (0)) hx hb dX5_init_24 (by decide) ?_
  refine x_put hx hb hts ni_X5_init_X5 tyX5 tyX5_ok nmX5 hown hKK.1 hW hS 2 rfl rfl 3 (by decide) (hts (.fieldLink RX5 22 "TiltRoute$Play" "score" "I") (List.mem_of_getElem? (i := 8) rfl)) rfl rfl rfl rfl rfl (show 3 < 4 by decide) dX5_init_25 (fun H locs hW hS => ?_)
  have hW : Wd Γ lo S ((q2, .inl (Γ.2.1 0, 3, .inl (fun _ => 0))) :: (q1, .inl (Γ.2.1 0, 3, .inl (fun _ => 0))) :: (q_z, .inr (6, [.ref q1, .ref q2, .int (0 : Int32), .int (0 : Int32)])) :: X) H := hW
  obtain ⟨h3, hf⟩ := op_gd hf
  obtain ⟨S4, eS4, hf⟩ := op_st hf
  have hne : ∀ d, zV S d = true → d ≠ (15, g_a, g_b) := fun d hd e => by rw [e, h3] at hd; cases hd
  have hW := wd_name hW (15, g_a, g_b) h3 (fun _ => 0) (fun _ => 0) (fun _ => none) (fun _ => 0) (rfl) (fun d hd => hd.elim)
  rw [← eS4] at hW
  have h1 : ∀ d, zV S d = true → lu lo (15, g_a, g_b) q2 d = lo d := fun d hd => lu_n lo q2 (hne d hd)
  obtain ⟨lo1, hl1⟩ : ∃ z, z = lu lo (15, g_a, g_b) q2 := ⟨_, rfl⟩
  have hEq2 : lo1 (15, g_a, g_b) = q2 := by rw [hl1]; exact lu_s lo _ _
  rw [← hl1] at hW h1
  have hmo : ∀ c, zV S c = true → zV S4 c = true := fun c h => by rw [eS4]; exact zV_nwm _ _ _ _ _ _ c h
  rw [← hEq2] at hW
  have hlo : ∀ d, zV S d = true → lo1 d = lo0 d := fun d hd => (h1 d (hm d hd)).trans (hlo d hd)
  rename zId → Nat => lo
  have hm : ∀ c, zV S c = true → zV S4 c = true := fun c h => hmo c (hm c h)
  have wq2 : zV S4 (15, g_a, g_b) = true := by rw [eS4]; exact zV_nws _ _ _ _ _ _
  obtain ⟨h5, hf⟩ := op_gd hf
  obtain ⟨S6, eS6, hf⟩ := op_st hf
  have hne : ∀ d, zV S4 d = true → d ≠ (14, g_a, g_b) := fun d hd e => by rw [e, h5] at hd; cases hd
  have hW := wd_name hW (14, g_a, g_b) h5 (fun _ => 0) (fun _ => 0) (fun _ => none) (fun _ => 0) (rfl) (fun d hd => hd.elim)
  rw [← eS6] at hW
  have h1 : ∀ d, zV S4 d = true → lu lo (14, g_a, g_b) q1 d = lo d := fun d hd => lu_n lo q1 (hne d hd)
  obtain ⟨lo1, hl1⟩ : ∃ z, z = lu lo (14, g_a, g_b) q1 := ⟨_, rfl⟩
  have hEq1 : lo1 (14, g_a, g_b) = q1 := by rw [hl1]; exact lu_s lo _ _
  rw [← hl1] at hW h1
  have hmo : ∀ c, zV S4 c = true → zV S6 c = true := fun c h => by rw [eS6]; exact zV_nwm _ _ _ _ _ _ c h
  rw [← hEq1] at hW
  rw [← h1 (15, g_a, g_b) wq2] at hW
  have hlo : ∀ d, zV S d = true → lo1 d = lo0 d := fun d hd => (h1 d (hm d hd)).trans (hlo d hd)
  rename zId → Nat => lo
  have hm : ∀ c, zV S c = true → zV S6 c = true := fun c h => hmo c (hm c h)
  have wq2 : zV S6 (15, g_a, g_b) = true := hmo _ wq2
  have wq1 : zV S6 (14, g_a, g_b) = true := by rw [eS6]; exact zV_nws _ _ _ _ _ _
  obtain ⟨h7, hf⟩ := op_gd hf
  obtain ⟨S8, eS8, hf⟩ := op_st hf
  have hne : ∀ d, zV S6 d = true → d ≠ (6, g_a, g_b) := fun d hd e => by rw [e, h7] at hd; cases hd
  have hW := wd_name hW (6, g_a, g_b) h7 (fun k => ([(0 : Int32), (0 : Int32), (0 : Int32), (0 : Int32)] : List Int32).getD k 0) (fun _ => 0) (fun _ => none) (fun _ => 0) (by rw [show lo (14, g_a, g_b) = lu lo (6, g_a, g_b) q_z (14, g_a, g_b) from (lu_n lo q_z (hne _ wq1)).symm]; rw [show lo (15, g_a, g_b) = lu lo (6, g_a, g_b) q_z (15, g_a, g_b) from (lu_n lo q_z (hne _ wq2)).symm]; rfl) (fun d hd => by rcases hd with rfl | rfl <;> assumption)
  rw [← eS8] at hW
  have h1 : ∀ d, zV S6 d = true → lu lo (6, g_a, g_b) q_z d = lo d := fun d hd => lu_n lo q_z (hne d hd)
  obtain ⟨lo1, hl1⟩ : ∃ z, z = lu lo (6, g_a, g_b) q_z := ⟨_, rfl⟩
  have hEq_z : lo1 (6, g_a, g_b) = q_z := by rw [hl1]; exact lu_s lo _ _
  rw [← hl1] at hW h1
  have hmo : ∀ c, zV S6 c = true → zV S8 c = true := fun c h => by rw [eS8]; exact zV_nwm _ _ _ _ _ _ c h
  have hlo : ∀ d, zV S d = true → lo1 d = lo0 d := fun d hd => (h1 d (hm d hd)).trans (hlo d hd)
  rename zId → Nat => lo
  have hm : ∀ c, zV S c = true → zV S8 c = true := fun c h => hmo c (hm c h)
  have wq2 : zV S8 (15, g_a, g_b) = true := hmo _ wq2
  have wq1 : zV S8 (14, g_a, g_b) = true := hmo _ wq1
  have wq_z : zV S8 (6, g_a, g_b) = true := by rw [eS8]; exact zV_nws _ _ _ _ _ _
  have hf := Option.some.inj hf
  rw [← hf]
  exact n_vret hx hb hr hlocks (Nat.le_of_ble_eq_true rfl) (Nat.le_of_ble_eq_true rfl) rfl hW hS hlo hm ⟨hEq_z, wq_z⟩ dX5_init_28

theorem ni_X8_init_X8 : ∀ w ∈ wsX80, w ∈ wsX8_init := by decide +kernel
def fX8_init (S : zSt) (g_a : Nat) : Option zSt :=
gd (zV S (20, g_a, 0) = false) (st (nw S (20, g_a, 0) (fun _ => 0) (fun _ => 0) (fun _ => none) (fun _ => 0)) fun S3 =>
gd (zV S3 (9, g_a, 0) = false) (st (nw S3 (9, g_a, 0) (fun k => ([(0 : Int32), (0 : Int32)] : List Int32).getD k 0) (fun _ => 0) (fun _ => none) (fun _ => 0)) fun S5 =>
some (S5)))
abbrev rmX8_init : Room := { frames := 1, cells := 1, slots := 2, locals := 20 }
set_option maxHeartbeats 4000000 in
set_option maxRecDepth 100000 in
theorem tX8_init (l : Launch) (Γ : zG) (lo0 : zId → Nat) (S : zSt) (X : va_W) (q_z : Nat) {g_a : Nat}  {y : zSt} (hf : fX8_init S g_a = some y) : Met l yX8_init wsX8_init rmX8_init (zP2 Γ lo0 S ((q_z, .inr (9, [.null, .int 0])) :: X) [.ref q_z]) (zQn Γ lo0 S y X (fun _ => none) (fun lo1 => lo1 (9, g_a, 0) = q_z ∧ zV y (9, g_a, 0) = true)) 1 2 (zA Γ) := by
  refine Met.ofW (cc := cX8_init) (maxL := 1) (ret := none) (by decide) rfl ?_
  intro p e s m args below meth c s₁ B hml hv
  obtain ⟨rfl, hW, hKK, hKY⟩ := hv
  have hx := B.exec
  have hb := B.bytes
  have hr := B.returns
  have hts := atoms_spec (ws := wsX8_init) B.pre
  have hown : s.vm.findClass RX8 = some m.cls := findClass_of_methodNamed B.named
  have hlocks := B.notSynchronized
  have hin : meth.name = "<init>" := (name_of_methodNamed B.named B.method).1
  have hS : va_S (zA Γ) s.heap s.heap [] := va_S.rf
  have hB0 : Γ.2.2.1 ≤ s.heap.size := hW.1
  have hm : ∀ c, zV S c = true → zV S c = true := fun _ h => h
  have hl := lv_entry ([.ref q_z]) (n := 1) (Nat.le_of_ble_eq_true rfl)
  rw [lg_entry_eq]
  generalize (lg_sl ([.ref q_z]) ++ List.replicate (1 - (lg_sl ([.ref q_z])).length) Slot.unset).toArray = ls at hl ⊢
  have hl : lv_has ls 1 [(0, .ref q_z)] := hl
  generalize ([.ref q_z] : List Value).toArray = args at hts ⊢
  obtain ⟨H, hH0⟩ : ∃ H, H = s.heap := ⟨_, rfl⟩
  obtain ⟨locs, hlo0⟩ : ∃ L : List Loc, L = [] := ⟨_, rfl⟩
  have hS : va_S (zA Γ) s.heap H locs := by rw [hH0, hlo0]; exact hS
  have hW : Wd Γ lo0 S ((q_z, .inr (9, [.null, .int 0])) :: X) H := by rw [hH0]; exact hW
  rw [← hH0, ← hlo0]
  obtain ⟨lo, hle⟩ : ∃ z : zId → Nat, z = lo0 := ⟨_, rfl⟩
  have hlo : ∀ d, zV S d = true → lo d = lo0 d := fun d _ => by rw [hle]
  have hW : Wd Γ lo S ((q_z, .inr (9, [.null, .int 0])) :: X) H := by rw [hle]; exact hW
  have hl : lv_has ls 1 [(0, .ref q_z)] := by first | (rw [hle]; exact hl) | exact hl
  unfold fX8_init at hf
  refine lv_aload_n hx hb dX8_init_0 rfl (lv_at hl 0 rfl) ?_
  refine W.objInit hx hb hown (hts (.methodLink RX8 3 objectInit) (List.mem_of_getElem? (i := 1) rfl)) (hts (.instanceMethod objectInit) (List.mem_of_getElem? (i := 2) rfl)) (hts (.code objectInit ⟨#[0xb1]⟩ 1 none) (List.mem_of_getElem? (i := 3) rfl)) rfl (hl.1.trans hml.symm) rfl dX8_init_1 (Nat.le_of_ble_eq_true rfl) (Nat.le_of_ble_eq_true rfl) ?_
  refine W.eq (g2 := F0 m 4 ls []) rfl ?_
  refine lv_aload_n hx hb dX8_init_4 rfl (lv_at hl 0 rfl) ?_
  refine lv_iconst (v := (2)) hx hb dX8_init_5 (by decide) ?_
  refine n_newi (N' := 2) hx hb (hts (.arrayClass .int) (List.mem_of_getElem? (i := 4) rfl)) hKK.1 hW hS hB0 (by decide) (by decide) (by decide) (Nat.le_of_ble_eq_true rfl) (Nat.le_of_ble_eq_true rfl) dX8_init_6 (fun q1 H hW hS => ?_)
  refine x_putF hx hb hts ni_X8_init_X8 tyX8 tyX8_ok nmX8 hown hKK.1 hW hS 1 rfl rfl 0 (by decide) (hts (.fieldLink RX8 9 "TiltRoute$Van" "spare" "[I") (List.mem_of_getElem? (i := 5) rfl)) rfl rfl hin rfl rfl rfl rfl (show 0 < 2 by decide) dX8_init_8 (fun H locs hW hS => ?_)
  have hW : Wd Γ lo S ((q1, .inl (Γ.2.1 0, 2, .inl (fun _ => 0))) :: (q_z, .inr (9, [.ref q1, .int 0])) :: X) H := hW
  refine lv_aload_n hx hb dX8_init_11 rfl (lv_at hl 0 rfl) ?_
  refine lv_iconst (v := (0)) hx hb dX8_init_12 (by decide) ?_
  refine x_put hx hb hts ni_X8_init_X8 tyX8 tyX8_ok nmX8 hown hKK.1 hW hS 1 rfl rfl 1 (by decide) (hts (.fieldLink RX8 15 "TiltRoute$Van" "site" "I") (List.mem_of_getElem? (i := 6) rfl)) rfl rfl rfl rfl rfl (show 1 < 2 by decide) dX8_init_13 (fun H locs hW hS => ?_)
  have hW : Wd Γ lo S ((q1, .inl (Γ.2.1 0, 2, .inl (fun _ => 0))) :: (q_z, .inr (9, [.ref q1, .int (0 : Int32)])) :: X) H := hW
  obtain ⟨h2, hf⟩ := op_gd hf
  obtain ⟨S3, eS3, hf⟩ := op_st hf
  have hne : ∀ d, zV S d = true → d ≠ (20, g_a, 0) := fun d hd e => by rw [e, h2] at hd; cases hd
  have hW := wd_name hW (20, g_a, 0) h2 (fun _ => 0) (fun _ => 0) (fun _ => none) (fun _ => 0) (rfl) (fun d hd => hd.elim)
  rw [← eS3] at hW
  have h1 : ∀ d, zV S d = true → lu lo (20, g_a, 0) q1 d = lo d := fun d hd => lu_n lo q1 (hne d hd)
  obtain ⟨lo1, hl1⟩ : ∃ z, z = lu lo (20, g_a, 0) q1 := ⟨_, rfl⟩
  have hEq1 : lo1 (20, g_a, 0) = q1 := by rw [hl1]; exact lu_s lo _ _
  rw [← hl1] at hW h1
  have hmo : ∀ c, zV S c = true → zV S3 c = true := fun c h => by rw [eS3]; exact zV_nwm _ _ _ _ _ _ c h
  rw [← hEq1] at hW
  have hlo : ∀ d, zV S d = true → lo1 d = lo0 d := fun d hd => (h1 d (hm d hd)).trans (hlo d hd)
  rename zId → Nat => lo
  have hm : ∀ c, zV S c = true → zV S3 c = true := fun c h => hmo c (hm c h)
  have wq1 : zV S3 (20, g_a, 0) = true := by rw [eS3]; exact zV_nws _ _ _ _ _ _
  obtain ⟨h4, hf⟩ := op_gd hf
  obtain ⟨S5, eS5, hf⟩ := op_st hf
  have hne : ∀ d, zV S3 d = true → d ≠ (9, g_a, 0) := fun d hd e => by rw [e, h4] at hd; cases hd
  have hW := wd_name hW (9, g_a, 0) h4 (fun k => ([(0 : Int32), (0 : Int32)] : List Int32).getD k 0) (fun _ => 0) (fun _ => none) (fun _ => 0) (by rw [show lo (20, g_a, 0) = lu lo (9, g_a, 0) q_z (20, g_a, 0) from (lu_n lo q_z (hne _ wq1)).symm]; rfl) (fun d hd => by rw [show d = (20, g_a, 0) from hd]; exact wq1)
  rw [← eS5] at hW
  have h1 : ∀ d, zV S3 d = true → lu lo (9, g_a, 0) q_z d = lo d := fun d hd => lu_n lo q_z (hne d hd)
  obtain ⟨lo1, hl1⟩ : ∃ z, z = lu lo (9, g_a, 0) q_z := ⟨_, rfl⟩
  have hEq_z : lo1 (9, g_a, 0) = q_z := by rw [hl1]; exact lu_s lo _ _
  rw [← hl1] at hW h1
  have hmo : ∀ c, zV S3 c = true → zV S5 c = true := fun c h => by rw [eS5]; exact zV_nwm _ _ _ _ _ _ c h
  have hlo : ∀ d, zV S d = true → lo1 d = lo0 d := fun d hd => (h1 d (hm d hd)).trans (hlo d hd)
  rename zId → Nat => lo
  have hm : ∀ c, zV S c = true → zV S5 c = true := fun c h => hmo c (hm c h)
  have wq1 : zV S5 (20, g_a, 0) = true := hmo _ wq1
  have wq_z : zV S5 (9, g_a, 0) = true := by rw [eS5]; exact zV_nws _ _ _ _ _ _
  have hf := Option.some.inj hf
  rw [← hf]
  exact n_vret hx hb hr hlocks (Nat.le_of_ble_eq_true rfl) (Nat.le_of_ble_eq_true rfl) rfl hW hS hlo hm ⟨hEq_z, wq_z⟩ dX8_init_16

theorem ni_X4_init_X4 : ∀ w ∈ wsX40, w ∈ wsX4_init := by decide +kernel
def fX4_init (S : zSt)  : Option zSt :=
gd (zV S (19, 0, 0) = false) (st (nw S (19, 0, 0) (fun _ => 0) (fun _ => 0) (fun _ => none) (fun _ => 0)) fun S5 =>
gd (zV S5 (18, 0, 0) = false) (st (nw S5 (18, 0, 0) (fun _ => 0) (fun _ => 0) (fun _ => none) (fun _ => 0)) fun S7 =>
gd (zV S7 (17, 0, 0) = false) (st (nw S7 (17, 0, 0) (fun _ => 0) (fun _ => 0) (fun _ => none) (fun _ => 0)) fun S9 =>
gd (zV S9 (5, 0, 0) = false) (st (nw S9 (5, 0, 0) (fun k => ([(0 : Int32), (0 : Int32), (0 : Int32), (0 : Int32), (0 : Int32)] : List Int32).getD k 0) (fun _ => 0) (fun _ => none) (fun _ => 0)) fun S11 =>
some (S11)))))
abbrev rmX4_init : Room := { frames := 1, cells := 3, slots := 18, locals := 20 }
set_option maxHeartbeats 4000000 in
set_option maxRecDepth 100000 in
theorem tX4_init (l : Launch) (Γ : zG) (lo0 : zId → Nat) (S : zSt) (X : va_W) (q_z : Nat)   {y : zSt} (hf : fX4_init S  = some y) : Met l yX4_init wsX4_init rmX4_init (zP2 Γ lo0 S ((q_z, .inr (5, [.null, .null, .null, .int 0, .int 0])) :: X) [.ref q_z]) (zQn Γ lo0 S y X (fun _ => none) (fun lo1 => lo1 (5, 0, 0) = q_z ∧ zV y (5, 0, 0) = true)) 3 18 (zA Γ) := by
  refine Met.ofW (cc := cX4_init) (maxL := 1) (ret := none) (by decide) rfl ?_
  intro p e s m args below meth c s₁ B hml hv
  obtain ⟨rfl, hW, hKK, hKY⟩ := hv
  have hx := B.exec
  have hb := B.bytes
  have hr := B.returns
  have hts := atoms_spec (ws := wsX4_init) B.pre
  have hown : s.vm.findClass RX4 = some m.cls := findClass_of_methodNamed B.named
  have hlocks := B.notSynchronized
  have hin : meth.name = "<init>" := (name_of_methodNamed B.named B.method).1
  have hS : va_S (zA Γ) s.heap s.heap [] := va_S.rf
  have hB0 : Γ.2.2.1 ≤ s.heap.size := hW.1
  have hm : ∀ c, zV S c = true → zV S c = true := fun _ h => h
  have hl := lv_entry ([.ref q_z]) (n := 1) (Nat.le_of_ble_eq_true rfl)
  rw [lg_entry_eq]
  generalize (lg_sl ([.ref q_z]) ++ List.replicate (1 - (lg_sl ([.ref q_z])).length) Slot.unset).toArray = ls at hl ⊢
  have hl : lv_has ls 1 [(0, .ref q_z)] := hl
  generalize ([.ref q_z] : List Value).toArray = args at hts ⊢
  obtain ⟨H, hH0⟩ : ∃ H, H = s.heap := ⟨_, rfl⟩
  obtain ⟨locs, hlo0⟩ : ∃ L : List Loc, L = [] := ⟨_, rfl⟩
  have hS : va_S (zA Γ) s.heap H locs := by rw [hH0, hlo0]; exact hS
  have hW : Wd Γ lo0 S ((q_z, .inr (5, [.null, .null, .null, .int 0, .int 0])) :: X) H := by rw [hH0]; exact hW
  rw [← hH0, ← hlo0]
  obtain ⟨lo, hle⟩ : ∃ z : zId → Nat, z = lo0 := ⟨_, rfl⟩
  have hlo : ∀ d, zV S d = true → lo d = lo0 d := fun d _ => by rw [hle]
  have hW : Wd Γ lo S ((q_z, .inr (5, [.null, .null, .null, .int 0, .int 0])) :: X) H := by rw [hle]; exact hW
  have hl : lv_has ls 1 [(0, .ref q_z)] := by first | (rw [hle]; exact hl) | exact hl
  unfold fX4_init at hf
  refine lv_aload_n hx hb dX4_init_0 rfl (lv_at hl 0 rfl) ?_
  refine W.objInit hx hb hown (hts (.methodLink RX4 3 objectInit) (List.mem_of_getElem? (i := 1) rfl)) (hts (.instanceMethod objectInit) (List.mem_of_getElem? (i := 2) rfl)) (hts (.code objectInit ⟨#[0xb1]⟩ 1 none) (List.mem_of_getElem? (i := 3) rfl)) rfl (hl.1.trans hml.symm) rfl dX4_init_1 (Nat.le_of_ble_eq_true rfl) (Nat.le_of_ble_eq_true rfl) ?_
  refine W.eq (g2 := F0 m 4 ls []) rfl ?_
  refine lv_aload_n hx hb dX4_init_4 rfl (lv_at hl 0 rfl) ?_
  refine lv_bipush (v := (6)) hx hb dX4_init_5 (by decide) ?_
  refine n_newi (N' := 6) hx hb (hts (.arrayClass .int) (List.mem_of_getElem? (i := 4) rfl)) hKK.1 hW hS hB0 (by decide) (by decide) (by decide) (Nat.le_of_ble_eq_true rfl) (Nat.le_of_ble_eq_true rfl) dX4_init_7 (fun q1 H hW hS => ?_)
  refine x_putF hx hb hts ni_X4_init_X4 tyX4 tyX4_ok nmX4 hown hKK.1 hW hS 1 rfl rfl 0 (by decide) (hts (.fieldLink RX4 9 "TiltRoute$Plan" "sites" "[I") (List.mem_of_getElem? (i := 5) rfl)) rfl rfl hin rfl rfl rfl rfl (show 0 < 5 by decide) dX4_init_9 (fun H locs hW hS => ?_)
  have hW : Wd Γ lo S ((q1, .inl (Γ.2.1 0, 6, .inl (fun _ => 0))) :: (q_z, .inr (5, [.ref q1, .null, .null, .int 0, .int 0])) :: X) H := hW
  refine lv_aload_n hx hb dX4_init_12 rfl (lv_at hl 0 rfl) ?_
  refine lv_bipush (v := (6)) hx hb dX4_init_13 (by decide) ?_
  refine n_newi (N' := 6) hx hb (hts (.arrayClass .int) (List.mem_of_getElem? (i := 4) rfl)) hKK.1 hW hS hB0 (by decide) (by decide) (by decide) (Nat.le_of_ble_eq_true rfl) (Nat.le_of_ble_eq_true rfl) dX4_init_15 (fun q2 H hW hS => ?_)
  refine x_putF hx hb hts ni_X4_init_X4 tyX4 tyX4_ok nmX4 hown hKK.1 hW hS 2 rfl rfl 1 (by decide) (hts (.fieldLink RX4 15 "TiltRoute$Plan" "order" "[I") (List.mem_of_getElem? (i := 6) rfl)) rfl rfl hin rfl rfl rfl rfl (show 1 < 5 by decide) dX4_init_17 (fun H locs hW hS => ?_)
  have hW : Wd Γ lo S ((q2, .inl (Γ.2.1 0, 6, .inl (fun _ => 0))) :: (q1, .inl (Γ.2.1 0, 6, .inl (fun _ => 0))) :: (q_z, .inr (5, [.ref q1, .ref q2, .null, .int 0, .int 0])) :: X) H := hW
  refine lv_aload_n hx hb dX4_init_20 rfl (lv_at hl 0 rfl) ?_
  refine lv_bipush (v := (6)) hx hb dX4_init_21 (by decide) ?_
  refine n_newi (N' := 6) hx hb (hts (.arrayClass .int) (List.mem_of_getElem? (i := 4) rfl)) hKK.1 hW hS hB0 (by decide) (by decide) (by decide) (Nat.le_of_ble_eq_true rfl) (Nat.le_of_ble_eq_true rfl) dX4_init_23 (fun q3 H hW hS => ?_)
  refine x_putF hx hb hts ni_X4_init_X4 tyX4 tyX4_ok nmX4 hown hKK.1 hW hS 3 rfl rfl 2 (by decide) (hts (.fieldLink RX4 18 "TiltRoute$Plan" "best" "[I") (List.mem_of_getElem? (i := 7) rfl)) rfl rfl hin rfl rfl rfl rfl (show 2 < 5 by decide) dX4_init_25 (fun H locs hW hS => ?_)
  have hW : Wd Γ lo S ((q3, .inl (Γ.2.1 0, 6, .inl (fun _ => 0))) :: (q2, .inl (Γ.2.1 0, 6, .inl (fun _ => 0))) :: (q1, .inl (Γ.2.1 0, 6, .inl (fun _ => 0))) :: (q_z, .inr (5, [.ref q1, .ref q2, .ref q3, .int 0, .int 0])) :: X) H := hW
  refine lv_aload_n hx hb dX4_init_28 rfl (lv_at hl 0 rfl) ?_
  refine lv_iconst (v := (0)) hx hb dX4_init_29 (by decide) ?_
  refine x_put hx hb hts ni_X4_init_X4 tyX4 tyX4_ok nmX4 hown hKK.1 hW hS 3 rfl rfl 3 (by decide) (hts (.fieldLink RX4 21 "TiltRoute$Plan" "count" "I") (List.mem_of_getElem? (i := 8) rfl)) rfl rfl rfl rfl rfl (show 3 < 5 by decide) dX4_init_30 (fun H locs hW hS => ?_)
  have hW : Wd Γ lo S ((q3, .inl (Γ.2.1 0, 6, .inl (fun _ => 0))) :: (q2, .inl (Γ.2.1 0, 6, .inl (fun _ => 0))) :: (q1, .inl (Γ.2.1 0, 6, .inl (fun _ => 0))) :: (q_z, .inr (5, [.ref q1, .ref q2, .ref q3, .int (0 : Int32), .int 0])) :: X) H := hW
  refine lv_aload_n hx hb dX4_init_33 rfl (lv_at hl 0 rfl) ?_
  refine lv_iconst (v := (0)) hx hb dX4_init_34 (by decide) ?_
  refine x_put hx hb hts ni_X4_init_X4 tyX4 tyX4_ok nmX4 hown hKK.1 hW hS 3 rfl rfl 4 (by decide) (hts (.fieldLink RX4 25 "TiltRoute$Plan" "length" "I") (List.mem_of_getElem? (i := 9) rfl)) rfl rfl rfl rfl rfl (show 4 < 5 by decide) dX4_init_35 (fun H locs hW hS => ?_)
  have hW : Wd Γ lo S ((q3, .inl (Γ.2.1 0, 6, .inl (fun _ => 0))) :: (q2, .inl (Γ.2.1 0, 6, .inl (fun _ => 0))) :: (q1, .inl (Γ.2.1 0, 6, .inl (fun _ => 0))) :: (q_z, .inr (5, [.ref q1, .ref q2, .ref q3, .int (0 : Int32), .int (0 : Int32)])) :: X) H := hW
  obtain ⟨h4, hf⟩ := op_gd hf
  obtain ⟨S5, eS5, hf⟩ := op_st hf
  have hne : ∀ d, zV S d = true → d ≠ (19, 0, 0) := fun d hd e => by rw [e, h4] at hd; cases hd
  have hW := wd_name hW (19, 0, 0) h4 (fun _ => 0) (fun _ => 0) (fun _ => none) (fun _ => 0) (rfl) (fun d hd => hd.elim)
  rw [← eS5] at hW
  have h1 : ∀ d, zV S d = true → lu lo (19, 0, 0) q3 d = lo d := fun d hd => lu_n lo q3 (hne d hd)
  obtain ⟨lo1, hl1⟩ : ∃ z, z = lu lo (19, 0, 0) q3 := ⟨_, rfl⟩
  have hEq3 : lo1 (19, 0, 0) = q3 := by rw [hl1]; exact lu_s lo _ _
  rw [← hl1] at hW h1
  have hmo : ∀ c, zV S c = true → zV S5 c = true := fun c h => by rw [eS5]; exact zV_nwm _ _ _ _ _ _ c h
  rw [← hEq3] at hW
  have hlo : ∀ d, zV S d = true → lo1 d = lo0 d := fun d hd => (h1 d (hm d hd)).trans (hlo d hd)
  rename zId → Nat => lo
  have hm : ∀ c, zV S c = true → zV S5 c = true := fun c h => hmo c (hm c h)
  have wq3 : zV S5 (19, 0, 0) = true := by rw [eS5]; exact zV_nws _ _ _ _ _ _
  obtain ⟨h6, hf⟩ := op_gd hf
  obtain ⟨S7, eS7, hf⟩ := op_st hf
  have hne : ∀ d, zV S5 d = true → d ≠ (18, 0, 0) := fun d hd e => by rw [e, h6] at hd; cases hd
  have hW := wd_name hW (18, 0, 0) h6 (fun _ => 0) (fun _ => 0) (fun _ => none) (fun _ => 0) (rfl) (fun d hd => hd.elim)
  rw [← eS7] at hW
  have h1 : ∀ d, zV S5 d = true → lu lo (18, 0, 0) q2 d = lo d := fun d hd => lu_n lo q2 (hne d hd)
  obtain ⟨lo1, hl1⟩ : ∃ z, z = lu lo (18, 0, 0) q2 := ⟨_, rfl⟩
  have hEq2 : lo1 (18, 0, 0) = q2 := by rw [hl1]; exact lu_s lo _ _
  rw [← hl1] at hW h1
  have hmo : ∀ c, zV S5 c = true → zV S7 c = true := fun c h => by rw [eS7]; exact zV_nwm _ _ _ _ _ _ c h
  rw [← hEq2] at hW
  rw [← h1 (19, 0, 0) wq3] at hW
  have hlo : ∀ d, zV S d = true → lo1 d = lo0 d := fun d hd => (h1 d (hm d hd)).trans (hlo d hd)
  rename zId → Nat => lo
  have hm : ∀ c, zV S c = true → zV S7 c = true := fun c h => hmo c (hm c h)
  have wq3 : zV S7 (19, 0, 0) = true := hmo _ wq3
  have wq2 : zV S7 (18, 0, 0) = true := by rw [eS7]; exact zV_nws _ _ _ _ _ _
  obtain ⟨h8, hf⟩ := op_gd hf
  obtain ⟨S9, eS9, hf⟩ := op_st hf
  have hne : ∀ d, zV S7 d = true → d ≠ (17, 0, 0) := fun d hd e => by rw [e, h8] at hd; cases hd
  have hW := wd_name hW (17, 0, 0) h8 (fun _ => 0) (fun _ => 0) (fun _ => none) (fun _ => 0) (rfl) (fun d hd => hd.elim)
  rw [← eS9] at hW
  have h1 : ∀ d, zV S7 d = true → lu lo (17, 0, 0) q1 d = lo d := fun d hd => lu_n lo q1 (hne d hd)
  obtain ⟨lo1, hl1⟩ : ∃ z, z = lu lo (17, 0, 0) q1 := ⟨_, rfl⟩
  have hEq1 : lo1 (17, 0, 0) = q1 := by rw [hl1]; exact lu_s lo _ _
  rw [← hl1] at hW h1
  have hmo : ∀ c, zV S7 c = true → zV S9 c = true := fun c h => by rw [eS9]; exact zV_nwm _ _ _ _ _ _ c h
  rw [← hEq1] at hW
  rw [← h1 (18, 0, 0) wq2] at hW
  rw [← h1 (19, 0, 0) wq3] at hW
  have hlo : ∀ d, zV S d = true → lo1 d = lo0 d := fun d hd => (h1 d (hm d hd)).trans (hlo d hd)
  rename zId → Nat => lo
  have hm : ∀ c, zV S c = true → zV S9 c = true := fun c h => hmo c (hm c h)
  have wq2 : zV S9 (18, 0, 0) = true := hmo _ wq2
  have wq3 : zV S9 (19, 0, 0) = true := hmo _ wq3
  have wq1 : zV S9 (17, 0, 0) = true := by rw [eS9]; exact zV_nws _ _ _ _ _ _
  obtain ⟨h10, hf⟩ := op_gd hf
  obtain ⟨S11, eS11, hf⟩ := op_st hf
  have hne : ∀ d, zV S9 d = true → d ≠ (5, 0, 0) := fun d hd e => by rw [e, h10] at hd; cases hd
  have hW := wd_name hW (5, 0, 0) h10 (fun k => ([(0 : Int32), (0 : Int32), (0 : Int32), (0 : Int32), (0 : Int32)] : List Int32).getD k 0) (fun _ => 0) (fun _ => none) (fun _ => 0) (by rw [show lo (17, 0, 0) = lu lo (5, 0, 0) q_z (17, 0, 0) from (lu_n lo q_z (hne _ wq1)).symm]; rw [show lo (18, 0, 0) = lu lo (5, 0, 0) q_z (18, 0, 0) from (lu_n lo q_z (hne _ wq2)).symm]; rw [show lo (19, 0, 0) = lu lo (5, 0, 0) q_z (19, 0, 0) from (lu_n lo q_z (hne _ wq3)).symm]; rfl) (fun d hd => by rcases hd with rfl | rfl | rfl <;> assumption)
  rw [← eS11] at hW
  have h1 : ∀ d, zV S9 d = true → lu lo (5, 0, 0) q_z d = lo d := fun d hd => lu_n lo q_z (hne d hd)
  obtain ⟨lo1, hl1⟩ : ∃ z, z = lu lo (5, 0, 0) q_z := ⟨_, rfl⟩
  have hEq_z : lo1 (5, 0, 0) = q_z := by rw [hl1]; exact lu_s lo _ _
  rw [← hl1] at hW h1
  have hmo : ∀ c, zV S9 c = true → zV S11 c = true := fun c h => by rw [eS11]; exact zV_nwm _ _ _ _ _ _ c h
  have hlo : ∀ d, zV S d = true → lo1 d = lo0 d := fun d hd => (h1 d (hm d hd)).trans (hlo d hd)
  rename zId → Nat => lo
  have hm : ∀ c, zV S c = true → zV S11 c = true := fun c h => hmo c (hm c h)
  have wq3 : zV S11 (19, 0, 0) = true := hmo _ wq3
  have wq2 : zV S11 (18, 0, 0) = true := hmo _ wq2
  have wq1 : zV S11 (17, 0, 0) = true := hmo _ wq1
  have wq_z : zV S11 (5, 0, 0) = true := by rw [eS11]; exact zV_nws _ _ _ _ _ _
  have hf := Option.some.inj hf
  rw [← hf]
  exact n_vret hx hb hr hlocks (Nat.le_of_ble_eq_true rfl) (Nat.le_of_ble_eq_true rfl) rfl hW hS hlo hm ⟨hEq_z, wq_z⟩ dX4_init_38

