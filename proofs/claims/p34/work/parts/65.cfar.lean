abbrev rmL_far : Room := { frames := 0, cells := 0, slots := 0, locals := 0 }
set_option maxHeartbeats 4000000 in
set_option maxRecDepth 100000 in
theorem cL_far_ok (l : Launch) (hl0 : l.stackTraces = false) (Γ : zG)  (Pw : Heap → Prop) {i_1 : Int32} {i_2 : Int32} {y : Int32} (hf : fL_far i_1 i_2 = some y) : Met l yL_far wsL_far rmL_far (GP Γ Pw [.int i_1, .int i_2]) (GQ Γ Pw (some (.int y))) 0 0 (zA Γ) := by
  refine Met.ofW (cc := cL_far) (maxL := 2) (ret := (some .int)) (by decide) rfl ?_
  intro p e s m args below meth c s₁ B hml hv
  obtain ⟨rfl, hW, hKK, hKX, hKY, hKN⟩ := hv
  have hx := B.exec
  have hb := B.bytes
  have hr := B.returns
  have hts := atoms_spec (ws := wsL_far) B.pre
  have hown : s.vm.findClass RL = some m.cls := findClass_of_methodNamed B.named
  have hlocks := B.notSynchronized
  have hS : va_S (zA Γ) s.heap s.heap [] := va_S.rf
  have hl := lv_entry ([.int i_1, .int i_2]) (n := 2) (Nat.le_of_ble_eq_true rfl)
  rw [lg_entry_eq]
  generalize (lg_sl ([.int i_1, .int i_2]) ++ List.replicate (2 - (lg_sl ([.int i_1, .int i_2])).length) Slot.unset).toArray = ls at hl ⊢
  have hl : lv_has ls 2 [(0, .int i_1), (1, .int i_2)] := hl
  generalize ([.int i_1, .int i_2] : List Value).toArray = args at hts ⊢
  obtain ⟨H, hH0⟩ : ∃ H, H = s.heap := ⟨_, rfl⟩
  obtain ⟨locs, hlo0⟩ : ∃ L : List Loc, L = [] := ⟨_, rfl⟩
  have hS : va_S (zA Γ) s.heap H locs := by rw [hH0, hlo0]; exact hS
  have hW : Pw H := by rw [hH0]; exact hW
  rw [← hH0, ← hlo0]
  unfold fL_far at hf
  refine lv_iload_n hx hb dL_far_0 rfl (lv_at hl 0 rfl) ?_
  refine lv_iload_n hx hb dL_far_1 rfl (lv_at hl 1 rfl) ?_
  refine lv_icmp_ge (tgt := 11) hx hb dL_far_2 (by decide) (fun k2 => ?_) (fun k2 => ?_)
  · have hf := (op_if hf).1 k2
    refine lv_iload_n hx hb dL_far_11 rfl (lv_at hl 0 rfl) ?_
    refine lv_iload_n hx hb dL_far_12 rfl (lv_at hl 1 rfl) ?_
    refine lv_isub hx hb dL_far_13 ?_
    have hf := Option.some.inj hf
    rw [← hf]
    exact g_iret hx hb hr hlocks (by omega) (by omega) rfl hW hS dL_far_14
  have hf := (op_if hf).2 k2
  refine lv_iload_n hx hb dL_far_5 rfl (lv_at hl 1 rfl) ?_
  refine lv_iload_n hx hb dL_far_6 rfl (lv_at hl 0 rfl) ?_
  refine lv_isub hx hb dL_far_7 ?_
  refine lv_goto (tgt := 14) hx hb dL_far_8 (by decide) ?_
  have hf := Option.some.inj hf
  rw [← hf]
  exact g_iret hx hb hr hlocks (by omega) (by omega) rfl hW hS dL_far_14
abbrev rmL_act : Room := { frames := 10, cells := 9, slots := 2614, locals := 373 }
set_option maxHeartbeats 4000000 in
set_option maxRecDepth 100000 in
theorem cL_act_ok (l : Launch) (hl0 : l.stackTraces = false) (Γ : zG) (a_1 : Nat) (qn : Nat) (M : zMs) (X : va_W) {I : Nat → Int32} {i_3 : Int32} {y : (Int32 × zMs)} (hf : fL_act M I i_3 = some y) : Met l yL_act wsL_act rmL_act (GP Γ (TW Γ a_1 M (nC Γ qn I :: X)) [.ref a_1, .ref qn, .int i_3]) (GQ Γ (TW Γ a_1 y.2 (nC Γ qn I :: X)) (some (.int y.1))) 9 2614 (zA Γ) := by
  refine Met.ofW (cc := cL_act) (maxL := 7) (ret := (some .int)) (by decide) rfl ?_
  intro p e s m args below meth c s₁ B hml hv
  obtain ⟨rfl, hW, hKK, hKX, hKY, hKN⟩ := hv
  have hx := B.exec
  have hb := B.bytes
  have hr := B.returns
  have hts := atoms_spec (ws := wsL_act) B.pre
  have hown : s.vm.findClass RL = some m.cls := findClass_of_methodNamed B.named
  have hlocks := B.notSynchronized
  have hS : va_S (zA Γ) s.heap s.heap [] := va_S.rf
  have hl := lv_entry ([.ref a_1, .ref qn, .int i_3]) (n := 7) (Nat.le_of_ble_eq_true rfl)
  rw [lg_entry_eq]
  generalize (lg_sl ([.ref a_1, .ref qn, .int i_3]) ++ List.replicate (7 - (lg_sl ([.ref a_1, .ref qn, .int i_3])).length) Slot.unset).toArray = ls at hl ⊢
  have hl : lv_has ls 7 [(0, .ref a_1), (1, .ref qn), (2, .int i_3)] := hl
  generalize ([.ref a_1, .ref qn, .int i_3] : List Value).toArray = args at hts ⊢
  obtain ⟨H, hH0⟩ : ∃ H, H = s.heap := ⟨_, rfl⟩
  obtain ⟨locs, hlo0⟩ : ∃ L : List Loc, L = [] := ⟨_, rfl⟩
  have hS : va_S (zA Γ) s.heap H locs := by rw [hH0, hlo0]; exact hS
  have hW : (TW Γ a_1 M (nC Γ qn I :: X)) H := by rw [hH0]; exact hW
  rw [← hH0, ← hlo0]
  unfold fL_act at hf
  refine lv_iload_n hx hb dL_act_0 rfl (lv_at hl 2 rfl) ?_
  refine lv_bipush (v := (32)) hx hb dL_act_1 (by decide) ?_
  refine lv_idiv hx hb dL_act_3 (by decide) ?_
  obtain ⟨x1, ex1, hf⟩ := op_st hf
  refine z_istn (lv' := [(3, .int x1), (0, .ref a_1), (1, .ref qn), (2, .int i_3)]) ex1 hx hb dL_act_4 rfl hl (by decide) rfl (fun ls hl => ?_)
  refine lv_aload_n hx hb dL_act_5 rfl (lv_at hl 1 rfl) ?_
  obtain ⟨fs_, hr_⟩ := (tw_r hW)
  refine g_callV (As := []) (rest := []) ⟨hx, hb, hml, hown, hts⟩ (aX_tables l Γ a_1 M (nC Γ qn I :: X) ) (cwV 0 hts gL_act_X9_tables rfl rfl rfl (by decide +kernel) ⟨Nat.le_of_ble_eq_true rfl, Nat.le_of_ble_eq_true rfl⟩) hr_ rfl hKK hKX hKY hKN hW hS rfl hl.1 rfl (Nat.le_of_ble_eq_true rfl) dL_act_6 ⟨(by show _ + _ ≤ 9; omega), (by show _ + _ ≤ 2614; omega)⟩ (fun H locs hW hS => ?_)
  obtain ⟨j3, ej3, hf⟩ := op_st hf
  have hj3 : ∀ (y2 : Int32) (H : Heap) (locs : List Loc) (ls : Array Slot), lv_has ls 7 [(3, .int x1), (0, .ref a_1), (1, .ref qn), (2, .int i_3)] → (TW Γ a_1 M (nC Γ qn I :: X)) H → va_S (zA Γ) s.heap H locs → j3 y2 = some y → W p l e (headSpec wsL_act rmL_act).room s m args below meth c H locs 0 0 (MQ below (GQ Γ (TW Γ a_1 y.2 (nC Γ qn I :: X)) (some (.int y.1))) args s 9 2614 (zA Γ)) (F0 m 22 ls [.int y2]) := by
    intro y2 H locs ls hl hW hS hf
    rw [ej3] at hf
    obtain ⟨x4, ex4, hf⟩ := op_st hf
    refine z_ist (lv' := [(4, .int x4), (3, .int x1), (0, .ref a_1), (1, .ref qn), (2, .int i_3)]) ex4 hx hb dL_act_22 hl (by decide) rfl (fun ls hl => ?_)
    refine lv_aload_n hx hb dL_act_24 rfl (lv_at hl 2 rfl) ?_
    obtain ⟨fs_, hr_⟩ := (tw_r hW)
    refine g_callV (As := []) (rest := []) ⟨hx, hb, hml, hown, hts⟩ (aX_tables l Γ a_1 M (nC Γ qn I :: X) ) (cwV 0 hts gL_act_X9_tables rfl rfl rfl (by decide +kernel) ⟨Nat.le_of_ble_eq_true rfl, Nat.le_of_ble_eq_true rfl⟩) hr_ rfl hKK hKX hKY hKN hW hS rfl hl.1 rfl (Nat.le_of_ble_eq_true rfl) dL_act_25 ⟨(by show _ + _ ≤ 9; omega), (by show _ + _ ≤ 2614; omega)⟩ (fun H locs hW hS => ?_)
    obtain ⟨j6, ej6, hf⟩ := op_st hf
    have hj6 : ∀ (y5 : Int32) (H : Heap) (locs : List Loc) (ls : Array Slot), lv_has ls 7 [(4, .int x4), (3, .int x1), (0, .ref a_1), (2, .int i_3)] → (TW Γ a_1 M (nC Γ qn I :: X)) H → va_S (zA Γ) s.heap H locs → j6 y5 = some y → W p l e (headSpec wsL_act rmL_act).room s m args below meth c H locs 0 0 (MQ below (GQ Γ (TW Γ a_1 y.2 (nC Γ qn I :: X)) (some (.int y.1))) args s 9 2614 (zA Γ)) (F0 m 39 ls [.int y5]) := by
      intro y5 H locs ls hl hW hS hf
      rw [ej6] at hf
      obtain ⟨x7, ex7, hf⟩ := op_st hf
      refine z_ist (lv' := [(5, .int x7), (4, .int x4), (3, .int x1), (0, .ref a_1), (2, .int i_3)]) ex7 hx hb dL_act_39 hl (by decide) rfl (fun ls hl => ?_)
      refine lv_iload hx hb dL_act_41 (lv_at hl 0 rfl) ?_
      obtain ⟨j9, ej9, hf⟩ := op_st hf
      have hj9 : ∀ (y8 : Int32) (H : Heap) (locs : List Loc) (ls : Array Slot), lv_has ls 7 [(5, .int x7), (4, .int x4), (3, .int x1), (0, .ref a_1), (2, .int i_3)] → (TW Γ a_1 M (nC Γ qn I :: X)) H → va_S (zA Γ) s.heap H locs → j9 y8 = some y → W p l e (headSpec wsL_act rmL_act).room s m args below meth c H locs 0 0 (MQ below (GQ Γ (TW Γ a_1 y.2 (nC Γ qn I :: X)) (some (.int y.1))) args s 9 2614 (zA Γ)) (F0 m 57 ls [.int y8]) := by
        intro y8 H locs ls hl hW hS hf
        rw [ej9] at hf
        obtain ⟨x10, ex10, hf⟩ := op_st hf
        refine z_ist (lv' := [(6, .int x10), (5, .int x7), (4, .int x4), (3, .int x1), (0, .ref a_1), (2, .int i_3)]) ex10 hx hb dL_act_57 hl (by decide) rfl (fun ls hl => ?_)
        refine lv_iload_n hx hb dL_act_59 rfl (lv_at hl 5 rfl) ?_
        refine lv_bipush (v := (32)) hx hb dL_act_60 (by decide) ?_
        refine lv_irem hx hb dL_act_62 (by decide) ?_
        refine W.widen (k := 0) (n := 0) (by omega) (by omega) ?_
        by_cases kd_ : (i_3 - i_3 / (32 : Int32) * (32 : Int32)) < 0 ∨ (20 : Int32) < (i_3 - i_3 / (32 : Int32) * (32 : Int32))
        · have hf := (op_if hf).1 kd_
          refine lv_tableOut (tgt := 393) hx hb dL_act_63 (tb_out kd_) (by decide) ?_
          refine lv_aload_n hx hb dL_act_393 rfl (lv_at hl 4 rfl) ?_
          refine lv_iload hx hb dL_act_394 (lv_at hl 2 rfl) ?_
          refine lv_iload_n hx hb dL_act_396 rfl (lv_at hl 3 rfl) ?_
          refine lv_bipush (v := (8)) hx hb dL_act_397 (by decide) ?_
          refine lv_idiv hx hb dL_act_399 (by decide) ?_
          refine lv_sipush (v := (160)) hx hb dL_act_400 (by decide) ?_
          refine lv_irem hx hb dL_act_403 (by decide) ?_
          refine lv_iload_n hx hb dL_act_404 rfl (lv_at hl 3 rfl) ?_
          refine lv_sipush (v := (1280)) hx hb dL_act_405 (by decide) ?_
          refine lv_idiv hx hb dL_act_408 (by decide) ?_
          refine lv_bipush (v := (61)) hx hb dL_act_409 (by decide) ?_
          refine lv_irem hx hb dL_act_411 (by decide) ?_
          refine lv_bipush (v := (30)) hx hb dL_act_412 (by decide) ?_
          refine lv_isub hx hb dL_act_414 ?_
          refine lv_iload_n hx hb dL_act_415 rfl (lv_at hl 3 rfl) ?_
          refine lv_bipush (v := (9)) hx hb dL_act_416 (by decide) ?_
          refine lv_idiv hx hb dL_act_418 (by decide) ?_
          refine lv_bipush (v := (61)) hx hb dL_act_419 (by decide) ?_
          refine lv_irem hx hb dL_act_421 (by decide) ?_
          refine lv_bipush (v := (30)) hx hb dL_act_422 (by decide) ?_
          refine lv_isub hx hb dL_act_424 ?_
          obtain ⟨M11, eM11, hf⟩ := op_st hf
          refine g_callW (As := [.ref a_1, .int x4, .int ((x1 / (8 : Int32)) - (x1 / (8 : Int32)) / (160 : Int32) * (160 : Int32)), .int (((x1 / (1280 : Int32)) - (x1 / (1280 : Int32)) / (61 : Int32) * (61 : Int32)) - (30 : Int32)), .int (((x1 / (9 : Int32)) - (x1 / (9 : Int32)) / (61 : Int32) * (61 : Int32)) - (30 : Int32))]) (rest := []) ⟨hx, hb, hml, hown, hts⟩ (aL_shoot l hl0 Γ a_1 M (nC Γ qn I :: X) x4 ((x1 / (8 : Int32)) - (x1 / (8 : Int32)) / (160 : Int32) * (160 : Int32)) (((x1 / (1280 : Int32)) - (x1 / (1280 : Int32)) / (61 : Int32) * (61 : Int32)) - (30 : Int32)) (((x1 / (9 : Int32)) - (x1 / (9 : Int32)) / (61 : Int32) * (61 : Int32)) - (30 : Int32))) (vx_cwSW 5 hts gL_act_L_shoot rfl rfl rfl (by decide +kernel) ⟨Nat.le_of_ble_eq_true rfl, Nat.le_of_ble_eq_true rfl⟩) hKK hKX hKY hKN hW hS rfl hl.1 rfl (Nat.le_of_ble_eq_true rfl) dL_act_425 ⟨(by show _ + _ ≤ 9; omega), (by show _ + _ ≤ 2614; omega)⟩ (fun H locs hW hS => ?_)
          rw [← eM11] at hW
          have hf := Option.some.inj hf
          rw [← hf]
          exact g_iret hx hb hr hlocks (by omega) (by omega) rfl hW hS dL_act_428
        have hf := (op_if hf).2 kd_
        by_cases kg_ : (i_3 - i_3 / (32 : Int32) * (32 : Int32)) = (0 : Int32)
        · have hf := (op_if hf).1 kg_
          suffices hg_ : W p l e (headSpec wsL_act rmL_act).room s m args below meth c H locs 0 0 (MQ below (GQ Γ (TW Γ a_1 y.2 (nC Γ qn I :: X)) (some (.int y.1))) args s 9 2614 (zA Γ)) (F0 m 160 ls []) by
            have kz_ := kg_
            exact lv_tableIn (tgt := 160) (off := 97) hx hb dL_act_63 (by rw [kz_]; decide) (by rw [kz_]; decide) (by rw [kz_]; rfl) (by decide) hg_
          refine lv_aload_n hx hb dL_act_160 rfl (lv_at hl 4 rfl) ?_
          refine lv_iload_n hx hb dL_act_161 rfl (lv_at hl 3 rfl) ?_
          refine lv_bipush (v := (101)) hx hb dL_act_162 (by decide) ?_
          refine lv_irem hx hb dL_act_164 (by decide) ?_
          refine lv_iconst (v := (1)) hx hb dL_act_165 (by decide) ?_
          refine lv_iload_n hx hb dL_act_166 rfl (lv_at hl 3 rfl) ?_
          refine lv_bipush (v := (101)) hx hb dL_act_167 (by decide) ?_
          refine lv_idiv hx hb dL_act_169 (by decide) ?_
          refine lv_bipush (v := (9)) hx hb dL_act_170 (by decide) ?_
          refine lv_irem hx hb dL_act_172 (by decide) ?_
          refine lv_iadd hx hb dL_act_173 ?_
          obtain ⟨M12, eM12, hf⟩ := op_st hf
          refine g_callW (As := [.ref a_1, .int (x1 - x1 / (101 : Int32) * (101 : Int32)), .int ((1 : Int32) + ((x1 / (101 : Int32)) - (x1 / (101 : Int32)) / (9 : Int32) * (9 : Int32)))]) (rest := []) ⟨hx, hb, hml, hown, hts⟩ (aL_tables l hl0 Γ a_1 M (nC Γ qn I :: X) (x1 - x1 / (101 : Int32) * (101 : Int32)) ((1 : Int32) + ((x1 / (101 : Int32)) - (x1 / (101 : Int32)) / (9 : Int32) * (9 : Int32)))) (vx_cwSW 3 hts gL_act_L_tables rfl rfl rfl (by decide +kernel) ⟨Nat.le_of_ble_eq_true rfl, Nat.le_of_ble_eq_true rfl⟩) hKK hKX hKY hKN hW hS rfl hl.1 rfl (Nat.le_of_ble_eq_true rfl) dL_act_174 ⟨(by show _ + _ ≤ 9; omega), (by show _ + _ ≤ 2614; omega)⟩ (fun H locs hW hS => ?_)
          rw [← eM12] at hW
          have hf := Option.some.inj hf
          rw [← hf]
          exact g_iret hx hb hr hlocks (by omega) (by omega) rfl hW hS dL_act_177
        have hf := (op_if hf).2 kg_
        by_cases kg_ : (i_3 - i_3 / (32 : Int32) * (32 : Int32)) = (1 : Int32) ∨ (i_3 - i_3 / (32 : Int32) * (32 : Int32)) = (2 : Int32) ∨ (i_3 - i_3 / (32 : Int32) * (32 : Int32)) = (3 : Int32) ∨ (i_3 - i_3 / (32 : Int32) * (32 : Int32)) = (4 : Int32)
        · have hf := (op_if hf).1 kg_
          suffices hg_ : W p l e (headSpec wsL_act rmL_act).room s m args below meth c H locs 0 0 (MQ below (GQ Γ (TW Γ a_1 y.2 (nC Γ qn I :: X)) (some (.int y.1))) args s 9 2614 (zA Γ)) (F0 m 178 ls []) by
            rcases kg_ with kz_ | kz_ | kz_ | kz_
            · exact lv_tableIn (tgt := 178) (off := 115) hx hb dL_act_63 (by rw [kz_]; decide) (by rw [kz_]; decide) (by rw [kz_]; rfl) (by decide) hg_
            · exact lv_tableIn (tgt := 178) (off := 115) hx hb dL_act_63 (by rw [kz_]; decide) (by rw [kz_]; decide) (by rw [kz_]; rfl) (by decide) hg_
            · exact lv_tableIn (tgt := 178) (off := 115) hx hb dL_act_63 (by rw [kz_]; decide) (by rw [kz_]; decide) (by rw [kz_]; rfl) (by decide) hg_
            · exact lv_tableIn (tgt := 178) (off := 115) hx hb dL_act_63 (by rw [kz_]; decide) (by rw [kz_]; decide) (by rw [kz_]; rfl) (by decide) hg_
          refine lv_aload_n hx hb dL_act_178 rfl (lv_at hl 4 rfl) ?_
          refine lv_iload hx hb dL_act_179 (lv_at hl 2 rfl) ?_
          refine lv_iload_n hx hb dL_act_181 rfl (lv_at hl 3 rfl) ?_
          refine lv_bipush (v := (8)) hx hb dL_act_182 (by decide) ?_
          refine lv_idiv hx hb dL_act_184 (by decide) ?_
          refine lv_sipush (v := (160)) hx hb dL_act_185 (by decide) ?_
          refine lv_irem hx hb dL_act_188 (by decide) ?_
          refine lv_iload_n hx hb dL_act_189 rfl (lv_at hl 3 rfl) ?_
          refine lv_sipush (v := (1280)) hx hb dL_act_190 (by decide) ?_
          refine lv_idiv hx hb dL_act_193 (by decide) ?_
          refine lv_sipush (v := (240)) hx hb dL_act_194 (by decide) ?_
          refine lv_irem hx hb dL_act_197 (by decide) ?_
          refine lv_bipush (v := (100)) hx hb dL_act_198 (by decide) ?_
          refine lv_iconst (v := (1)) hx hb dL_act_200 (by decide) ?_
          refine lv_iload_n hx hb dL_act_201 rfl (lv_at hl 3 rfl) ?_
          refine lv_bipush (v := (7)) hx hb dL_act_202 (by decide) ?_
          refine lv_idiv hx hb dL_act_204 (by decide) ?_
          refine lv_bipush (v := (60)) hx hb dL_act_205 (by decide) ?_
          refine lv_irem hx hb dL_act_207 (by decide) ?_
          refine lv_iadd hx hb dL_act_208 ?_
          refine lv_imul hx hb dL_act_209 ?_
          refine lv_iconst (v := (1)) hx hb dL_act_210 (by decide) ?_
          refine lv_iadd hx hb dL_act_211 ?_
          refine lv_iload_n hx hb dL_act_212 rfl (lv_at hl 3 rfl) ?_
          refine lv_bipush (v := (11)) hx hb dL_act_213 (by decide) ?_
          refine lv_idiv hx hb dL_act_215 (by decide) ?_
          refine lv_bipush (v := (60)) hx hb dL_act_216 (by decide) ?_
          refine lv_irem hx hb dL_act_218 (by decide) ?_
          refine lv_iadd hx hb dL_act_219 ?_
          refine lv_iload_n hx hb dL_act_220 rfl (lv_at hl 3 rfl) ?_
          refine lv_bipush (v := (13)) hx hb dL_act_221 (by decide) ?_
          refine lv_idiv hx hb dL_act_223 (by decide) ?_
          refine lv_bipush (v := (21)) hx hb dL_act_224 (by decide) ?_
          refine lv_irem hx hb dL_act_226 (by decide) ?_
          obtain ⟨M13, eM13, hf⟩ := op_st hf
          refine g_callW (As := [.ref a_1, .int x4, .int ((x1 / (8 : Int32)) - (x1 / (8 : Int32)) / (160 : Int32) * (160 : Int32)), .int ((x1 / (1280 : Int32)) - (x1 / (1280 : Int32)) / (240 : Int32) * (240 : Int32)), .int ((((100 : Int32) * ((1 : Int32) + ((x1 / (7 : Int32)) - (x1 / (7 : Int32)) / (60 : Int32) * (60 : Int32)))) + (1 : Int32)) + ((x1 / (11 : Int32)) - (x1 / (11 : Int32)) / (60 : Int32) * (60 : Int32))), .int ((x1 / (13 : Int32)) - (x1 / (13 : Int32)) / (21 : Int32) * (21 : Int32))]) (rest := []) ⟨hx, hb, hml, hown, hts⟩ (aL_bumpers l hl0 Γ a_1 M (nC Γ qn I :: X) x4 ((x1 / (8 : Int32)) - (x1 / (8 : Int32)) / (160 : Int32) * (160 : Int32)) ((x1 / (1280 : Int32)) - (x1 / (1280 : Int32)) / (240 : Int32) * (240 : Int32)) ((((100 : Int32) * ((1 : Int32) + ((x1 / (7 : Int32)) - (x1 / (7 : Int32)) / (60 : Int32) * (60 : Int32)))) + (1 : Int32)) + ((x1 / (11 : Int32)) - (x1 / (11 : Int32)) / (60 : Int32) * (60 : Int32))) ((x1 / (13 : Int32)) - (x1 / (13 : Int32)) / (21 : Int32) * (21 : Int32))) (vx_cwSW 6 hts gL_act_L_bumpers rfl rfl rfl (by decide +kernel) ⟨Nat.le_of_ble_eq_true rfl, Nat.le_of_ble_eq_true rfl⟩) hKK hKX hKY hKN hW hS rfl hl.1 rfl (Nat.le_of_ble_eq_true rfl) dL_act_227 ⟨(by show _ + _ ≤ 9; omega), (by show _ + _ ≤ 2614; omega)⟩ (fun H locs hW hS => ?_)
          rw [← eM13] at hW
          have hf := Option.some.inj hf
          rw [← hf]
          exact g_iret hx hb hr hlocks (by omega) (by omega) rfl hW hS dL_act_230
        have hf := (op_if hf).2 kg_
        by_cases kg_ : (i_3 - i_3 / (32 : Int32) * (32 : Int32)) = (5 : Int32) ∨ (i_3 - i_3 / (32 : Int32) * (32 : Int32)) = (6 : Int32)
        · have hf := (op_if hf).1 kg_
          suffices hg_ : W p l e (headSpec wsL_act rmL_act).room s m args below meth c H locs 0 0 (MQ below (GQ Γ (TW Γ a_1 y.2 (nC Γ qn I :: X)) (some (.int y.1))) args s 9 2614 (zA Γ)) (F0 m 231 ls []) by
            rcases kg_ with kz_ | kz_
            · exact lv_tableIn (tgt := 231) (off := 168) hx hb dL_act_63 (by rw [kz_]; decide) (by rw [kz_]; decide) (by rw [kz_]; rfl) (by decide) hg_
            · exact lv_tableIn (tgt := 231) (off := 168) hx hb dL_act_63 (by rw [kz_]; decide) (by rw [kz_]; decide) (by rw [kz_]; rfl) (by decide) hg_
          refine lv_aload_n hx hb dL_act_231 rfl (lv_at hl 4 rfl) ?_
          refine lv_iload hx hb dL_act_232 (lv_at hl 2 rfl) ?_
          refine lv_iload hx hb dL_act_234 (lv_at hl 0 rfl) ?_
          refine lv_iload_n hx hb dL_act_236 rfl (lv_at hl 3 rfl) ?_
          refine lv_bipush (v := (16)) hx hb dL_act_237 (by decide) ?_
          refine lv_idiv hx hb dL_act_239 (by decide) ?_
          refine lv_sipush (v := (1001)) hx hb dL_act_240 (by decide) ?_
          refine lv_irem hx hb dL_act_243 (by decide) ?_
          obtain ⟨M14, eM14, hf⟩ := op_st hf
          refine g_callW (As := [.ref a_1, .int x4, .int x10, .int ((x1 / (16 : Int32)) - (x1 / (16 : Int32)) / (1001 : Int32) * (1001 : Int32))]) (rest := []) ⟨hx, hb, hml, hown, hts⟩ (aL_points l hl0 Γ a_1 M (nC Γ qn I :: X) x4 x10 ((x1 / (16 : Int32)) - (x1 / (16 : Int32)) / (1001 : Int32) * (1001 : Int32))) (vx_cwSW 4 hts gL_act_L_points rfl rfl rfl (by decide +kernel) ⟨Nat.le_of_ble_eq_true rfl, Nat.le_of_ble_eq_true rfl⟩) hKK hKX hKY hKN hW hS rfl hl.1 rfl (Nat.le_of_ble_eq_true rfl) dL_act_244 ⟨(by show _ + _ ≤ 9; omega), (by show _ + _ ≤ 2614; omega)⟩ (fun H locs hW hS => ?_)
          rw [← eM14] at hW
          have hf := Option.some.inj hf
          rw [← hf]
          exact g_iret hx hb hr hlocks (by omega) (by omega) rfl hW hS dL_act_247
        have hf := (op_if hf).2 kg_
        by_cases kg_ : (i_3 - i_3 / (32 : Int32) * (32 : Int32)) = (7 : Int32) ∨ (i_3 - i_3 / (32 : Int32) * (32 : Int32)) = (8 : Int32)
        · have hf := (op_if hf).1 kg_
          suffices hg_ : W p l e (headSpec wsL_act rmL_act).room s m args below meth c H locs 0 0 (MQ below (GQ Γ (TW Γ a_1 y.2 (nC Γ qn I :: X)) (some (.int y.1))) args s 9 2614 (zA Γ)) (F0 m 248 ls []) by
            rcases kg_ with kz_ | kz_
            · exact lv_tableIn (tgt := 248) (off := 185) hx hb dL_act_63 (by rw [kz_]; decide) (by rw [kz_]; decide) (by rw [kz_]; rfl) (by decide) hg_
            · exact lv_tableIn (tgt := 248) (off := 185) hx hb dL_act_63 (by rw [kz_]; decide) (by rw [kz_]; decide) (by rw [kz_]; rfl) (by decide) hg_
          refine lv_aload_n hx hb dL_act_248 rfl (lv_at hl 4 rfl) ?_
          refine lv_iload hx hb dL_act_249 (lv_at hl 2 rfl) ?_
          refine lv_iload_n hx hb dL_act_251 rfl (lv_at hl 3 rfl) ?_
          refine lv_bipush (v := (8)) hx hb dL_act_252 (by decide) ?_
          refine lv_idiv hx hb dL_act_254 (by decide) ?_
          refine lv_iconst (v := (4)) hx hb dL_act_255 (by decide) ?_
          refine lv_irem hx hb dL_act_256 (by decide) ?_
          refine lv_iload_n hx hb dL_act_257 rfl (lv_at hl 3 rfl) ?_
          refine lv_iconst (v := (3)) hx hb dL_act_258 (by decide) ?_
          refine lv_idiv hx hb dL_act_259 (by decide) ?_
          refine lv_iconst (v := (5)) hx hb dL_act_260 (by decide) ?_
          refine lv_irem hx hb dL_act_261 (by decide) ?_
          obtain ⟨j16, ej16, hf⟩ := op_st hf
          have hj16 : ∀ (y15 : Int32) (H : Heap) (locs : List Loc) (ls : Array Slot), lv_has ls 7 [(3, .int x1)] → (TW Γ a_1 M (nC Γ qn I :: X)) H → va_S (zA Γ) s.heap H locs → j16 y15 = some y → W p l e (headSpec wsL_act rmL_act).room s m args below meth c H locs 0 0 (MQ below (GQ Γ (TW Γ a_1 y.2 (nC Γ qn I :: X)) (some (.int y.1))) args s 9 2614 (zA Γ)) (F0 m 291 ls [.int y15, .int ((x1 / (8 : Int32)) - (x1 / (8 : Int32)) / (4 : Int32) * (4 : Int32)), .int x4, .ref a_1]) := by
            intro y15 H locs ls hl hW hS hf
            rw [ej16] at hf
            refine lv_bipush (v := (100)) hx hb dL_act_291 (by decide) ?_
            refine lv_iconst (v := (1)) hx hb dL_act_293 (by decide) ?_
            refine lv_iload_n hx hb dL_act_294 rfl (lv_at hl 0 rfl) ?_
            refine lv_sipush (v := (256)) hx hb dL_act_295 (by decide) ?_
            refine lv_idiv hx hb dL_act_298 (by decide) ?_
            refine lv_bipush (v := (8)) hx hb dL_act_299 (by decide) ?_
            refine lv_irem hx hb dL_act_301 (by decide) ?_
            refine lv_iadd hx hb dL_act_302 ?_
            refine lv_imul hx hb dL_act_303 ?_
            refine lv_iconst (v := (2)) hx hb dL_act_304 (by decide) ?_
            refine lv_iadd hx hb dL_act_305 ?_
            refine lv_iload_n hx hb dL_act_306 rfl (lv_at hl 0 rfl) ?_
            refine lv_iconst (v := (5)) hx hb dL_act_307 (by decide) ?_
            refine lv_idiv hx hb dL_act_308 (by decide) ?_
            refine lv_bipush (v := (8)) hx hb dL_act_309 (by decide) ?_
            refine lv_irem hx hb dL_act_311 (by decide) ?_
            refine lv_iadd hx hb dL_act_312 ?_
            refine lv_iload_n hx hb dL_act_313 rfl (lv_at hl 0 rfl) ?_
            refine lv_bipush (v := (9)) hx hb dL_act_314 (by decide) ?_
            refine lv_idiv hx hb dL_act_316 (by decide) ?_
            refine lv_sipush (v := (5001)) hx hb dL_act_317 (by decide) ?_
            refine lv_irem hx hb dL_act_320 (by decide) ?_
            obtain ⟨M17, eM17, hf⟩ := op_st hf
            refine g_callW (As := [.ref a_1, .int x4, .int ((x1 / (8 : Int32)) - (x1 / (8 : Int32)) / (4 : Int32) * (4 : Int32)), .int y15, .int ((((100 : Int32) * ((1 : Int32) + ((x1 / (256 : Int32)) - (x1 / (256 : Int32)) / (8 : Int32) * (8 : Int32)))) + (2 : Int32)) + ((x1 / (5 : Int32)) - (x1 / (5 : Int32)) / (8 : Int32) * (8 : Int32))), .int ((x1 / (9 : Int32)) - (x1 / (9 : Int32)) / (5001 : Int32) * (5001 : Int32))]) (rest := []) ⟨hx, hb, hml, hown, hts⟩ (aL_modes l hl0 Γ a_1 M (nC Γ qn I :: X) x4 ((x1 / (8 : Int32)) - (x1 / (8 : Int32)) / (4 : Int32) * (4 : Int32)) y15 ((((100 : Int32) * ((1 : Int32) + ((x1 / (256 : Int32)) - (x1 / (256 : Int32)) / (8 : Int32) * (8 : Int32)))) + (2 : Int32)) + ((x1 / (5 : Int32)) - (x1 / (5 : Int32)) / (8 : Int32) * (8 : Int32))) ((x1 / (9 : Int32)) - (x1 / (9 : Int32)) / (5001 : Int32) * (5001 : Int32))) (vx_cwSW 6 hts gL_act_L_modes rfl rfl rfl (by decide +kernel) ⟨Nat.le_of_ble_eq_true rfl, Nat.le_of_ble_eq_true rfl⟩) hKK hKX hKY hKN hW hS rfl hl.1 rfl (Nat.le_of_ble_eq_true rfl) dL_act_321 ⟨(by show _ + _ ≤ 9; omega), (by show _ + _ ≤ 2614; omega)⟩ (fun H locs hW hS => ?_)
            rw [← eM17] at hW
            have hf := Option.some.inj hf
            rw [← hf]
            exact g_iret hx hb hr hlocks (by omega) (by omega) rfl hW hS dL_act_324
          refine lv_if_ne (tgt := 269) hx hb dL_act_262 (by decide) (fun k262 => ?_) (fun k262 => ?_)
          · have hf := (op_if hf).2 k262
            refine lv_bipush (v := (10)) hx hb dL_act_269 (by decide) ?_
            refine lv_iload hx hb dL_act_271 (lv_at hl 0 rfl) ?_
            refine lv_imul hx hb dL_act_273 ?_
            refine lv_iload hx hb dL_act_274 (lv_at hl 1 rfl) ?_
            obtain ⟨j19, ej19, hf⟩ := op_st hf
            have hj19 : ∀ (y18 : Int32) (H : Heap) (locs : List Loc) (ls : Array Slot), lv_has ls 7 [(3, .int x1)] → (TW Γ a_1 M (nC Γ qn I :: X)) H → va_S (zA Γ) s.heap H locs → j19 y18 = some y → W p l e (headSpec wsL_act rmL_act).room s m args below meth c H locs 0 0 (MQ below (GQ Γ (TW Γ a_1 y.2 (nC Γ qn I :: X)) (some (.int y.1))) args s 9 2614 (zA Γ)) (F0 m 290 ls [.int y18, .int ((10 : Int32) * x10), .int ((x1 / (8 : Int32)) - (x1 / (8 : Int32)) / (4 : Int32) * (4 : Int32)), .int x4, .ref a_1]) := by
              intro y18 H locs ls hl hW hS hf
              rw [ej19] at hf
              refine lv_iadd hx hb dL_act_290 ?_
              refine W.widen (k := 0) (n := 0) (by omega) (by omega) ?_
              exact hj16 (((10 : Int32) * x10) + y18) H locs ls (lv_sub hl [0] rfl) hW hS hf
            refine lv_if_ne (tgt := 283) hx hb dL_act_276 (by decide) (fun k276 => ?_) (fun k276 => ?_)
            · have hf := (op_if hf).2 k276
              refine lv_iload_n hx hb dL_act_283 rfl (lv_at hl 3 rfl) ?_
              refine lv_bipush (v := (64)) hx hb dL_act_284 (by decide) ?_
              refine lv_idiv hx hb dL_act_286 (by decide) ?_
              refine lv_iload hx hb dL_act_287 (lv_at hl 1 rfl) ?_
              obtain ⟨h289, hf⟩ := op_gd hf
              refine lv_irem hx hb dL_act_289 h289 ?_
              refine W.widen (k := 0) (n := 0) (by omega) (by omega) ?_
              exact hj19 ((x1 / (64 : Int32)) - (x1 / (64 : Int32)) / x7 * x7) H locs ls (lv_sub hl [3] rfl) hW hS hf
            have hf := (op_if hf).1 k276
            refine lv_iconst (v := (0)) hx hb dL_act_279 (by decide) ?_
            refine lv_goto (tgt := 290) hx hb dL_act_280 (by decide) ?_
            refine W.widen (k := 0) (n := 0) (by omega) (by omega) ?_
            exact hj19 (0 : Int32) H locs ls (lv_sub hl [3] rfl) hW hS hf
          have hf := (op_if hf).1 k262
          refine lv_iconst (v := (-1)) hx hb dL_act_265 (by decide) ?_
          refine lv_goto (tgt := 291) hx hb dL_act_266 (by decide) ?_
          refine W.widen (k := 0) (n := 0) (by omega) (by omega) ?_
          exact hj16 (-1 : Int32) H locs ls (lv_sub hl [3] rfl) hW hS hf
        have hf := (op_if hf).2 kg_
        by_cases kg_ : (i_3 - i_3 / (32 : Int32) * (32 : Int32)) = (9 : Int32) ∨ (i_3 - i_3 / (32 : Int32) * (32 : Int32)) = (10 : Int32) ∨ (i_3 - i_3 / (32 : Int32) * (32 : Int32)) = (11 : Int32)
        · have hf := (op_if hf).1 kg_
          suffices hg_ : W p l e (headSpec wsL_act rmL_act).room s m args below meth c H locs 0 0 (MQ below (GQ Γ (TW Γ a_1 y.2 (nC Γ qn I :: X)) (some (.int y.1))) args s 9 2614 (zA Γ)) (F0 m 325 ls []) by
            rcases kg_ with kz_ | kz_ | kz_
            · exact lv_tableIn (tgt := 325) (off := 262) hx hb dL_act_63 (by rw [kz_]; decide) (by rw [kz_]; decide) (by rw [kz_]; rfl) (by decide) hg_
            · exact lv_tableIn (tgt := 325) (off := 262) hx hb dL_act_63 (by rw [kz_]; decide) (by rw [kz_]; decide) (by rw [kz_]; rfl) (by decide) hg_
            · exact lv_tableIn (tgt := 325) (off := 262) hx hb dL_act_63 (by rw [kz_]; decide) (by rw [kz_]; decide) (by rw [kz_]; rfl) (by decide) hg_
          refine lv_aload_n hx hb dL_act_325 rfl (lv_at hl 4 rfl) ?_
          refine lv_iload hx hb dL_act_326 (lv_at hl 2 rfl) ?_
          refine lv_iload hx hb dL_act_328 (lv_at hl 0 rfl) ?_
          obtain ⟨M20, eM20, hf⟩ := op_st hf
          refine g_callW (As := [.ref a_1, .int x4, .int x10]) (rest := []) ⟨hx, hb, hml, hown, hts⟩ (aL_stick l hl0 Γ a_1 M (nC Γ qn I :: X) x4 x10) (vx_cwSW 3 hts gL_act_L_stick rfl rfl rfl (by decide +kernel) ⟨Nat.le_of_ble_eq_true rfl, Nat.le_of_ble_eq_true rfl⟩) hKK hKX hKY hKN hW hS rfl hl.1 rfl (Nat.le_of_ble_eq_true rfl) dL_act_330 ⟨(by show _ + _ ≤ 9; omega), (by show _ + _ ≤ 2614; omega)⟩ (fun H locs hW hS => ?_)
          rw [← eM20] at hW
          have hf := Option.some.inj hf
          rw [← hf]
          exact g_iret hx hb hr hlocks (by omega) (by omega) rfl hW hS dL_act_333
        have hf := (op_if hf).2 kg_
        by_cases kg_ : (i_3 - i_3 / (32 : Int32) * (32 : Int32)) = (12 : Int32) ∨ (i_3 - i_3 / (32 : Int32) * (32 : Int32)) = (13 : Int32) ∨ (i_3 - i_3 / (32 : Int32) * (32 : Int32)) = (14 : Int32) ∨ (i_3 - i_3 / (32 : Int32) * (32 : Int32)) = (15 : Int32)
        · have hf := (op_if hf).1 kg_
          suffices hg_ : W p l e (headSpec wsL_act rmL_act).room s m args below meth c H locs 0 0 (MQ below (GQ Γ (TW Γ a_1 y.2 (nC Γ qn I :: X)) (some (.int y.1))) args s 9 2614 (zA Γ)) (F0 m 334 ls []) by
            rcases kg_ with kz_ | kz_ | kz_ | kz_
            · exact lv_tableIn (tgt := 334) (off := 271) hx hb dL_act_63 (by rw [kz_]; decide) (by rw [kz_]; decide) (by rw [kz_]; rfl) (by decide) hg_
            · exact lv_tableIn (tgt := 334) (off := 271) hx hb dL_act_63 (by rw [kz_]; decide) (by rw [kz_]; decide) (by rw [kz_]; rfl) (by decide) hg_
            · exact lv_tableIn (tgt := 334) (off := 271) hx hb dL_act_63 (by rw [kz_]; decide) (by rw [kz_]; decide) (by rw [kz_]; rfl) (by decide) hg_
            · exact lv_tableIn (tgt := 334) (off := 271) hx hb dL_act_63 (by rw [kz_]; decide) (by rw [kz_]; decide) (by rw [kz_]; rfl) (by decide) hg_
          refine lv_aload_n hx hb dL_act_334 rfl (lv_at hl 4 rfl) ?_
          refine lv_iload hx hb dL_act_335 (lv_at hl 2 rfl) ?_
          obtain ⟨M21, eM21, hf⟩ := op_st hf
          refine g_callW (As := [.ref a_1, .int x4]) (rest := []) ⟨hx, hb, hml, hown, hts⟩ (aL_coin l hl0 Γ a_1 M (nC Γ qn I :: X) x4) (vx_cwSW 2 hts gL_act_L_coin rfl rfl rfl (by decide +kernel) ⟨Nat.le_of_ble_eq_true rfl, Nat.le_of_ble_eq_true rfl⟩) hKK hKX hKY hKN hW hS rfl hl.1 rfl (Nat.le_of_ble_eq_true rfl) dL_act_337 ⟨(by show _ + _ ≤ 9; omega), (by show _ + _ ≤ 2614; omega)⟩ (fun H locs hW hS => ?_)
          rw [← eM21] at hW
          have hf := Option.some.inj hf
          rw [← hf]
          exact g_iret hx hb hr hlocks (by omega) (by omega) rfl hW hS dL_act_340
        have hf := (op_if hf).2 kg_
        by_cases kg_ : (i_3 - i_3 / (32 : Int32) * (32 : Int32)) = (16 : Int32)
        · have hf := (op_if hf).1 kg_
          suffices hg_ : W p l e (headSpec wsL_act rmL_act).room s m args below meth c H locs 0 0 (MQ below (GQ Γ (TW Γ a_1 y.2 (nC Γ qn I :: X)) (some (.int y.1))) args s 9 2614 (zA Γ)) (F0 m 341 ls []) by
            have kz_ := kg_
            exact lv_tableIn (tgt := 341) (off := 278) hx hb dL_act_63 (by rw [kz_]; decide) (by rw [kz_]; decide) (by rw [kz_]; rfl) (by decide) hg_
          refine lv_aload_n hx hb dL_act_341 rfl (lv_at hl 4 rfl) ?_
          refine lv_iload hx hb dL_act_342 (lv_at hl 2 rfl) ?_
          refine lv_iconst (v := (1)) hx hb dL_act_344 (by decide) ?_
          refine lv_iload_n hx hb dL_act_345 rfl (lv_at hl 3 rfl) ?_
          refine lv_bipush (v := (8)) hx hb dL_act_346 (by decide) ?_
          refine lv_idiv hx hb dL_act_348 (by decide) ?_
          refine lv_bipush (v := (9)) hx hb dL_act_349 (by decide) ?_
          refine lv_irem hx hb dL_act_351 (by decide) ?_
          refine lv_iadd hx hb dL_act_352 ?_
          obtain ⟨M22, eM22, hf⟩ := op_st hf
          refine g_callW (As := [.ref a_1, .int x4, .int ((1 : Int32) + ((x1 / (8 : Int32)) - (x1 / (8 : Int32)) / (9 : Int32) * (9 : Int32)))]) (rest := []) ⟨hx, hb, hml, hown, hts⟩ (aL_rob l hl0 Γ a_1 M (nC Γ qn I :: X) x4 ((1 : Int32) + ((x1 / (8 : Int32)) - (x1 / (8 : Int32)) / (9 : Int32) * (9 : Int32)))) (vx_cwSW 3 hts gL_act_L_rob rfl rfl rfl (by decide +kernel) ⟨Nat.le_of_ble_eq_true rfl, Nat.le_of_ble_eq_true rfl⟩) hKK hKX hKY hKN hW hS rfl hl.1 rfl (Nat.le_of_ble_eq_true rfl) dL_act_353 ⟨(by show _ + _ ≤ 9; omega), (by show _ + _ ≤ 2614; omega)⟩ (fun H locs hW hS => ?_)
          rw [← eM22] at hW
          have hf := Option.some.inj hf
          rw [← hf]
          exact g_iret hx hb hr hlocks (by omega) (by omega) rfl hW hS dL_act_356
        have hf := (op_if hf).2 kg_
        by_cases kg_ : (i_3 - i_3 / (32 : Int32) * (32 : Int32)) = (17 : Int32) ∨ (i_3 - i_3 / (32 : Int32) * (32 : Int32)) = (18 : Int32)
        · have hf := (op_if hf).1 kg_
          suffices hg_ : W p l e (headSpec wsL_act rmL_act).room s m args below meth c H locs 0 0 (MQ below (GQ Γ (TW Γ a_1 y.2 (nC Γ qn I :: X)) (some (.int y.1))) args s 9 2614 (zA Γ)) (F0 m 357 ls []) by
            rcases kg_ with kz_ | kz_
            · exact lv_tableIn (tgt := 357) (off := 294) hx hb dL_act_63 (by rw [kz_]; decide) (by rw [kz_]; decide) (by rw [kz_]; rfl) (by decide) hg_
            · exact lv_tableIn (tgt := 357) (off := 294) hx hb dL_act_63 (by rw [kz_]; decide) (by rw [kz_]; decide) (by rw [kz_]; rfl) (by decide) hg_
          refine lv_aload_n hx hb dL_act_357 rfl (lv_at hl 4 rfl) ?_
          refine lv_iload_n hx hb dL_act_358 rfl (lv_at hl 3 rfl) ?_
          refine lv_bipush (v := (8)) hx hb dL_act_359 (by decide) ?_
          refine lv_idiv hx hb dL_act_361 (by decide) ?_
          refine lv_iconst (v := (2)) hx hb dL_act_362 (by decide) ?_
          refine lv_irem hx hb dL_act_363 (by decide) ?_
          refine lv_iload_n hx hb dL_act_364 rfl (lv_at hl 3 rfl) ?_
          refine lv_bipush (v := (16)) hx hb dL_act_365 (by decide) ?_
          refine lv_idiv hx hb dL_act_367 (by decide) ?_
          refine lv_iconst (v := (2)) hx hb dL_act_368 (by decide) ?_
          refine lv_irem hx hb dL_act_369 (by decide) ?_
          refine lv_iconst (v := (1)) hx hb dL_act_370 (by decide) ?_
          refine lv_iload_n hx hb dL_act_371 rfl (lv_at hl 3 rfl) ?_
          refine lv_bipush (v := (32)) hx hb dL_act_372 (by decide) ?_
          refine lv_idiv hx hb dL_act_374 (by decide) ?_
          refine lv_iconst (v := (4)) hx hb dL_act_375 (by decide) ?_
          refine lv_irem hx hb dL_act_376 (by decide) ?_
          refine lv_iadd hx hb dL_act_377 ?_
          obtain ⟨M23, eM23, hf⟩ := op_st hf
          refine g_callW (As := [.ref a_1, .int ((x1 / (8 : Int32)) - (x1 / (8 : Int32)) / (2 : Int32) * (2 : Int32)), .int ((x1 / (16 : Int32)) - (x1 / (16 : Int32)) / (2 : Int32) * (2 : Int32)), .int ((1 : Int32) + ((x1 / (32 : Int32)) - (x1 / (32 : Int32)) / (4 : Int32) * (4 : Int32)))]) (rest := []) ⟨hx, hb, hml, hown, hts⟩ (aL_load l hl0 Γ a_1 M (nC Γ qn I :: X) ((x1 / (8 : Int32)) - (x1 / (8 : Int32)) / (2 : Int32) * (2 : Int32)) ((x1 / (16 : Int32)) - (x1 / (16 : Int32)) / (2 : Int32) * (2 : Int32)) ((1 : Int32) + ((x1 / (32 : Int32)) - (x1 / (32 : Int32)) / (4 : Int32) * (4 : Int32)))) (vx_cwSW 4 hts gL_act_L_load rfl rfl rfl (by decide +kernel) ⟨Nat.le_of_ble_eq_true rfl, Nat.le_of_ble_eq_true rfl⟩) hKK hKX hKY hKN hW hS rfl hl.1 rfl (Nat.le_of_ble_eq_true rfl) dL_act_378 ⟨(by show _ + _ ≤ 9; omega), (by show _ + _ ≤ 2614; omega)⟩ (fun H locs hW hS => ?_)
          rw [← eM23] at hW
          have hf := Option.some.inj hf
          rw [← hf]
          exact g_iret hx hb hr hlocks (by omega) (by omega) rfl hW hS dL_act_381
        have hf := (op_if hf).2 kg_
        by_cases kg_ : (i_3 - i_3 / (32 : Int32) * (32 : Int32)) = (19 : Int32) ∨ (i_3 - i_3 / (32 : Int32) * (32 : Int32)) = (20 : Int32)
        · have hf := (op_if hf).1 kg_
          suffices hg_ : W p l e (headSpec wsL_act rmL_act).room s m args below meth c H locs 0 0 (MQ below (GQ Γ (TW Γ a_1 y.2 (nC Γ qn I :: X)) (some (.int y.1))) args s 9 2614 (zA Γ)) (F0 m 382 ls []) by
            rcases kg_ with kz_ | kz_
            · exact lv_tableIn (tgt := 382) (off := 319) hx hb dL_act_63 (by rw [kz_]; decide) (by rw [kz_]; decide) (by rw [kz_]; rfl) (by decide) hg_
            · exact lv_tableIn (tgt := 382) (off := 319) hx hb dL_act_63 (by rw [kz_]; decide) (by rw [kz_]; decide) (by rw [kz_]; rfl) (by decide) hg_
          refine lv_aload_n hx hb dL_act_382 rfl (lv_at hl 4 rfl) ?_
          refine lv_iload_n hx hb dL_act_383 rfl (lv_at hl 3 rfl) ?_
          refine lv_bipush (v := (8)) hx hb dL_act_384 (by decide) ?_
          refine lv_idiv hx hb dL_act_386 (by decide) ?_
          refine lv_iconst (v := (2)) hx hb dL_act_387 (by decide) ?_
          refine lv_irem hx hb dL_act_388 (by decide) ?_
          obtain ⟨M24, eM24, hf⟩ := op_st hf
          refine g_callW (As := [.ref a_1, .int ((x1 / (8 : Int32)) - (x1 / (8 : Int32)) / (2 : Int32) * (2 : Int32))]) (rest := []) ⟨hx, hb, hml, hown, hts⟩ (aL_go l hl0 Γ a_1 M (nC Γ qn I :: X) ((x1 / (8 : Int32)) - (x1 / (8 : Int32)) / (2 : Int32) * (2 : Int32))) (vx_cwSW 2 hts gL_act_L_go rfl rfl rfl (by decide +kernel) ⟨Nat.le_of_ble_eq_true rfl, Nat.le_of_ble_eq_true rfl⟩) hKK hKX hKY hKN hW hS rfl hl.1 rfl (Nat.le_of_ble_eq_true rfl) dL_act_389 ⟨(by show _ + _ ≤ 9; omega), (by show _ + _ ≤ 2614; omega)⟩ (fun H locs hW hS => ?_)
          rw [← eM24] at hW
          have hf := Option.some.inj hf
          rw [← hf]
          exact g_iret hx hb hr hlocks (by omega) (by omega) rfl hW hS dL_act_392
        have hf := (op_if hf).2 kg_
        cases hf
      refine lv_if_ne (tgt := 50) hx hb dL_act_43 (by decide) (fun k43 => ?_) (fun k43 => ?_)
      · have hf := (op_if hf).2 k43
        refine lv_iload_n hx hb dL_act_50 rfl (lv_at hl 2 rfl) ?_
        refine lv_bipush (v := (8)) hx hb dL_act_51 (by decide) ?_
        refine lv_idiv hx hb dL_act_53 (by decide) ?_
        refine lv_iload hx hb dL_act_54 (lv_at hl 0 rfl) ?_
        obtain ⟨h56, hf⟩ := op_gd hf
        refine lv_irem hx hb dL_act_56 h56 ?_
        refine W.widen (k := 0) (n := 0) (by omega) (by omega) ?_
        exact hj9 ((x1 / (8 : Int32)) - (x1 / (8 : Int32)) / x7 * x7) H locs ls (lv_sub hl [0, 1, 2, 3, 4] rfl) hW hS hf
      have hf := (op_if hf).1 k43
      refine lv_iconst (v := (0)) hx hb dL_act_46 (by decide) ?_
      refine lv_goto (tgt := 57) hx hb dL_act_47 (by decide) ?_
      refine W.widen (k := 0) (n := 0) (by omega) (by omega) ?_
      exact hj9 (0 : Int32) H locs ls (lv_sub hl [0, 1, 2, 3, 4] rfl) hW hS hf
    refine lv_if_ne (tgt := 35) hx hb dL_act_28 (by decide) (fun k28 => ?_) (fun k28 => ?_)
    · have hf := (op_if hf).2 k28
      refine lv_aload_n hx hb dL_act_35 rfl (lv_at hl 3 rfl) ?_
      refine lv_iload hx hb dL_act_36 (lv_at hl 0 rfl) ?_
      obtain ⟨h38, hf⟩ := op_gd hf
      refine va_iald hx hb hKK.1 (tw_n hW) 0 0 (n := 14) rfl rfl h38 dL_act_38 ?_
      refine W.widen (k := 0) (n := 0) (by omega) (by omega) ?_
      exact hj6 (I x4.toNatClampNeg) H locs ls (lv_sub hl [0, 1, 2, 4] rfl) hW hS hf
    have hf := (op_if hf).1 k28
    refine lv_iconst (v := (0)) hx hb dL_act_31 (by decide) ?_
    refine lv_goto (tgt := 39) hx hb dL_act_32 (by decide) ?_
    refine W.widen (k := 0) (n := 0) (by omega) (by omega) ?_
    exact hj6 (0 : Int32) H locs ls (lv_sub hl [0, 1, 2, 4] rfl) hW hS hf
  refine lv_if_ne (tgt := 16) hx hb dL_act_9 (by decide) (fun k9 => ?_) (fun k9 => ?_)
  · have hf := (op_if hf).2 k9
    refine lv_iload_n hx hb dL_act_16 rfl (lv_at hl 0 rfl) ?_
    refine lv_aload_n hx hb dL_act_17 rfl (lv_at hl 1 rfl) ?_
    obtain ⟨fs_, hr_⟩ := (tw_r hW)
    refine g_callV (As := []) (rest := [.int x1]) ⟨hx, hb, hml, hown, hts⟩ (aX_tables l Γ a_1 M (nC Γ qn I :: X) ) (cwV 0 hts gL_act_X9_tables rfl rfl rfl (by decide +kernel) ⟨Nat.le_of_ble_eq_true rfl, Nat.le_of_ble_eq_true rfl⟩) hr_ rfl hKK hKX hKY hKN hW hS rfl hl.1 rfl (Nat.le_of_ble_eq_true rfl) dL_act_18 ⟨(by show _ + _ ≤ 9; omega), (by show _ + _ ≤ 2614; omega)⟩ (fun H locs hW hS => ?_)
    obtain ⟨h21, hf⟩ := op_gd hf
    refine lv_irem hx hb dL_act_21 h21 ?_
    refine W.widen (k := 0) (n := 0) (by omega) (by omega) ?_
    exact hj3 (x1 - x1 / (M 1 0) * (M 1 0)) H locs ls (lv_sub hl [0, 1, 2, 3] rfl) hW hS hf
  have hf := (op_if hf).1 k9
  refine lv_iconst (v := (0)) hx hb dL_act_12 (by decide) ?_
  refine lv_goto (tgt := 22) hx hb dL_act_13 (by decide) ?_
  refine W.widen (k := 0) (n := 0) (by omega) (by omega) ?_
  exact hj3 (0 : Int32) H locs ls (lv_sub hl [0, 1, 2, 3] rfl) hW hS hf
