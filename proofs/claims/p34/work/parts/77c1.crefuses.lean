abbrev rmL_refuses : Room := { frames := 10, cells := 143, slots := 6656, locals := 373 }
set_option maxHeartbeats 4000000 in
set_option maxRecDepth 100000 in
theorem cL_refuses_ok (l : Launch) (hl0 : l.stackTraces = false) (Γ : zG) (a_1 : Nat) (qn : Nat) (M : zMs) (X : va_W) {I : Nat → Int32} {i_3 : Int32} {y : (Int32 × zMs)} (hf : fL_refuses M I i_3 = some y) : Met l yL_refuses wsL_refuses rmL_refuses (GP Γ (TW Γ a_1 M (nC Γ qn I :: X)) [.ref a_1, .ref qn, .int i_3]) (GQ Γ (TW Γ a_1 y.2 (nC Γ qn I :: X)) (some (.int y.1))) 143 6656 (zA Γ) := by
  refine Met.ofW (cc := cL_refuses) (maxL := 12) (ret := (some .boolean)) (by decide) rfl ?_
  intro p e s m args below meth c s₁ B hml hv
  obtain ⟨rfl, hW, hKK, hKX, hKY, hKN⟩ := hv
  have hx := B.exec
  have hb := B.bytes
  have hr := B.returns
  have hts := atoms_spec (ws := wsL_refuses) B.pre
  have hown : s.vm.findClass RL = some m.cls := findClass_of_methodNamed B.named
  have hlocks := B.notSynchronized
  have hS : va_S (zA Γ) s.heap s.heap [] := va_S.rf
  have hl := lv_entry ([.ref a_1, .ref qn, .int i_3]) (n := 12) (Nat.le_of_ble_eq_true rfl)
  rw [lg_entry_eq]
  generalize (lg_sl ([.ref a_1, .ref qn, .int i_3]) ++ List.replicate (12 - (lg_sl ([.ref a_1, .ref qn, .int i_3])).length) Slot.unset).toArray = ls at hl ⊢
  have hl : lv_has ls 12 [(0, .ref a_1), (1, .ref qn), (2, .int i_3)] := hl
  generalize ([.ref a_1, .ref qn, .int i_3] : List Value).toArray = args at hts ⊢
  obtain ⟨H, hH0⟩ : ∃ H, H = s.heap := ⟨_, rfl⟩
  obtain ⟨locs, hlo0⟩ : ∃ L : List Loc, L = [] := ⟨_, rfl⟩
  have hS : va_S (zA Γ) s.heap H locs := by rw [hH0, hlo0]; exact hS
  have hW : (TW Γ a_1 M (nC Γ qn I :: X)) H := by rw [hH0]; exact hW
  rw [← hH0, ← hlo0]
  unfold fL_refuses at hf
  refine lv_iload_n hx hb dL_refuses_0 rfl (lv_at hl 2 rfl) ?_
  refine lv_iconst (v := (2)) hx hb dL_refuses_1 (by decide) ?_
  refine lv_irem hx hb dL_refuses_2 (by decide) ?_
  obtain ⟨j2, ej2, hf⟩ := op_st hf
  have hj2 : ∀ (y1 : Int32) (H : Heap) (locs : List Loc) (ls : Array Slot), lv_has ls 12 [(0, .ref a_1), (1, .ref qn), (2, .int i_3)] → (TW Γ a_1 M (nC Γ qn I :: X)) H → va_S (zA Γ) s.heap H locs → j2 y1 = some y → W p l e (headSpec wsL_refuses rmL_refuses).room s m args below meth c H locs 0 0 (MQ below (GQ Γ (TW Γ a_1 y.2 (nC Γ qn I :: X)) (some (.int y.1))) args s 143 6656 (zA Γ)) (F0 m 11 ls [.int y1]) := by
    intro y1 H locs ls hl hW hS hf
    rw [ej2] at hf
    obtain ⟨x3, ex3, hf⟩ := op_st hf
    refine z_istn (lv' := [(3, .int x3), (0, .ref a_1), (1, .ref qn), (2, .int i_3)]) ex3 hx hb dL_refuses_11 rfl hl (by decide) rfl (fun ls hl => ?_)
    refine lv_iload_n hx hb dL_refuses_12 rfl (lv_at hl 0 rfl) ?_
    obtain ⟨j5, ej5, hf⟩ := op_st hf
    have hj5 : ∀ (y4 : Int32) (H : Heap) (locs : List Loc) (ls : Array Slot), lv_has ls 12 [(3, .int x3), (0, .ref a_1), (1, .ref qn), (2, .int i_3)] → (TW Γ a_1 M (nC Γ qn I :: X)) H → va_S (zA Γ) s.heap H locs → j5 y4 = some y → W p l e (headSpec wsL_refuses rmL_refuses).room s m args below meth c H locs 0 0 (MQ below (GQ Γ (TW Γ a_1 y.2 (nC Γ qn I :: X)) (some (.int y.1))) args s 143 6656 (zA Γ)) (F0 m 34 ls [.int y4]) := by
      intro y4 H locs ls hl hW hS hf
      rw [ej5] at hf
      obtain ⟨x6, ex6, hf⟩ := op_st hf
      refine z_ist (lv' := [(4, .int x6), (3, .int x3), (0, .ref a_1), (1, .ref qn), (2, .int i_3)]) ex6 hx hb dL_refuses_34 hl (by decide) rfl (fun ls hl => ?_)
      refine lv_iload_n hx hb dL_refuses_36 rfl (lv_at hl 1 rfl) ?_
      obtain ⟨j8, ej8, hf⟩ := op_st hf
      have hj8 : ∀ (y7 : Int32) (H : Heap) (locs : List Loc) (ls : Array Slot), lv_has ls 12 [(4, .int x6), (3, .int x3), (0, .ref a_1), (1, .ref qn), (2, .int i_3)] → (TW Γ a_1 M (nC Γ qn I :: X)) H → va_S (zA Γ) s.heap H locs → j8 y7 = some y → W p l e (headSpec wsL_refuses rmL_refuses).room s m args below meth c H locs 0 0 (MQ below (GQ Γ (TW Γ a_1 y.2 (nC Γ qn I :: X)) (some (.int y.1))) args s 143 6656 (zA Γ)) (F0 m 58 ls [.int y7]) := by
        intro y7 H locs ls hl hW hS hf
        rw [ej8] at hf
        obtain ⟨x9, ex9, hf⟩ := op_st hf
        refine z_ist (lv' := [(5, .int x9), (4, .int x6), (3, .int x3), (0, .ref a_1), (1, .ref qn), (2, .int i_3)]) ex9 hx hb dL_refuses_58 hl (by decide) rfl (fun ls hl => ?_)
        refine lv_iload_n hx hb dL_refuses_60 rfl (lv_at hl 2 rfl) ?_
        obtain ⟨j11, ej11, hf⟩ := op_st hf
        have hj11 : ∀ (y10 : Int32) (H : Heap) (locs : List Loc) (ls : Array Slot), lv_has ls 12 [(5, .int x9), (4, .int x6), (3, .int x3), (0, .ref a_1), (1, .ref qn), (2, .int i_3)] → (TW Γ a_1 M (nC Γ qn I :: X)) H → va_S (zA Γ) s.heap H locs → j11 y10 = some y → W p l e (headSpec wsL_refuses rmL_refuses).room s m args below meth c H locs 0 0 (MQ below (GQ Γ (TW Γ a_1 y.2 (nC Γ qn I :: X)) (some (.int y.1))) args s 143 6656 (zA Γ)) (F0 m 79 ls [.int y10]) := by
          intro y10 H locs ls hl hW hS hf
          rw [ej11] at hf
          obtain ⟨x12, ex12, hf⟩ := op_st hf
          refine z_ist (lv' := [(6, .int x12), (5, .int x9), (4, .int x6), (3, .int x3), (0, .ref a_1), (1, .ref qn), (2, .int i_3)]) ex12 hx hb dL_refuses_79 hl (by decide) rfl (fun ls hl => ?_)
          refine lv_aload_n hx hb dL_refuses_81 rfl (lv_at hl 4 rfl) ?_
          refine lv_bipush (v := (101)) hx hb dL_refuses_82 (by decide) ?_
          refine lv_iload_n hx hb dL_refuses_84 rfl (lv_at hl 6 rfl) ?_
          refine lv_iadd hx hb dL_refuses_85 ?_
          refine lv_iconst (v := (1)) hx hb dL_refuses_86 (by decide) ?_
          obtain ⟨M13, eM13, hf⟩ := op_st hf
          refine g_callW (As := [.ref a_1, .int ((101 : Int32) + i_3), .int (1 : Int32)]) (rest := []) ⟨hx, hb, hml, hown, hts⟩ (aL_tables l hl0 Γ a_1 M (nC Γ qn I :: X) ((101 : Int32) + i_3) (1 : Int32)) (vx_cwSW 3 hts gL_refuses_L_tables rfl rfl rfl (by decide +kernel) ⟨Nat.le_of_ble_eq_true rfl, Nat.le_of_ble_eq_true rfl⟩) hKK hKX hKY hKN hW hS rfl hl.1 rfl (Nat.le_of_ble_eq_true rfl) dL_refuses_87 ⟨(by show _ + _ ≤ 143; omega), (by show _ + _ ≤ 6656; omega)⟩ (fun H locs hW hS => ?_)
          rw [← eM13] at hW
          refine lv_ldc hx hb hown (hts (.constant RL 15 (-2000000002)) (List.mem_of_getElem? (i := 1) rfl)) dL_refuses_90 ?_
          obtain ⟨j16, ej16, hf⟩ := op_st hf
          have hj16 : ∀ (y14 : Int32) (M15 : zMs) (H : Heap) (locs : List Loc) (ls : Array Slot), lv_has ls 12 [(3, .int x3), (0, .ref a_1), (1, .ref qn), (2, .int i_3)] → (TW Γ a_1 M15 (nC Γ qn I :: X)) H → va_S (zA Γ) s.heap H locs → j16 y14 M15 = some y → W p l e (headSpec wsL_refuses rmL_refuses).room s m args below meth c H locs 80 3364 (MQ below (GQ Γ (TW Γ a_1 y.2 (nC Γ qn I :: X)) (some (.int y.1))) args s 143 6656 (zA Γ)) (F0 m 693 ls [.int y14]) := by
            intro y14 M15 H locs ls hl hW hS hf
            rw [ej16] at hf
            obtain ⟨x17, ex17, hf⟩ := op_st hf
            refine z_ist (lv' := [(7, .int x17), (3, .int x3), (0, .ref a_1), (1, .ref qn), (2, .int i_3)]) ex17 hx hb dL_refuses_693 hl (by decide) rfl (fun ls hl => ?_)
            refine lv_iload hx hb dL_refuses_695 (lv_at hl 0 rfl) ?_
            refine lv_if_eq (tgt := 1362) hx hb dL_refuses_697 (by decide) (fun k697 => ?_) (fun k697 => ?_)
            · have hf := (op_if hf).1 k697
              refine lv_iload hx hb dL_refuses_1362 (lv_at hl 0 rfl) ?_
              obtain ⟨hbp, hf⟩ := op_gd hf
              have hf := Option.some.inj hf
              rw [← hf]
              exact g_iret hx hb hr hlocks (by omega) (by omega) (z_bb hbp) hW hS dL_refuses_1364
            have hf := (op_if hf).2 k697
            refine lv_aload_n hx hb dL_refuses_700 rfl (lv_at hl 2 rfl) ?_
            obtain ⟨fs_, hr_⟩ := (tw_r hW)
            refine g_callV (As := []) (rest := []) ⟨hx, hb, hml, hown, hts⟩ (aX_tables l Γ a_1 M15 (nC Γ qn I :: X) ) (cwV 0 hts gL_refuses_X9_tables rfl rfl rfl (by decide +kernel) ⟨Nat.le_of_ble_eq_true rfl, Nat.le_of_ble_eq_true rfl⟩) hr_ rfl hKK hKX hKY hKN hW hS rfl hl.1 rfl (Nat.le_of_ble_eq_true rfl) dL_refuses_701 ⟨(by show _ + _ ≤ 143; omega), (by show _ + _ ≤ 6656; omega)⟩ (fun H locs hW hS => ?_)
            refine lv_if_le (tgt := 1362) hx hb dL_refuses_704 (by decide) (fun k704 => ?_) (fun k704 => ?_)
            · have hf := (op_if hf).1 k704
              refine lv_iload hx hb dL_refuses_1362 (lv_at hl 0 rfl) ?_
              obtain ⟨hbp, hf⟩ := op_gd hf
              have hf := Option.some.inj hf
              rw [← hf]
              exact g_iret hx hb hr hlocks (by omega) (by omega) (z_bb hbp) hW hS dL_refuses_1364
            have hf := (op_if hf).2 k704
            refine lv_iload_n hx hb dL_refuses_707 rfl (lv_at hl 4 rfl) ?_
            refine lv_iconst (v := (2)) hx hb dL_refuses_708 (by decide) ?_
            refine lv_idiv hx hb dL_refuses_709 (by decide) ?_
            refine lv_aload_n hx hb dL_refuses_710 rfl (lv_at hl 2 rfl) ?_
            obtain ⟨fs_, hr_⟩ := (tw_r hW)
            refine g_callV (As := []) (rest := [.int (i_3 / (2 : Int32))]) ⟨hx, hb, hml, hown, hts⟩ (aX_tables l Γ a_1 M15 (nC Γ qn I :: X) ) (cwV 0 hts gL_refuses_X9_tables rfl rfl rfl (by decide +kernel) ⟨Nat.le_of_ble_eq_true rfl, Nat.le_of_ble_eq_true rfl⟩) hr_ rfl hKK hKX hKY hKN hW hS rfl hl.1 rfl (Nat.le_of_ble_eq_true rfl) dL_refuses_711 ⟨(by show _ + _ ≤ 143; omega), (by show _ + _ ≤ 6656; omega)⟩ (fun H locs hW hS => ?_)
            obtain ⟨h714, hf⟩ := op_gd hf
            refine lv_irem hx hb dL_refuses_714 h714 ?_
            obtain ⟨x18, ex18, hf⟩ := op_st hf
            refine z_ist (lv' := [(8, .int x18), (7, .int x17), (3, .int x3), (0, .ref a_1), (1, .ref qn), (2, .int i_3)]) ex18 hx hb dL_refuses_715 hl (by decide) rfl (fun ls hl => ?_)
            refine lv_aload_n hx hb dL_refuses_717 rfl (lv_at hl 4 rfl) ?_
            refine lv_iload hx hb dL_refuses_718 (lv_at hl 0 rfl) ?_
            obtain ⟨h720, hf⟩ := op_gd hf
            refine va_iald hx hb hKK.1 (tw_n hW) 0 0 (n := 14) rfl rfl h720 dL_refuses_720 ?_
            obtain ⟨x19, ex19, hf⟩ := op_st hf
            refine z_ist (lv' := [(9, .int x19), (8, .int x18), (7, .int x17), (3, .int x3), (0, .ref a_1), (1, .ref qn), (2, .int i_3)]) ex19 hx hb dL_refuses_721 hl (by decide) rfl (fun ls hl => ?_)
            refine lv_iload_n hx hb dL_refuses_723 rfl (lv_at hl 3 rfl) ?_
            obtain ⟨j21, ej21, hf⟩ := op_st hf
            have hj21 : ∀ (y20 : Int32) (H : Heap) (locs : List Loc) (ls : Array Slot), lv_has ls 12 [(9, .int x19), (8, .int x18), (0, .ref a_1), (2, .int i_3)] → (TW Γ a_1 M15 (nC Γ qn I :: X)) H → va_S (zA Γ) s.heap H locs → j21 y20 = some y → W p l e (headSpec wsL_refuses rmL_refuses).room s m args below meth c H locs 80 3364 (MQ below (GQ Γ (TW Γ a_1 y.2 (nC Γ qn I :: X)) (some (.int y.1))) args s 143 6656 (zA Γ)) (F0 m 743 ls [.int y20]) := by
              intro y20 H locs ls hl hW hS hf
              rw [ej21] at hf
              obtain ⟨x22, ex22, hf⟩ := op_st hf
              refine z_ist (lv' := [(10, .int x22), (9, .int x19), (8, .int x18), (0, .ref a_1), (2, .int i_3)]) ex22 hx hb dL_refuses_743 hl (by decide) rfl (fun ls hl => ?_)
              refine lv_aload_n hx hb dL_refuses_745 rfl (lv_at hl 3 rfl) ?_
              refine lv_iload hx hb dL_refuses_746 (lv_at hl 2 rfl) ?_
              refine lv_sipush (v := (160)) hx hb dL_refuses_748 (by decide) ?_
              refine lv_iload_n hx hb dL_refuses_751 rfl (lv_at hl 4 rfl) ?_
              refine lv_iadd hx hb dL_refuses_752 ?_
              refine lv_iconst (v := (0)) hx hb dL_refuses_753 (by decide) ?_
              refine lv_bipush (v := (101)) hx hb dL_refuses_754 (by decide) ?_
              refine lv_iconst (v := (0)) hx hb dL_refuses_756 (by decide) ?_
              obtain ⟨M23, eM23, hf⟩ := op_st hf
              refine g_callW (As := [.ref a_1, .int x18, .int ((160 : Int32) + i_3), .int (0 : Int32), .int (101 : Int32), .int (0 : Int32)]) (rest := []) ⟨hx, hb, hml, hown, hts⟩ (aL_bumpers l hl0 Γ a_1 M15 (nC Γ qn I :: X) x18 ((160 : Int32) + i_3) (0 : Int32) (101 : Int32) (0 : Int32)) (vx_cwSW 6 hts gL_refuses_L_bumpers rfl rfl rfl (by decide +kernel) ⟨Nat.le_of_ble_eq_true rfl, Nat.le_of_ble_eq_true rfl⟩) hKK hKX hKY hKN hW hS rfl hl.1 rfl (Nat.le_of_ble_eq_true rfl) dL_refuses_757 ⟨(by show _ + _ ≤ 143; omega), (by show _ + _ ≤ 6656; omega)⟩ (fun H locs hW hS => ?_)
              rw [← eM23] at hW
              refine lv_ldc hx hb hown (hts (.constant RL 15 (-2000000002)) (List.mem_of_getElem? (i := 1) rfl)) dL_refuses_760 ?_
              obtain ⟨j26, ej26, hf⟩ := op_st hf
              have hj26 : ∀ (y24 : Int32) (M25 : zMs) (H : Heap) (locs : List Loc) (ls : Array Slot), lv_has ls 12 [(9, .int x19), (8, .int x18), (0, .ref a_1)] → (TW Γ a_1 M25 (nC Γ qn I :: X)) H → va_S (zA Γ) s.heap H locs → j26 y24 M25 = some y → W p l e (headSpec wsL_refuses rmL_refuses).room s m args below meth c H locs 109 3833 (MQ below (GQ Γ (TW Γ a_1 y.2 (nC Γ qn I :: X)) (some (.int y.1))) args s 143 6656 (zA Γ)) (F0 m 1140 ls [.int y24]) := by
                intro y24 M25 H locs ls hl hW hS hf
                rw [ej26] at hf
                obtain ⟨x27, ex27, hf⟩ := op_st hf
                refine z_ist (lv' := [(7, .int x27), (9, .int x19), (8, .int x18), (0, .ref a_1)]) ex27 hx hb dL_refuses_1140 hl (by decide) rfl (fun ls hl => ?_)
                refine lv_iload hx hb dL_refuses_1142 (lv_at hl 0 rfl) ?_
                obtain ⟨j30, ej30, hf⟩ := op_st hf
                have hj30 : ∀ (y28 : Int32) (M29 : zMs) (H : Heap) (locs : List Loc) (ls : Array Slot), lv_has ls 12 [(9, .int x19), (8, .int x18), (0, .ref a_1), (7, .int y28)] → (TW Γ a_1 M29 (nC Γ qn I :: X)) H → va_S (zA Γ) s.heap H locs → j30 y28 M29 = some y → W p l e (headSpec wsL_refuses rmL_refuses).room s m args below meth c H locs 125 6548 (MQ below (GQ Γ (TW Γ a_1 y.2 (nC Γ qn I :: X)) (some (.int y.1))) args s 143 6656 (zA Γ)) (F0 m 1310 ls []) := by
                  intro y28 M29 H locs ls hl hW hS hf
                  rw [ej30] at hf
                  refine lv_iconst (v := (0)) hx hb dL_refuses_1310 (by decide) ?_
                  obtain ⟨x31, ex31, hf⟩ := op_st hf
                  refine z_ist (lv' := [(11, .int x31), (9, .int x19), (8, .int x18), (0, .ref a_1), (7, .int y28)]) ex31 hx hb dL_refuses_1311 hl (by decide) rfl (fun ls hl => ?_)
                  obtain ⟨w34, q320, ew34, eq320, hf⟩ := op_lb hf
                  have hw34 : ∀ n37 : Nat, ∀ (q32 : (Int32 × Int32 × zMs)) (H : Heap) (locs : List Loc) (ls : Array Slot) (cv38 sv39 : Nat), cv38 + n37 * 2 ≤ 143 → sv39 + n37 * 12 ≤ 6656 → lv_has ls 12 [(11, .int q32.2.1), (9, .int x19), (8, .int x18), (0, .ref a_1), (7, .int q32.1)] → (TW Γ a_1 q32.2.2 (nC Γ qn I :: X)) H → va_S (zA Γ) s.heap H locs → lp w34 n37 q32 = some y → W p l e (headSpec wsL_refuses rmL_refuses).room s m args below meth c H locs cv38 sv39 (MQ below (GQ Γ (TW Γ a_1 y.2 (nC Γ qn I :: X)) (some (.int y.1))) args s 143 6656 (zA Γ)) (F0 m 1313 ls []) := by
                    intro n37
                    induction n37 with
                    | zero => intro q32 H locs ls cv38 sv39 hcv hsv hl hW hS hf; cases hf
                    | succ n37 ih35 =>
                      intro q32 H locs ls cv38 sv39 hcvcv38 hsvsv39 hl hW hS hf
                      obtain ⟨n_, r33, hn_, hf, hr36⟩ := op_lq hf
                      cases hn_
                      rw [ew34] at hf
                      refine lv_iload hx hb dL_refuses_1313 (lv_at hl 0 rfl) ?_
                      refine lv_iload hx hb dL_refuses_1315 (lv_at hl 1 rfl) ?_
                      refine lv_icmp_ge (tgt := 1362) hx hb dL_refuses_1317 (by decide) (fun k1317 => ?_) (fun k1317 => ?_)
                      · have hf := (op_if hf).1 k1317
                        refine W.widen (k := 143) (n := 6656) (by omega) (by omega) ?_
                        refine lv_iload hx hb dL_refuses_1362 (lv_at hl 4 rfl) ?_
                        obtain ⟨hbp, hf⟩ := op_gd hf
                        have hf := zr_r hf hr36
                        rw [← hf]
                        exact g_iret hx hb hr hlocks (by omega) (by omega) (z_bb hbp) hW hS dL_refuses_1364
                      have hf := (op_if hf).2 k1317
                      refine lv_iload hx hb dL_refuses_1320 (lv_at hl 4 rfl) ?_
                      refine lv_if_eq (tgt := 1362) hx hb dL_refuses_1322 (by decide) (fun k1322 => ?_) (fun k1322 => ?_)
                      · have hf := (op_if hf).1 k1322
                        refine W.widen (k := 143) (n := 6656) (by omega) (by omega) ?_
                        refine lv_iload hx hb dL_refuses_1362 (lv_at hl 4 rfl) ?_
                        obtain ⟨hbp, hf⟩ := op_gd hf
                        have hf := zr_r hf hr36
                        rw [← hf]
                        exact g_iret hx hb hr hlocks (by omega) (by omega) (z_bb hbp) hW hS dL_refuses_1364
                      have hf := (op_if hf).2 k1322
                      refine lv_aload_n hx hb dL_refuses_1325 rfl (lv_at hl 3 rfl) ?_
                      refine lv_iload hx hb dL_refuses_1326 (lv_at hl 2 rfl) ?_
                      refine lv_iload hx hb dL_refuses_1328 (lv_at hl 0 rfl) ?_
                      refine g_callW (As := [.ref a_1, .int x18, .int q32.2.1]) (rest := []) ⟨hx, hb, hml, hown, hts⟩ (aL_sticks l hl0 Γ a_1 q32.2.2 (nC Γ qn I :: X) x18 q32.2.1) (vx_cwSW 3 hts gL_refuses_L_sticks rfl rfl rfl (by decide +kernel) ⟨Nat.le_of_ble_eq_true rfl, Nat.le_of_ble_eq_true rfl⟩) hKK hKX hKY hKN hW hS rfl hl.1 rfl (Nat.le_of_ble_eq_true rfl) dL_refuses_1330 ⟨(by show _ + _ ≤ 143; omega), (by show _ + _ ≤ 6656; omega)⟩ (fun H locs hW hS => ?_)
                      obtain ⟨j42, ej42, hf⟩ := op_st hf
                      have hj42 : ∀ (y40 : Int32) (M41 : zMs) (H : Heap) (locs : List Loc) (ls : Array Slot), lv_has ls 12 [(11, .int q32.2.1), (9, .int x19), (8, .int x18), (0, .ref a_1)] → (TW Γ a_1 M41 (nC Γ qn I :: X)) H → va_S (zA Γ) s.heap H locs → j42 y40 M41 = some r33 → W p l e (headSpec wsL_refuses rmL_refuses).room s m args below meth c H locs (cv38 + 2) (sv39 + 12) (MQ below (GQ Γ (TW Γ a_1 y.2 (nC Γ qn I :: X)) (some (.int y.1))) args s 143 6656 (zA Γ)) (F0 m 1354 ls [.int y40]) := by
                        intro y40 M41 H locs ls hl hW hS hf
                        rw [ej42] at hf
                        obtain ⟨x43, ex43, hf⟩ := op_st hf
                        refine z_ist (lv' := [(7, .int x43), (11, .int q32.2.1), (9, .int x19), (8, .int x18), (0, .ref a_1)]) ex43 hx hb dL_refuses_1354 hl (by decide) rfl (fun ls hl => ?_)
                        obtain ⟨x44, ex44, hf⟩ := op_st hf
                        refine lv_iinc (v := x44) (lv' := [(11, .int x44), (7, .int x43), (9, .int x19), (8, .int x18), (0, .ref a_1)]) hx hb dL_refuses_1356 hl (k := 1) rfl (by rw [ex44]; rfl) (by decide) rfl (fun ls hl => ?_)
                        refine lv_goto (tgt := 1313) hx hb dL_refuses_1359 (by decide) ?_
                        have hf := zr_l hf hr36
                        refine W.widen (k := cv38 + 2) (n := sv39 + 12) (by omega) (by omega) ?_
                        exact ih35 (x43, x44, M41) H locs ls (cv38 + 2) (sv39 + 12) (by omega) (by omega) (lv_sub hl [0, 2, 3, 4, 1] rfl) hW hS hf
                      obtain ⟨j46, ej46, hf⟩ := op_st hf
                      have hj46 : ∀ (M45 : zMs) (H : Heap) (locs : List Loc) (ls : Array Slot), lv_has ls 12 [(11, .int q32.2.1), (9, .int x19), (8, .int x18), (0, .ref a_1)] → (TW Γ a_1 M45 (nC Γ qn I :: X)) H → va_S (zA Γ) s.heap H locs → j46 M45 = some r33 → W p l e (headSpec wsL_refuses rmL_refuses).room s m args below meth c H locs (cv38 + 2) (sv39 + 12) (MQ below (GQ Γ (TW Γ a_1 y.2 (nC Γ qn I :: X)) (some (.int y.1))) args s 143 6656 (zA Γ)) (F0 m 1349 ls []) := by
                        intro M45 H locs ls hl hW hS hf
                        rw [ej46] at hf
                        refine lv_iconst (v := (1)) hx hb dL_refuses_1349 (by decide) ?_
                        refine lv_goto (tgt := 1354) hx hb dL_refuses_1350 (by decide) ?_
                        refine W.widen (k := (cv38 + 2)) (n := (sv39 + 12)) (by omega) (by omega) ?_
                        exact hj42 (1 : Int32) M45 H locs ls (lv_sub hl [0, 1, 2, 3] rfl) hW hS hf
                      refine lv_if_eq (tgt := 1349) hx hb dL_refuses_1333 (by decide) (fun k1333 => ?_) (fun k1333 => ?_)
                      · have hf := (op_if hf).1 k1333
                        refine W.widen (k := (cv38 + 2)) (n := (sv39 + 12)) (by omega) (by omega) ?_
                        exact hj46 q32.2.2 H locs ls (lv_sub hl [0, 1, 2, 3] rfl) hW hS hf
                      have hf := (op_if hf).2 k1333
                      refine lv_aload_n hx hb dL_refuses_1336 rfl (lv_at hl 3 rfl) ?_
                      refine lv_iload hx hb dL_refuses_1337 (lv_at hl 2 rfl) ?_
                      refine lv_iload hx hb dL_refuses_1339 (lv_at hl 0 rfl) ?_
                      obtain ⟨M47, eM47, hf⟩ := op_st hf
                      refine g_callW (As := [.ref a_1, .int x18, .int q32.2.1]) (rest := []) ⟨hx, hb, hml, hown, hts⟩ (aL_stick l hl0 Γ a_1 q32.2.2 (nC Γ qn I :: X) x18 q32.2.1) (vx_cwSW 3 hts gL_refuses_L_stick rfl rfl rfl (by decide +kernel) ⟨Nat.le_of_ble_eq_true rfl, Nat.le_of_ble_eq_true rfl⟩) hKK hKX hKY hKN hW hS rfl hl.1 rfl (Nat.le_of_ble_eq_true rfl) dL_refuses_1341 ⟨(by show _ + _ ≤ 143; omega), (by show _ + _ ≤ 6656; omega)⟩ (fun H locs hW hS => ?_)
                      rw [← eM47] at hW
                      refine lv_ldc hx hb hown (hts (.constant RL 18 (-2000000003)) (List.mem_of_getElem? (i := 4) rfl)) dL_refuses_1344 ?_
                      refine lv_icmp_ne (tgt := 1353) hx hb dL_refuses_1346 (by decide) (fun k1346 => ?_) (fun k1346 => ?_)
                      · have hf := (op_if hf).2 k1346
                        refine lv_iconst (v := (0)) hx hb dL_refuses_1353 (by decide) ?_
                        refine W.widen (k := (cv38 + 2)) (n := (sv39 + 12)) (by omega) (by omega) ?_
                        exact hj42 (0 : Int32) M47 H locs ls (lv_sub hl [0, 1, 2, 3] rfl) hW hS hf
                      have hf := (op_if hf).1 k1346
                      refine W.widen (k := (cv38 + 2)) (n := (sv39 + 12)) (by omega) (by omega) ?_
                      exact hj46 M47 H locs ls (lv_sub hl [0, 1, 2, 3] rfl) hW hS hf
                  rw [eq320] at hf
                  refine W.widen (k := 125) (n := 6548) (by omega) (by omega) ?_
                  exact hw34 9 (y28, x31, M29) H locs ls 125 6548 (by omega) (by omega) (lv_sub hl [0, 1, 2, 3, 4] rfl) hW hS hf
                obtain ⟨j48, ej48, hf⟩ := op_st hf
                have hj48 : ∀ (u_ : Unit) (H : Heap) (locs : List Loc) (ls : Array Slot), lv_has ls 12 [(7, .int x27), (9, .int x19), (8, .int x18), (0, .ref a_1)] → (TW Γ a_1 M25 (nC Γ qn I :: X)) H → va_S (zA Γ) s.heap H locs → j48 () = some y → W p l e (headSpec wsL_refuses rmL_refuses).room s m args below meth c H locs 110 3839 (MQ below (GQ Γ (TW Γ a_1 y.2 (nC Γ qn I :: X)) (some (.int y.1))) args s 143 6656 (zA Γ)) (F0 m 1241 ls []) := by
                  intro u_ H locs ls hl hW hS hf
                  rw [ej48] at hf
                  refine lv_iload hx hb dL_refuses_1241 (lv_at hl 0 rfl) ?_
                  refine lv_if_eq (tgt := 1310) hx hb dL_refuses_1243 (by decide) (fun k1243 => ?_) (fun k1243 => ?_)
                  · have hf := (op_if hf).1 k1243
                    refine W.widen (k := 125) (n := 6548) (by omega) (by omega) ?_
                    exact hj30 x27 M25 H locs ls (lv_sub hl [1, 2, 3, 0] rfl) hW hS hf
                  have hf := (op_if hf).2 k1243
                  refine lv_aload_n hx hb dL_refuses_1246 rfl (lv_at hl 3 rfl) ?_
                  refine lv_iload hx hb dL_refuses_1247 (lv_at hl 2 rfl) ?_
                  refine lv_iconst (v := (0)) hx hb dL_refuses_1249 (by decide) ?_
                  refine lv_iconst (v := (0)) hx hb dL_refuses_1250 (by decide) ?_
                  refine lv_iconst (v := (0)) hx hb dL_refuses_1251 (by decide) ?_
                  obtain ⟨M49, eM49, hf⟩ := op_st hf
                  refine g_callW (As := [.ref a_1, .int x18, .int (0 : Int32), .int (0 : Int32), .int (0 : Int32)]) (rest := []) ⟨hx, hb, hml, hown, hts⟩ (aL_shoot l hl0 Γ a_1 M25 (nC Γ qn I :: X) x18 (0 : Int32) (0 : Int32) (0 : Int32)) (vx_cwSW 5 hts gL_refuses_L_shoot rfl rfl rfl (by decide +kernel) ⟨Nat.le_of_ble_eq_true rfl, Nat.le_of_ble_eq_true rfl⟩) hKK hKX hKY hKN hW hS rfl hl.1 rfl (Nat.le_of_ble_eq_true rfl) dL_refuses_1252 ⟨(by show _ + _ ≤ 143; omega), (by show _ + _ ≤ 6656; omega)⟩ (fun H locs hW hS => ?_)
                  rw [← eM49] at hW
                  refine lv_ldc hx hb hown (hts (.constant RL 18 (-2000000003)) (List.mem_of_getElem? (i := 4) rfl)) dL_refuses_1255 ?_
                  obtain ⟨j52, ej52, hf⟩ := op_st hf
                  have hj52 : ∀ (y50 : Int32) (M51 : zMs) (H : Heap) (locs : List Loc) (ls : Array Slot), lv_has ls 12 [(9, .int x19), (8, .int x18), (0, .ref a_1)] → (TW Γ a_1 M51 (nC Γ qn I :: X)) H → va_S (zA Γ) s.heap H locs → j52 y50 M51 = some y → W p l e (headSpec wsL_refuses rmL_refuses).room s m args below meth c H locs 122 6530 (MQ below (GQ Γ (TW Γ a_1 y.2 (nC Γ qn I :: X)) (some (.int y.1))) args s 143 6656 (zA Γ)) (F0 m 1308 ls [.int y50]) := by
                    intro y50 M51 H locs ls hl hW hS hf
                    rw [ej52] at hf
                    obtain ⟨x53, ex53, hf⟩ := op_st hf
                    refine z_ist (lv' := [(7, .int x53), (9, .int x19), (8, .int x18), (0, .ref a_1)]) ex53 hx hb dL_refuses_1308 hl (by decide) rfl (fun ls hl => ?_)
                    refine W.widen (k := 125) (n := 6548) (by omega) (by omega) ?_
                    exact hj30 x53 M51 H locs ls (lv_sub hl [1, 2, 3, 0] rfl) hW hS hf
                  obtain ⟨j55, ej55, hf⟩ := op_st hf
                  have hj55 : ∀ (M54 : zMs) (H : Heap) (locs : List Loc) (ls : Array Slot), lv_has ls 12 [(9, .int x19), (8, .int x18), (0, .ref a_1)] → (TW Γ a_1 M54 (nC Γ qn I :: X)) H → va_S (zA Γ) s.heap H locs → j55 M54 = some y → W p l e (headSpec wsL_refuses rmL_refuses).room s m args below meth c H locs 122 6530 (MQ below (GQ Γ (TW Γ a_1 y.2 (nC Γ qn I :: X)) (some (.int y.1))) args s 143 6656 (zA Γ)) (F0 m 1307 ls []) := by
                    intro M54 H locs ls hl hW hS hf
                    rw [ej55] at hf
                    refine lv_iconst (v := (0)) hx hb dL_refuses_1307 (by decide) ?_
                    refine W.widen (k := 122) (n := 6530) (by omega) (by omega) ?_
                    exact hj52 (0 : Int32) M54 H locs ls (lv_sub hl [0, 1, 2] rfl) hW hS hf
                  refine lv_icmp_ne (tgt := 1307) hx hb dL_refuses_1257 (by decide) (fun k1257 => ?_) (fun k1257 => ?_)
                  · have hf := (op_if hf).2 k1257
                    refine W.widen (k := 122) (n := 6530) (by omega) (by omega) ?_
                    exact hj55 M49 H locs ls (lv_sub hl [1, 2, 3] rfl) hW hS hf
                  have hf := (op_if hf).1 k1257
                  refine lv_iload hx hb dL_refuses_1260 (lv_at hl 1 rfl) ?_
                  refine lv_bipush (v := (8)) hx hb dL_refuses_1262 (by decide) ?_
                  obtain ⟨j57, ej57, hf⟩ := op_st hf
                  have hj57 : ∀ (M56 : zMs) (H : Heap) (locs : List Loc) (ls : Array Slot), lv_has ls 12 [(9, .int x19), (8, .int x18), (0, .ref a_1)] → (TW Γ a_1 M56 (nC Γ qn I :: X)) H → va_S (zA Γ) s.heap H locs → j57 M56 = some y → W p l e (headSpec wsL_refuses rmL_refuses).room s m args below meth c H locs 113 3916 (MQ below (GQ Γ (TW Γ a_1 y.2 (nC Γ qn I :: X)) (some (.int y.1))) args s 143 6656 (zA Γ)) (F0 m 1283 ls []) := by
                    intro M56 H locs ls hl hW hS hf
                    rw [ej57] at hf
                    refine lv_aload_n hx hb dL_refuses_1283 rfl (lv_at hl 2 rfl) ?_
                    obtain ⟨fs_, hr_⟩ := (tw_r hW)
                    refine g_callV (As := []) (rest := []) ⟨hx, hb, hml, hown, hts⟩ (aX_games l Γ a_1 M56 (nC Γ qn I :: X) ) (cwV 0 hts gL_refuses_X9_games rfl rfl rfl (by decide +kernel) ⟨Nat.le_of_ble_eq_true rfl, Nat.le_of_ble_eq_true rfl⟩) hr_ rfl hKK hKX hKY hKN hW hS rfl hl.1 rfl (Nat.le_of_ble_eq_true rfl) dL_refuses_1284 ⟨(by show _ + _ ≤ 143; omega), (by show _ + _ ≤ 6656; omega)⟩ (fun H locs hW hS => ?_)
                    refine lv_bipush (v := (40)) hx hb dL_refuses_1287 (by decide) ?_
                    obtain ⟨j59, ej59, hf⟩ := op_st hf
                    have hj59 : ∀ (M58 : zMs) (H : Heap) (locs : List Loc) (ls : Array Slot), lv_has ls 12 [(9, .int x19), (8, .int x18), (0, .ref a_1)] → (TW Γ a_1 M58 (nC Γ qn I :: X)) H → va_S (zA Γ) s.heap H locs → j59 M58 = some y → W p l e (headSpec wsL_refuses rmL_refuses).room s m args below meth c H locs 122 6530 (MQ below (GQ Γ (TW Γ a_1 y.2 (nC Γ qn I :: X)) (some (.int y.1))) args s 143 6656 (zA Γ)) (F0 m 1303 ls []) := by
                      intro M58 H locs ls hl hW hS hf
                      rw [ej59] at hf
                      refine lv_iconst (v := (1)) hx hb dL_refuses_1303 (by decide) ?_
                      refine lv_goto (tgt := 1308) hx hb dL_refuses_1304 (by decide) ?_
                      refine W.widen (k := 122) (n := 6530) (by omega) (by omega) ?_
                      exact hj52 (1 : Int32) M58 H locs ls (lv_sub hl [0, 1, 2] rfl) hW hS hf
                    refine lv_icmp_lt (tgt := 1303) hx hb dL_refuses_1289 (by decide) (fun k1289 => ?_) (fun k1289 => ?_)
                    · have hf := (op_if hf).1 k1289
                      refine W.widen (k := 122) (n := 6530) (by omega) (by omega) ?_
                      exact hj59 M56 H locs ls (lv_sub hl [0, 1, 2] rfl) hW hS hf
                    have hf := (op_if hf).2 k1289
                    refine lv_aload_n hx hb dL_refuses_1292 rfl (lv_at hl 2 rfl) ?_
                    refine lv_iload hx hb dL_refuses_1293 (lv_at hl 1 rfl) ?_
                    obtain ⟨M60, eM60, hf⟩ := op_st hf
                    refine g_callW (As := [.ref a_1, .int x18]) (rest := []) ⟨hx, hb, hml, hown, hts⟩ (aL_coin l hl0 Γ a_1 M56 (nC Γ qn I :: X) x18) (vx_cwSW 2 hts gL_refuses_L_coin rfl rfl rfl (by decide +kernel) ⟨Nat.le_of_ble_eq_true rfl, Nat.le_of_ble_eq_true rfl⟩) hKK hKX hKY hKN hW hS rfl hl.1 rfl (Nat.le_of_ble_eq_true rfl) dL_refuses_1295 ⟨(by show _ + _ ≤ 143; omega), (by show _ + _ ≤ 6656; omega)⟩ (fun H locs hW hS => ?_)
                    rw [← eM60] at hW
                    refine lv_ldc hx hb hown (hts (.constant RL 18 (-2000000003)) (List.mem_of_getElem? (i := 4) rfl)) dL_refuses_1298 ?_
                    refine lv_icmp_ne (tgt := 1307) hx hb dL_refuses_1300 (by decide) (fun k1300 => ?_) (fun k1300 => ?_)
                    · have hf := (op_if hf).2 k1300
                      refine W.widen (k := 122) (n := 6530) (by omega) (by omega) ?_
                      exact hj55 M60 H locs ls (lv_sub hl [0, 1, 2] rfl) hW hS hf
                    have hf := (op_if hf).1 k1300
                    refine W.widen (k := 122) (n := 6530) (by omega) (by omega) ?_
                    exact hj59 M60 H locs ls (lv_sub hl [0, 1, 2] rfl) hW hS hf
                  refine lv_icmp_lt (tgt := 1283) hx hb dL_refuses_1264 (by decide) (fun k1264 => ?_) (fun k1264 => ?_)
                  · have hf := (op_if hf).1 k1264
                    refine W.widen (k := 113) (n := 3916) (by omega) (by omega) ?_
                    exact hj57 M49 H locs ls (lv_sub hl [1, 2, 3] rfl) hW hS hf
                  have hf := (op_if hf).2 k1264
                  refine lv_aload_n hx hb dL_refuses_1267 rfl (lv_at hl 3 rfl) ?_
                  refine lv_iload hx hb dL_refuses_1268 (lv_at hl 2 rfl) ?_
                  refine lv_iconst (v := (0)) hx hb dL_refuses_1270 (by decide) ?_
                  refine lv_iconst (v := (0)) hx hb dL_refuses_1271 (by decide) ?_
                  refine lv_bipush (v := (101)) hx hb dL_refuses_1272 (by decide) ?_
                  refine lv_iconst (v := (0)) hx hb dL_refuses_1274 (by decide) ?_
                  obtain ⟨M61, eM61, hf⟩ := op_st hf
                  refine g_callW (As := [.ref a_1, .int x18, .int (0 : Int32), .int (0 : Int32), .int (101 : Int32), .int (0 : Int32)]) (rest := []) ⟨hx, hb, hml, hown, hts⟩ (aL_bumpers l hl0 Γ a_1 M49 (nC Γ qn I :: X) x18 (0 : Int32) (0 : Int32) (101 : Int32) (0 : Int32)) (vx_cwSW 6 hts gL_refuses_L_bumpers rfl rfl rfl (by decide +kernel) ⟨Nat.le_of_ble_eq_true rfl, Nat.le_of_ble_eq_true rfl⟩) hKK hKX hKY hKN hW hS rfl hl.1 rfl (Nat.le_of_ble_eq_true rfl) dL_refuses_1275 ⟨(by show _ + _ ≤ 143; omega), (by show _ + _ ≤ 6656; omega)⟩ (fun H locs hW hS => ?_)
                  rw [← eM61] at hW
                  refine lv_ldc hx hb hown (hts (.constant RL 18 (-2000000003)) (List.mem_of_getElem? (i := 4) rfl)) dL_refuses_1278 ?_
                  refine lv_icmp_ne (tgt := 1307) hx hb dL_refuses_1280 (by decide) (fun k1280 => ?_) (fun k1280 => ?_)
                  · have hf := (op_if hf).2 k1280
                    refine W.widen (k := 122) (n := 6530) (by omega) (by omega) ?_
                    exact hj55 M61 H locs ls (lv_sub hl [1, 2, 3] rfl) hW hS hf
                  have hf := (op_if hf).1 k1280
                  refine W.widen (k := 113) (n := 3916) (by omega) (by omega) ?_
                  exact hj57 M61 H locs ls (lv_sub hl [1, 2, 3] rfl) hW hS hf
                refine lv_if_eq (tgt := 1241) hx hb dL_refuses_1144 (by decide) (fun k1144 => ?_) (fun k1144 => ?_)
                · have hf := (op_if hf).1 k1144
                  refine W.widen (k := 110) (n := 3839) (by omega) (by omega) ?_
                  exact hj48 () H locs ls (lv_sub hl [0, 1, 2, 3] rfl) hW hS hf
                have hf := (op_if hf).2 k1144
                refine lv_aload_n hx hb dL_refuses_1147 rfl (lv_at hl 3 rfl) ?_
                refine lv_iload hx hb dL_refuses_1148 (lv_at hl 2 rfl) ?_
                refine g_callW (As := [.ref a_1, .int x18]) (rest := []) ⟨hx, hb, hml, hown, hts⟩ (aL_gameAt l hl0 Γ a_1 M25 (nC Γ qn I :: X) x18) (vx_cwSW 2 hts gL_refuses_L_gameAt rfl rfl rfl (by decide +kernel) ⟨Nat.le_of_ble_eq_true rfl, Nat.le_of_ble_eq_true rfl⟩) hKK hKX hKY hKN hW hS rfl hl.1 rfl (Nat.le_of_ble_eq_true rfl) dL_refuses_1150 ⟨(by show _ + _ ≤ 143; omega), (by show _ + _ ≤ 6656; omega)⟩ (fun H locs hW hS => ?_)
                refine lv_if_lt (tgt := 1241) hx hb dL_refuses_1153 (by decide) (fun k1153 => ?_) (fun k1153 => ?_)
                · have hf := (op_if hf).1 k1153
                  refine W.widen (k := 110) (n := 3839) (by omega) (by omega) ?_
                  exact hj48 () H locs ls (lv_sub hl [0, 1, 2, 3] rfl) hW hS hf
                have hf := (op_if hf).2 k1153
                refine lv_aload_n hx hb dL_refuses_1156 rfl (lv_at hl 3 rfl) ?_
                refine lv_iload hx hb dL_refuses_1157 (lv_at hl 2 rfl) ?_
                obtain ⟨M62, eM62, hf⟩ := op_st hf
                refine g_callW (As := [.ref a_1, .int x18]) (rest := []) ⟨hx, hb, hml, hown, hts⟩ (aL_coin l hl0 Γ a_1 M25 (nC Γ qn I :: X) x18) (vx_cwSW 2 hts gL_refuses_L_coin rfl rfl rfl (by decide +kernel) ⟨Nat.le_of_ble_eq_true rfl, Nat.le_of_ble_eq_true rfl⟩) hKK hKX hKY hKN hW hS rfl hl.1 rfl (Nat.le_of_ble_eq_true rfl) dL_refuses_1159 ⟨(by show _ + _ ≤ 143; omega), (by show _ + _ ≤ 6656; omega)⟩ (fun H locs hW hS => ?_)
                rw [← eM62] at hW
                refine lv_ldc hx hb hown (hts (.constant RL 18 (-2000000003)) (List.mem_of_getElem? (i := 4) rfl)) dL_refuses_1162 ?_
                obtain ⟨j65, ej65, hf⟩ := op_st hf
                have hj65 : ∀ (y63 : Int32) (M64 : zMs) (H : Heap) (locs : List Loc) (ls : Array Slot), lv_has ls 12 [(9, .int x19), (8, .int x18), (0, .ref a_1)] → (TW Γ a_1 M64 (nC Γ qn I :: X)) H → va_S (zA Γ) s.heap H locs → j65 y63 M64 = some y → W p l e (headSpec wsL_refuses rmL_refuses).room s m args below meth c H locs 125 6548 (MQ below (GQ Γ (TW Γ a_1 y.2 (nC Γ qn I :: X)) (some (.int y.1))) args s 143 6656 (zA Γ)) (F0 m 1236 ls [.int y63]) := by
                  intro y63 M64 H locs ls hl hW hS hf
                  rw [ej65] at hf
                  obtain ⟨x66, ex66, hf⟩ := op_st hf
                  refine z_ist (lv' := [(7, .int x66), (9, .int x19), (8, .int x18), (0, .ref a_1)]) ex66 hx hb dL_refuses_1236 hl (by decide) rfl (fun ls hl => ?_)
                  refine lv_goto (tgt := 1310) hx hb dL_refuses_1238 (by decide) ?_
                  refine W.widen (k := 125) (n := 6548) (by omega) (by omega) ?_
                  exact hj30 x66 M64 H locs ls (lv_sub hl [1, 2, 3, 0] rfl) hW hS hf
                obtain ⟨j68, ej68, hf⟩ := op_st hf
                have hj68 : ∀ (M67 : zMs) (H : Heap) (locs : List Loc) (ls : Array Slot), lv_has ls 12 [(9, .int x19), (8, .int x18), (0, .ref a_1)] → (TW Γ a_1 M67 (nC Γ qn I :: X)) H → va_S (zA Γ) s.heap H locs → j68 M67 = some y → W p l e (headSpec wsL_refuses rmL_refuses).room s m args below meth c H locs 125 6548 (MQ below (GQ Γ (TW Γ a_1 y.2 (nC Γ qn I :: X)) (some (.int y.1))) args s 143 6656 (zA Γ)) (F0 m 1235 ls []) := by
                  intro M67 H locs ls hl hW hS hf
                  rw [ej68] at hf
                  refine lv_iconst (v := (0)) hx hb dL_refuses_1235 (by decide) ?_
                  refine W.widen (k := 125) (n := 6548) (by omega) (by omega) ?_
                  exact hj65 (0 : Int32) M67 H locs ls (lv_sub hl [0, 1, 2] rfl) hW hS hf
                refine lv_icmp_ne (tgt := 1235) hx hb dL_refuses_1164 (by decide) (fun k1164 => ?_) (fun k1164 => ?_)
                · have hf := (op_if hf).2 k1164
                  refine W.widen (k := 125) (n := 6548) (by omega) (by omega) ?_
                  exact hj68 M62 H locs ls (lv_sub hl [1, 2, 3] rfl) hW hS hf
                have hf := (op_if hf).1 k1164
                refine lv_aload_n hx hb dL_refuses_1167 rfl (lv_at hl 3 rfl) ?_
                refine lv_iload hx hb dL_refuses_1168 (lv_at hl 2 rfl) ?_
                refine lv_iconst (v := (0)) hx hb dL_refuses_1170 (by decide) ?_
                refine lv_iconst (v := (0)) hx hb dL_refuses_1171 (by decide) ?_
                refine lv_bipush (v := (101)) hx hb dL_refuses_1172 (by decide) ?_
                refine lv_iconst (v := (0)) hx hb dL_refuses_1174 (by decide) ?_
                obtain ⟨M69, eM69, hf⟩ := op_st hf
                refine g_callW (As := [.ref a_1, .int x18, .int (0 : Int32), .int (0 : Int32), .int (101 : Int32), .int (0 : Int32)]) (rest := []) ⟨hx, hb, hml, hown, hts⟩ (aL_bumpers l hl0 Γ a_1 M62 (nC Γ qn I :: X) x18 (0 : Int32) (0 : Int32) (101 : Int32) (0 : Int32)) (vx_cwSW 6 hts gL_refuses_L_bumpers rfl rfl rfl (by decide +kernel) ⟨Nat.le_of_ble_eq_true rfl, Nat.le_of_ble_eq_true rfl⟩) hKK hKX hKY hKN hW hS rfl hl.1 rfl (Nat.le_of_ble_eq_true rfl) dL_refuses_1175 ⟨(by show _ + _ ≤ 143; omega), (by show _ + _ ≤ 6656; omega)⟩ (fun H locs hW hS => ?_)
                rw [← eM69] at hW
                refine lv_ldc hx hb hown (hts (.constant RL 18 (-2000000003)) (List.mem_of_getElem? (i := 4) rfl)) dL_refuses_1178 ?_
                refine lv_icmp_ne (tgt := 1235) hx hb dL_refuses_1180 (by decide) (fun k1180 => ?_) (fun k1180 => ?_)
                · have hf := (op_if hf).2 k1180
                  refine W.widen (k := 125) (n := 6548) (by omega) (by omega) ?_
                  exact hj68 M69 H locs ls (lv_sub hl [1, 2, 3] rfl) hW hS hf
                have hf := (op_if hf).1 k1180
                refine lv_aload_n hx hb dL_refuses_1183 rfl (lv_at hl 3 rfl) ?_
                refine lv_iload hx hb dL_refuses_1184 (lv_at hl 2 rfl) ?_
                refine lv_iconst (v := (0)) hx hb dL_refuses_1186 (by decide) ?_
                refine lv_iconst (v := (-1)) hx hb dL_refuses_1187 (by decide) ?_
                refine lv_bipush (v := (102)) hx hb dL_refuses_1188 (by decide) ?_
                refine lv_iconst (v := (0)) hx hb dL_refuses_1190 (by decide) ?_
                obtain ⟨M70, eM70, hf⟩ := op_st hf
                refine g_callW (As := [.ref a_1, .int x18, .int (0 : Int32), .int (-1 : Int32), .int (102 : Int32), .int (0 : Int32)]) (rest := []) ⟨hx, hb, hml, hown, hts⟩ (aL_modes l hl0 Γ a_1 M69 (nC Γ qn I :: X) x18 (0 : Int32) (-1 : Int32) (102 : Int32) (0 : Int32)) (vx_cwSW 6 hts gL_refuses_L_modes rfl rfl rfl (by decide +kernel) ⟨Nat.le_of_ble_eq_true rfl, Nat.le_of_ble_eq_true rfl⟩) hKK hKX hKY hKN hW hS rfl hl.1 rfl (Nat.le_of_ble_eq_true rfl) dL_refuses_1191 ⟨(by show _ + _ ≤ 143; omega), (by show _ + _ ≤ 6656; omega)⟩ (fun H locs hW hS => ?_)
                rw [← eM70] at hW
                refine lv_ldc hx hb hown (hts (.constant RL 18 (-2000000003)) (List.mem_of_getElem? (i := 4) rfl)) dL_refuses_1194 ?_
                refine lv_icmp_ne (tgt := 1235) hx hb dL_refuses_1196 (by decide) (fun k1196 => ?_) (fun k1196 => ?_)
                · have hf := (op_if hf).2 k1196
                  refine W.widen (k := 125) (n := 6548) (by omega) (by omega) ?_
                  exact hj68 M70 H locs ls (lv_sub hl [1, 2, 3] rfl) hW hS hf
                have hf := (op_if hf).1 k1196
                refine lv_iload hx hb dL_refuses_1199 (lv_at hl 1 rfl) ?_
                obtain ⟨j72, ej72, hf⟩ := op_st hf
                have hj72 : ∀ (M71 : zMs) (H : Heap) (locs : List Loc) (ls : Array Slot), lv_has ls 12 [(9, .int x19), (8, .int x18), (0, .ref a_1)] → (TW Γ a_1 M71 (nC Γ qn I :: X)) H → va_S (zA Γ) s.heap H locs → j72 M71 = some y → W p l e (headSpec wsL_refuses rmL_refuses).room s m args below meth c H locs 123 6536 (MQ below (GQ Γ (TW Γ a_1 y.2 (nC Γ qn I :: X)) (some (.int y.1))) args s 143 6656 (zA Γ)) (F0 m 1217 ls []) := by
                  intro M71 H locs ls hl hW hS hf
                  rw [ej72] at hf
                  refine lv_aload_n hx hb dL_refuses_1217 rfl (lv_at hl 2 rfl) ?_
                  refine lv_aload_n hx hb dL_refuses_1218 rfl (lv_at hl 2 rfl) ?_
                  refine lv_iload hx hb dL_refuses_1219 (lv_at hl 1 rfl) ?_
                  refine g_callW (As := [.ref a_1, .int x18]) (rest := [.ref a_1]) ⟨hx, hb, hml, hown, hts⟩ (aL_gameAt l hl0 Γ a_1 M71 (nC Γ qn I :: X) x18) (vx_cwSW 2 hts gL_refuses_L_gameAt rfl rfl rfl (by decide +kernel) ⟨Nat.le_of_ble_eq_true rfl, Nat.le_of_ble_eq_true rfl⟩) hKK hKX hKY hKN hW hS rfl hl.1 rfl (Nat.le_of_ble_eq_true rfl) dL_refuses_1221 ⟨(by show _ + _ ≤ 143; omega), (by show _ + _ ≤ 6656; omega)⟩ (fun H locs hW hS => ?_)
                  refine g_callW (As := [.ref a_1, .int (A_gameAt M71 x18)]) (rest := []) ⟨hx, hb, hml, hown, hts⟩ (aL_twin l hl0 Γ a_1 M71 (nC Γ qn I :: X) (A_gameAt M71 x18)) (vx_cwSW 2 hts gL_refuses_L_twin rfl rfl rfl (by decide +kernel) ⟨Nat.le_of_ble_eq_true rfl, Nat.le_of_ble_eq_true rfl⟩) hKK hKX hKY hKN hW hS rfl hl.1 rfl (Nat.le_of_ble_eq_true rfl) dL_refuses_1224 ⟨(by show _ + _ ≤ 143; omega), (by show _ + _ ≤ 6656; omega)⟩ (fun H locs hW hS => ?_)
                  refine lv_iconst (v := (-1)) hx hb dL_refuses_1227 (by decide) ?_
                  refine lv_icmp_ne (tgt := 1235) hx hb dL_refuses_1228 (by decide) (fun k1228 => ?_) (fun k1228 => ?_)
                  · have hf := (op_if hf).2 k1228
                    refine W.widen (k := 125) (n := 6548) (by omega) (by omega) ?_
                    exact hj68 M71 H locs ls (lv_sub hl [0, 1, 2] rfl) hW hS hf
                  have hf := (op_if hf).1 k1228
                  refine lv_iconst (v := (1)) hx hb dL_refuses_1231 (by decide) ?_
                  refine lv_goto (tgt := 1236) hx hb dL_refuses_1232 (by decide) ?_
                  refine W.widen (k := 125) (n := 6548) (by omega) (by omega) ?_
                  exact hj65 (1 : Int32) M71 H locs ls (lv_sub hl [0, 1, 2] rfl) hW hS hf
                refine lv_if_eq (tgt := 1217) hx hb dL_refuses_1201 (by decide) (fun k1201 => ?_) (fun k1201 => ?_)
                · have hf := (op_if hf).1 k1201
                  refine W.widen (k := 123) (n := 6536) (by omega) (by omega) ?_
                  exact hj72 M70 H locs ls (lv_sub hl [1, 2, 3] rfl) hW hS hf
                have hf := (op_if hf).2 k1201
                refine lv_aload_n hx hb dL_refuses_1204 rfl (lv_at hl 3 rfl) ?_
                refine lv_iload hx hb dL_refuses_1205 (lv_at hl 2 rfl) ?_
                refine lv_iconst (v := (0)) hx hb dL_refuses_1207 (by decide) ?_
                refine lv_iconst (v := (5)) hx hb dL_refuses_1208 (by decide) ?_
                obtain ⟨M73, eM73, hf⟩ := op_st hf
                refine g_callW (As := [.ref a_1, .int x18, .int (0 : Int32), .int (5 : Int32)]) (rest := []) ⟨hx, hb, hml, hown, hts⟩ (aL_points l hl0 Γ a_1 M70 (nC Γ qn I :: X) x18 (0 : Int32) (5 : Int32)) (vx_cwSW 4 hts gL_refuses_L_points rfl rfl rfl (by decide +kernel) ⟨Nat.le_of_ble_eq_true rfl, Nat.le_of_ble_eq_true rfl⟩) hKK hKX hKY hKN hW hS rfl hl.1 rfl (Nat.le_of_ble_eq_true rfl) dL_refuses_1209 ⟨(by show _ + _ ≤ 143; omega), (by show _ + _ ≤ 6656; omega)⟩ (fun H locs hW hS => ?_)
                rw [← eM73] at hW
                refine lv_ldc hx hb hown (hts (.constant RL 18 (-2000000003)) (List.mem_of_getElem? (i := 4) rfl)) dL_refuses_1212 ?_
                refine lv_icmp_ne (tgt := 1235) hx hb dL_refuses_1214 (by decide) (fun k1214 => ?_) (fun k1214 => ?_)
                · have hf := (op_if hf).2 k1214
                  refine W.widen (k := 125) (n := 6548) (by omega) (by omega) ?_
                  exact hj68 M73 H locs ls (lv_sub hl [1, 2, 3] rfl) hW hS hf
                have hf := (op_if hf).1 k1214
                refine W.widen (k := 123) (n := 6536) (by omega) (by omega) ?_
                exact hj72 M73 H locs ls (lv_sub hl [1, 2, 3] rfl) hW hS hf
              obtain ⟨j75, ej75, hf⟩ := op_st hf
              have hj75 : ∀ (M74 : zMs) (H : Heap) (locs : List Loc) (ls : Array Slot), lv_has ls 12 [(9, .int x19), (8, .int x18), (0, .ref a_1)] → (TW Γ a_1 M74 (nC Γ qn I :: X)) H → va_S (zA Γ) s.heap H locs → j75 M74 = some y → W p l e (headSpec wsL_refuses rmL_refuses).room s m args below meth c H locs 109 3833 (MQ below (GQ Γ (TW Γ a_1 y.2 (nC Γ qn I :: X)) (some (.int y.1))) args s 143 6656 (zA Γ)) (F0 m 1139 ls []) := by
                intro M74 H locs ls hl hW hS hf
                rw [ej75] at hf
                refine lv_iconst (v := (0)) hx hb dL_refuses_1139 (by decide) ?_
                refine W.widen (k := 109) (n := 3833) (by omega) (by omega) ?_
                exact hj26 (0 : Int32) M74 H locs ls (lv_sub hl [0, 1, 2] rfl) hW hS hf
              refine lv_icmp_ne (tgt := 1139) hx hb dL_refuses_762 (by decide) (fun k762 => ?_) (fun k762 => ?_)
              · have hf := (op_if hf).2 k762
                refine W.widen (k := 109) (n := 3833) (by omega) (by omega) ?_
                exact hj75 M23 H locs ls (lv_sub hl [1, 2, 3] rfl) hW hS hf
              have hf := (op_if hf).1 k762
              refine lv_aload_n hx hb dL_refuses_765 rfl (lv_at hl 3 rfl) ?_
              refine lv_iload hx hb dL_refuses_766 (lv_at hl 2 rfl) ?_
              refine lv_iconst (v := (0)) hx hb dL_refuses_768 (by decide) ?_
              refine lv_sipush (v := (240)) hx hb dL_refuses_769 (by decide) ?_
              refine lv_iload_n hx hb dL_refuses_772 rfl (lv_at hl 4 rfl) ?_
              refine lv_iadd hx hb dL_refuses_773 ?_
              refine lv_bipush (v := (101)) hx hb dL_refuses_774 (by decide) ?_
              refine lv_iconst (v := (0)) hx hb dL_refuses_776 (by decide) ?_
              obtain ⟨M76, eM76, hf⟩ := op_st hf
              refine g_callW (As := [.ref a_1, .int x18, .int (0 : Int32), .int ((240 : Int32) + i_3), .int (101 : Int32), .int (0 : Int32)]) (rest := []) ⟨hx, hb, hml, hown, hts⟩ (aL_bumpers l hl0 Γ a_1 M23 (nC Γ qn I :: X) x18 (0 : Int32) ((240 : Int32) + i_3) (101 : Int32) (0 : Int32)) (vx_cwSW 6 hts gL_refuses_L_bumpers rfl rfl rfl (by decide +kernel) ⟨Nat.le_of_ble_eq_true rfl, Nat.le_of_ble_eq_true rfl⟩) hKK hKX hKY hKN hW hS rfl hl.1 rfl (Nat.le_of_ble_eq_true rfl) dL_refuses_777 ⟨(by show _ + _ ≤ 143; omega), (by show _ + _ ≤ 6656; omega)⟩ (fun H locs hW hS => ?_)
              rw [← eM76] at hW
              refine lv_ldc hx hb hown (hts (.constant RL 15 (-2000000002)) (List.mem_of_getElem? (i := 1) rfl)) dL_refuses_780 ?_
              refine lv_icmp_ne (tgt := 1139) hx hb dL_refuses_782 (by decide) (fun k782 => ?_) (fun k782 => ?_)
              · have hf := (op_if hf).2 k782
                refine W.widen (k := 109) (n := 3833) (by omega) (by omega) ?_
                exact hj75 M76 H locs ls (lv_sub hl [1, 2, 3] rfl) hW hS hf
              have hf := (op_if hf).1 k782
              refine lv_aload_n hx hb dL_refuses_785 rfl (lv_at hl 3 rfl) ?_
              refine lv_iload hx hb dL_refuses_786 (lv_at hl 2 rfl) ?_
              refine lv_iconst (v := (0)) hx hb dL_refuses_788 (by decide) ?_
              refine lv_iconst (v := (0)) hx hb dL_refuses_789 (by decide) ?_
              refine lv_sipush (v := (6200)) hx hb dL_refuses_790 (by decide) ?_
              refine lv_iload_n hx hb dL_refuses_793 rfl (lv_at hl 4 rfl) ?_
              refine lv_iadd hx hb dL_refuses_794 ?_
              refine lv_iconst (v := (0)) hx hb dL_refuses_795 (by decide) ?_
              obtain ⟨M77, eM77, hf⟩ := op_st hf
              refine g_callW (As := [.ref a_1, .int x18, .int (0 : Int32), .int (0 : Int32), .int ((6200 : Int32) + i_3), .int (0 : Int32)]) (rest := []) ⟨hx, hb, hml, hown, hts⟩ (aL_bumpers l hl0 Γ a_1 M76 (nC Γ qn I :: X) x18 (0 : Int32) (0 : Int32) ((6200 : Int32) + i_3) (0 : Int32)) (vx_cwSW 6 hts gL_refuses_L_bumpers rfl rfl rfl (by decide +kernel) ⟨Nat.le_of_ble_eq_true rfl, Nat.le_of_ble_eq_true rfl⟩) hKK hKX hKY hKN hW hS rfl hl.1 rfl (Nat.le_of_ble_eq_true rfl) dL_refuses_796 ⟨(by show _ + _ ≤ 143; omega), (by show _ + _ ≤ 6656; omega)⟩ (fun H locs hW hS => ?_)
              rw [← eM77] at hW
              refine lv_ldc hx hb hown (hts (.constant RL 15 (-2000000002)) (List.mem_of_getElem? (i := 1) rfl)) dL_refuses_799 ?_
              refine lv_icmp_ne (tgt := 1139) hx hb dL_refuses_801 (by decide) (fun k801 => ?_) (fun k801 => ?_)
              · have hf := (op_if hf).2 k801
                refine W.widen (k := 109) (n := 3833) (by omega) (by omega) ?_
                exact hj75 M77 H locs ls (lv_sub hl [1, 2, 3] rfl) hW hS hf
              have hf := (op_if hf).1 k801
              refine lv_aload_n hx hb dL_refuses_804 rfl (lv_at hl 3 rfl) ?_
              refine lv_iload hx hb dL_refuses_805 (lv_at hl 2 rfl) ?_
              refine lv_iconst (v := (0)) hx hb dL_refuses_807 (by decide) ?_
              refine lv_iconst (v := (0)) hx hb dL_refuses_808 (by decide) ?_
              refine lv_bipush (v := (-101)) hx hb dL_refuses_809 (by decide) ?_
              refine lv_iload_n hx hb dL_refuses_811 rfl (lv_at hl 4 rfl) ?_
              refine lv_isub hx hb dL_refuses_812 ?_
              refine lv_iconst (v := (0)) hx hb dL_refuses_813 (by decide) ?_
              obtain ⟨M78, eM78, hf⟩ := op_st hf
              refine g_callW (As := [.ref a_1, .int x18, .int (0 : Int32), .int (0 : Int32), .int ((-101 : Int32) - i_3), .int (0 : Int32)]) (rest := []) ⟨hx, hb, hml, hown, hts⟩ (aL_bumpers l hl0 Γ a_1 M77 (nC Γ qn I :: X) x18 (0 : Int32) (0 : Int32) ((-101 : Int32) - i_3) (0 : Int32)) (vx_cwSW 6 hts gL_refuses_L_bumpers rfl rfl rfl (by decide +kernel) ⟨Nat.le_of_ble_eq_true rfl, Nat.le_of_ble_eq_true rfl⟩) hKK hKX hKY hKN hW hS rfl hl.1 rfl (Nat.le_of_ble_eq_true rfl) dL_refuses_814 ⟨(by show _ + _ ≤ 143; omega), (by show _ + _ ≤ 6656; omega)⟩ (fun H locs hW hS => ?_)
              rw [← eM78] at hW
              refine lv_ldc hx hb hown (hts (.constant RL 15 (-2000000002)) (List.mem_of_getElem? (i := 1) rfl)) dL_refuses_817 ?_
              refine lv_icmp_ne (tgt := 1139) hx hb dL_refuses_819 (by decide) (fun k819 => ?_) (fun k819 => ?_)
              · have hf := (op_if hf).2 k819
                refine W.widen (k := 109) (n := 3833) (by omega) (by omega) ?_
                exact hj75 M78 H locs ls (lv_sub hl [1, 2, 3] rfl) hW hS hf
              have hf := (op_if hf).1 k819
              refine lv_aload_n hx hb dL_refuses_822 rfl (lv_at hl 3 rfl) ?_
              refine lv_iload hx hb dL_refuses_823 (lv_at hl 2 rfl) ?_
              refine lv_iconst (v := (0)) hx hb dL_refuses_825 (by decide) ?_
              refine lv_iconst (v := (0)) hx hb dL_refuses_826 (by decide) ?_
              refine lv_bipush (v := (101)) hx hb dL_refuses_827 (by decide) ?_
              refine lv_bipush (v := (21)) hx hb dL_refuses_829 (by decide) ?_
              refine lv_iload_n hx hb dL_refuses_831 rfl (lv_at hl 4 rfl) ?_
              refine lv_iadd hx hb dL_refuses_832 ?_
              obtain ⟨M79, eM79, hf⟩ := op_st hf
              refine g_callW (As := [.ref a_1, .int x18, .int (0 : Int32), .int (0 : Int32), .int (101 : Int32), .int ((21 : Int32) + i_3)]) (rest := []) ⟨hx, hb, hml, hown, hts⟩ (aL_bumpers l hl0 Γ a_1 M78 (nC Γ qn I :: X) x18 (0 : Int32) (0 : Int32) (101 : Int32) ((21 : Int32) + i_3)) (vx_cwSW 6 hts gL_refuses_L_bumpers rfl rfl rfl (by decide +kernel) ⟨Nat.le_of_ble_eq_true rfl, Nat.le_of_ble_eq_true rfl⟩) hKK hKX hKY hKN hW hS rfl hl.1 rfl (Nat.le_of_ble_eq_true rfl) dL_refuses_833 ⟨(by show _ + _ ≤ 143; omega), (by show _ + _ ≤ 6656; omega)⟩ (fun H locs hW hS => ?_)
              rw [← eM79] at hW
              refine lv_ldc hx hb hown (hts (.constant RL 15 (-2000000002)) (List.mem_of_getElem? (i := 1) rfl)) dL_refuses_836 ?_
              refine lv_icmp_ne (tgt := 1139) hx hb dL_refuses_838 (by decide) (fun k838 => ?_) (fun k838 => ?_)
              · have hf := (op_if hf).2 k838
                refine W.widen (k := 109) (n := 3833) (by omega) (by omega) ?_
                exact hj75 M79 H locs ls (lv_sub hl [1, 2, 3] rfl) hW hS hf
              have hf := (op_if hf).1 k838
              refine lv_aload_n hx hb dL_refuses_841 rfl (lv_at hl 3 rfl) ?_
              refine lv_iload hx hb dL_refuses_842 (lv_at hl 2 rfl) ?_
              refine lv_iload hx hb dL_refuses_844 (lv_at hl 0 rfl) ?_
              refine lv_iconst (v := (5)) hx hb dL_refuses_846 (by decide) ?_
              obtain ⟨M80, eM80, hf⟩ := op_st hf
              refine g_callW (As := [.ref a_1, .int x18, .int x22, .int (5 : Int32)]) (rest := []) ⟨hx, hb, hml, hown, hts⟩ (aL_points l hl0 Γ a_1 M79 (nC Γ qn I :: X) x18 x22 (5 : Int32)) (vx_cwSW 4 hts gL_refuses_L_points rfl rfl rfl (by decide +kernel) ⟨Nat.le_of_ble_eq_true rfl, Nat.le_of_ble_eq_true rfl⟩) hKK hKX hKY hKN hW hS rfl hl.1 rfl (Nat.le_of_ble_eq_true rfl) dL_refuses_847 ⟨(by show _ + _ ≤ 143; omega), (by show _ + _ ≤ 6656; omega)⟩ (fun H locs hW hS => ?_)
              rw [← eM80] at hW
              refine lv_ldc hx hb hown (hts (.constant RL 25 (-2000000001)) (List.mem_of_getElem? (i := 2) rfl)) dL_refuses_850 ?_
              refine lv_icmp_ne (tgt := 1139) hx hb dL_refuses_852 (by decide) (fun k852 => ?_) (fun k852 => ?_)
              · have hf := (op_if hf).2 k852
                refine W.widen (k := 109) (n := 3833) (by omega) (by omega) ?_
                exact hj75 M80 H locs ls (lv_sub hl [1, 2, 3] rfl) hW hS hf
              have hf := (op_if hf).1 k852
              refine lv_aload_n hx hb dL_refuses_855 rfl (lv_at hl 3 rfl) ?_
              refine lv_iload hx hb dL_refuses_856 (lv_at hl 2 rfl) ?_
              refine lv_iconst (v := (4)) hx hb dL_refuses_858 (by decide) ?_
              refine lv_iload_n hx hb dL_refuses_859 rfl (lv_at hl 4 rfl) ?_
              refine lv_iadd hx hb dL_refuses_860 ?_
              refine lv_iconst (v := (-1)) hx hb dL_refuses_861 (by decide) ?_
              refine lv_bipush (v := (102)) hx hb dL_refuses_862 (by decide) ?_
              refine lv_iconst (v := (0)) hx hb dL_refuses_864 (by decide) ?_
              obtain ⟨M81, eM81, hf⟩ := op_st hf
              refine g_callW (As := [.ref a_1, .int x18, .int ((4 : Int32) + i_3), .int (-1 : Int32), .int (102 : Int32), .int (0 : Int32)]) (rest := []) ⟨hx, hb, hml, hown, hts⟩ (aL_modes l hl0 Γ a_1 M80 (nC Γ qn I :: X) x18 ((4 : Int32) + i_3) (-1 : Int32) (102 : Int32) (0 : Int32)) (vx_cwSW 6 hts gL_refuses_L_modes rfl rfl rfl (by decide +kernel) ⟨Nat.le_of_ble_eq_true rfl, Nat.le_of_ble_eq_true rfl⟩) hKK hKX hKY hKN hW hS rfl hl.1 rfl (Nat.le_of_ble_eq_true rfl) dL_refuses_865 ⟨(by show _ + _ ≤ 143; omega), (by show _ + _ ≤ 6656; omega)⟩ (fun H locs hW hS => ?_)
              rw [← eM81] at hW
              refine lv_ldc hx hb hown (hts (.constant RL 25 (-2000000001)) (List.mem_of_getElem? (i := 2) rfl)) dL_refuses_868 ?_
              refine lv_icmp_ne (tgt := 1139) hx hb dL_refuses_870 (by decide) (fun k870 => ?_) (fun k870 => ?_)
              · have hf := (op_if hf).2 k870
                refine W.widen (k := 109) (n := 3833) (by omega) (by omega) ?_
                exact hj75 M81 H locs ls (lv_sub hl [1, 2, 3] rfl) hW hS hf
              have hf := (op_if hf).1 k870
              refine lv_aload_n hx hb dL_refuses_873 rfl (lv_at hl 3 rfl) ?_
              refine lv_iload hx hb dL_refuses_874 (lv_at hl 2 rfl) ?_
              refine lv_iload_n hx hb dL_refuses_876 rfl (lv_at hl 4 rfl) ?_
              refine lv_iconst (v := (4)) hx hb dL_refuses_877 (by decide) ?_
              refine lv_irem hx hb dL_refuses_878 (by decide) ?_
              refine lv_bipush (v := (10)) hx hb dL_refuses_879 (by decide) ?_
              refine lv_iload hx hb dL_refuses_881 (lv_at hl 1 rfl) ?_
              refine lv_imul hx hb dL_refuses_883 ?_
              refine lv_bipush (v := (102)) hx hb dL_refuses_884 (by decide) ?_
              refine lv_iconst (v := (0)) hx hb dL_refuses_886 (by decide) ?_
              obtain ⟨M82, eM82, hf⟩ := op_st hf
              refine g_callW (As := [.ref a_1, .int x18, .int (i_3 - i_3 / (4 : Int32) * (4 : Int32)), .int ((10 : Int32) * x19), .int (102 : Int32), .int (0 : Int32)]) (rest := []) ⟨hx, hb, hml, hown, hts⟩ (aL_modes l hl0 Γ a_1 M81 (nC Γ qn I :: X) x18 (i_3 - i_3 / (4 : Int32) * (4 : Int32)) ((10 : Int32) * x19) (102 : Int32) (0 : Int32)) (vx_cwSW 6 hts gL_refuses_L_modes rfl rfl rfl (by decide +kernel) ⟨Nat.le_of_ble_eq_true rfl, Nat.le_of_ble_eq_true rfl⟩) hKK hKX hKY hKN hW hS rfl hl.1 rfl (Nat.le_of_ble_eq_true rfl) dL_refuses_887 ⟨(by show _ + _ ≤ 143; omega), (by show _ + _ ≤ 6656; omega)⟩ (fun H locs hW hS => ?_)
              rw [← eM82] at hW
              refine lv_ldc hx hb hown (hts (.constant RL 25 (-2000000001)) (List.mem_of_getElem? (i := 2) rfl)) dL_refuses_890 ?_
              refine lv_icmp_ne (tgt := 1139) hx hb dL_refuses_892 (by decide) (fun k892 => ?_) (fun k892 => ?_)
              · have hf := (op_if hf).2 k892
                refine W.widen (k := 109) (n := 3833) (by omega) (by omega) ?_
                exact hj75 M82 H locs ls (lv_sub hl [1, 2, 3] rfl) hW hS hf
              have hf := (op_if hf).1 k892
              refine lv_aload_n hx hb dL_refuses_895 rfl (lv_at hl 3 rfl) ?_
              refine lv_iload hx hb dL_refuses_896 (lv_at hl 2 rfl) ?_
              refine lv_iload_n hx hb dL_refuses_898 rfl (lv_at hl 4 rfl) ?_
              refine lv_iconst (v := (4)) hx hb dL_refuses_899 (by decide) ?_
              refine lv_irem hx hb dL_refuses_900 (by decide) ?_
              refine lv_bipush (v := (-2)) hx hb dL_refuses_901 (by decide) ?_
              refine lv_iload_n hx hb dL_refuses_903 rfl (lv_at hl 4 rfl) ?_
              refine lv_isub hx hb dL_refuses_904 ?_
              refine lv_bipush (v := (102)) hx hb dL_refuses_905 (by decide) ?_
              refine lv_iconst (v := (0)) hx hb dL_refuses_907 (by decide) ?_
              obtain ⟨M83, eM83, hf⟩ := op_st hf
              refine g_callW (As := [.ref a_1, .int x18, .int (i_3 - i_3 / (4 : Int32) * (4 : Int32)), .int ((-2 : Int32) - i_3), .int (102 : Int32), .int (0 : Int32)]) (rest := []) ⟨hx, hb, hml, hown, hts⟩ (aL_modes l hl0 Γ a_1 M82 (nC Γ qn I :: X) x18 (i_3 - i_3 / (4 : Int32) * (4 : Int32)) ((-2 : Int32) - i_3) (102 : Int32) (0 : Int32)) (vx_cwSW 6 hts gL_refuses_L_modes rfl rfl rfl (by decide +kernel) ⟨Nat.le_of_ble_eq_true rfl, Nat.le_of_ble_eq_true rfl⟩) hKK hKX hKY hKN hW hS rfl hl.1 rfl (Nat.le_of_ble_eq_true rfl) dL_refuses_908 ⟨(by show _ + _ ≤ 143; omega), (by show _ + _ ≤ 6656; omega)⟩ (fun H locs hW hS => ?_)
              rw [← eM83] at hW
              refine lv_ldc hx hb hown (hts (.constant RL 15 (-2000000002)) (List.mem_of_getElem? (i := 1) rfl)) dL_refuses_911 ?_
              refine lv_icmp_ne (tgt := 1139) hx hb dL_refuses_913 (by decide) (fun k913 => ?_) (fun k913 => ?_)
              · have hf := (op_if hf).2 k913
                refine W.widen (k := 109) (n := 3833) (by omega) (by omega) ?_
                exact hj75 M83 H locs ls (lv_sub hl [1, 2, 3] rfl) hW hS hf
              have hf := (op_if hf).1 k913
              refine lv_aload_n hx hb dL_refuses_916 rfl (lv_at hl 3 rfl) ?_
              refine lv_iload hx hb dL_refuses_917 (lv_at hl 2 rfl) ?_
              refine lv_iload_n hx hb dL_refuses_919 rfl (lv_at hl 4 rfl) ?_
              refine lv_iconst (v := (4)) hx hb dL_refuses_920 (by decide) ?_
              refine lv_irem hx hb dL_refuses_921 (by decide) ?_
              refine lv_iconst (v := (-1)) hx hb dL_refuses_922 (by decide) ?_
              refine lv_bipush (v := (-102)) hx hb dL_refuses_923 (by decide) ?_
              refine lv_iload_n hx hb dL_refuses_925 rfl (lv_at hl 4 rfl) ?_
              refine lv_isub hx hb dL_refuses_926 ?_
              refine lv_iconst (v := (0)) hx hb dL_refuses_927 (by decide) ?_
              obtain ⟨M84, eM84, hf⟩ := op_st hf
              refine g_callW (As := [.ref a_1, .int x18, .int (i_3 - i_3 / (4 : Int32) * (4 : Int32)), .int (-1 : Int32), .int ((-102 : Int32) - i_3), .int (0 : Int32)]) (rest := []) ⟨hx, hb, hml, hown, hts⟩ (aL_modes l hl0 Γ a_1 M83 (nC Γ qn I :: X) x18 (i_3 - i_3 / (4 : Int32) * (4 : Int32)) (-1 : Int32) ((-102 : Int32) - i_3) (0 : Int32)) (vx_cwSW 6 hts gL_refuses_L_modes rfl rfl rfl (by decide +kernel) ⟨Nat.le_of_ble_eq_true rfl, Nat.le_of_ble_eq_true rfl⟩) hKK hKX hKY hKN hW hS rfl hl.1 rfl (Nat.le_of_ble_eq_true rfl) dL_refuses_928 ⟨(by show _ + _ ≤ 143; omega), (by show _ + _ ≤ 6656; omega)⟩ (fun H locs hW hS => ?_)
              rw [← eM84] at hW
              refine lv_ldc hx hb hown (hts (.constant RL 15 (-2000000002)) (List.mem_of_getElem? (i := 1) rfl)) dL_refuses_931 ?_
              refine lv_icmp_ne (tgt := 1139) hx hb dL_refuses_933 (by decide) (fun k933 => ?_) (fun k933 => ?_)
              · have hf := (op_if hf).2 k933
                refine W.widen (k := 109) (n := 3833) (by omega) (by omega) ?_
                exact hj75 M84 H locs ls (lv_sub hl [1, 2, 3] rfl) hW hS hf
              have hf := (op_if hf).1 k933
              refine lv_aload_n hx hb dL_refuses_936 rfl (lv_at hl 3 rfl) ?_
              refine lv_iload hx hb dL_refuses_937 (lv_at hl 2 rfl) ?_
              refine lv_iload_n hx hb dL_refuses_939 rfl (lv_at hl 4 rfl) ?_
              refine lv_iconst (v := (4)) hx hb dL_refuses_940 (by decide) ?_
              refine lv_irem hx hb dL_refuses_941 (by decide) ?_
              refine lv_iconst (v := (-1)) hx hb dL_refuses_942 (by decide) ?_
              refine lv_bipush (v := (102)) hx hb dL_refuses_943 (by decide) ?_
              refine lv_sipush (v := (5001)) hx hb dL_refuses_945 (by decide) ?_
              refine lv_iload_n hx hb dL_refuses_948 rfl (lv_at hl 4 rfl) ?_
              refine lv_iadd hx hb dL_refuses_949 ?_
              obtain ⟨M85, eM85, hf⟩ := op_st hf
              refine g_callW (As := [.ref a_1, .int x18, .int (i_3 - i_3 / (4 : Int32) * (4 : Int32)), .int (-1 : Int32), .int (102 : Int32), .int ((5001 : Int32) + i_3)]) (rest := []) ⟨hx, hb, hml, hown, hts⟩ (aL_modes l hl0 Γ a_1 M84 (nC Γ qn I :: X) x18 (i_3 - i_3 / (4 : Int32) * (4 : Int32)) (-1 : Int32) (102 : Int32) ((5001 : Int32) + i_3)) (vx_cwSW 6 hts gL_refuses_L_modes rfl rfl rfl (by decide +kernel) ⟨Nat.le_of_ble_eq_true rfl, Nat.le_of_ble_eq_true rfl⟩) hKK hKX hKY hKN hW hS rfl hl.1 rfl (Nat.le_of_ble_eq_true rfl) dL_refuses_950 ⟨(by show _ + _ ≤ 143; omega), (by show _ + _ ≤ 6656; omega)⟩ (fun H locs hW hS => ?_)
              rw [← eM85] at hW
              refine lv_ldc hx hb hown (hts (.constant RL 15 (-2000000002)) (List.mem_of_getElem? (i := 1) rfl)) dL_refuses_953 ?_
              refine lv_icmp_ne (tgt := 1139) hx hb dL_refuses_955 (by decide) (fun k955 => ?_) (fun k955 => ?_)
              · have hf := (op_if hf).2 k955
                refine W.widen (k := 109) (n := 3833) (by omega) (by omega) ?_
                exact hj75 M85 H locs ls (lv_sub hl [1, 2, 3] rfl) hW hS hf
              have hf := (op_if hf).1 k955
              refine lv_aload_n hx hb dL_refuses_958 rfl (lv_at hl 3 rfl) ?_
              refine lv_iload hx hb dL_refuses_959 (lv_at hl 2 rfl) ?_
              refine lv_iload hx hb dL_refuses_961 (lv_at hl 0 rfl) ?_
              obtain ⟨M86, eM86, hf⟩ := op_st hf
              refine g_callW (As := [.ref a_1, .int x18, .int x22]) (rest := []) ⟨hx, hb, hml, hown, hts⟩ (aL_stick l hl0 Γ a_1 M85 (nC Γ qn I :: X) x18 x22) (vx_cwSW 3 hts gL_refuses_L_stick rfl rfl rfl (by decide +kernel) ⟨Nat.le_of_ble_eq_true rfl, Nat.le_of_ble_eq_true rfl⟩) hKK hKX hKY hKN hW hS rfl hl.1 rfl (Nat.le_of_ble_eq_true rfl) dL_refuses_963 ⟨(by show _ + _ ≤ 143; omega), (by show _ + _ ≤ 6656; omega)⟩ (fun H locs hW hS => ?_)
              rw [← eM86] at hW
              refine lv_ldc hx hb hown (hts (.constant RL 25 (-2000000001)) (List.mem_of_getElem? (i := 2) rfl)) dL_refuses_966 ?_
              refine lv_icmp_ne (tgt := 1139) hx hb dL_refuses_968 (by decide) (fun k968 => ?_) (fun k968 => ?_)
              · have hf := (op_if hf).2 k968
                refine W.widen (k := 109) (n := 3833) (by omega) (by omega) ?_
                exact hj75 M86 H locs ls (lv_sub hl [1, 2, 3] rfl) hW hS hf
              have hf := (op_if hf).1 k968
              refine lv_aload_n hx hb dL_refuses_971 rfl (lv_at hl 3 rfl) ?_
              refine lv_iload hx hb dL_refuses_972 (lv_at hl 2 rfl) ?_
              refine lv_iload hx hb dL_refuses_974 (lv_at hl 0 rfl) ?_
              refine g_callW (As := [.ref a_1, .int x18, .int x22]) (rest := []) ⟨hx, hb, hml, hown, hts⟩ (aL_sticks l hl0 Γ a_1 M86 (nC Γ qn I :: X) x18 x22) (vx_cwSW 3 hts gL_refuses_L_sticks rfl rfl rfl (by decide +kernel) ⟨Nat.le_of_ble_eq_true rfl, Nat.le_of_ble_eq_true rfl⟩) hKK hKX hKY hKN hW hS rfl hl.1 rfl (Nat.le_of_ble_eq_true rfl) dL_refuses_976 ⟨(by show _ + _ ≤ 143; omega), (by show _ + _ ≤ 6656; omega)⟩ (fun H locs hW hS => ?_)
              refine lv_ldc hx hb hown (hts (.constant RL 25 (-2000000001)) (List.mem_of_getElem? (i := 2) rfl)) dL_refuses_979 ?_
              refine lv_icmp_ne (tgt := 1139) hx hb dL_refuses_981 (by decide) (fun k981 => ?_) (fun k981 => ?_)
              · have hf := (op_if hf).2 k981
                refine W.widen (k := 109) (n := 3833) (by omega) (by omega) ?_
                exact hj75 M86 H locs ls (lv_sub hl [1, 2, 3] rfl) hW hS hf
              have hf := (op_if hf).1 k981
              refine lv_aload_n hx hb dL_refuses_984 rfl (lv_at hl 3 rfl) ?_
              refine lv_iload hx hb dL_refuses_985 (lv_at hl 2 rfl) ?_
              refine lv_iload hx hb dL_refuses_987 (lv_at hl 0 rfl) ?_
              refine g_callW (As := [.ref a_1, .int x18, .int x22]) (rest := []) ⟨hx, hb, hml, hown, hts⟩ (aL_wear l hl0 Γ a_1 M86 (nC Γ qn I :: X) x18 x22) (vx_cwSW 3 hts gL_refuses_L_wear rfl rfl rfl (by decide +kernel) ⟨Nat.le_of_ble_eq_true rfl, Nat.le_of_ble_eq_true rfl⟩) hKK hKX hKY hKN hW hS rfl hl.1 rfl (Nat.le_of_ble_eq_true rfl) dL_refuses_989 ⟨(by show _ + _ ≤ 143; omega), (by show _ + _ ≤ 6656; omega)⟩ (fun H locs hW hS => ?_)
              refine lv_ldc hx hb hown (hts (.constant RL 25 (-2000000001)) (List.mem_of_getElem? (i := 2) rfl)) dL_refuses_992 ?_
              refine lv_icmp_ne (tgt := 1139) hx hb dL_refuses_994 (by decide) (fun k994 => ?_) (fun k994 => ?_)
              · have hf := (op_if hf).2 k994
                refine W.widen (k := 109) (n := 3833) (by omega) (by omega) ?_
                exact hj75 M86 H locs ls (lv_sub hl [1, 2, 3] rfl) hW hS hf
              have hf := (op_if hf).1 k994
              refine lv_aload_n hx hb dL_refuses_997 rfl (lv_at hl 3 rfl) ?_
              refine lv_iload hx hb dL_refuses_998 (lv_at hl 2 rfl) ?_
              refine lv_sipush (v := (160)) hx hb dL_refuses_1000 (by decide) ?_
              refine lv_iload_n hx hb dL_refuses_1003 rfl (lv_at hl 4 rfl) ?_
              refine lv_iadd hx hb dL_refuses_1004 ?_
              refine lv_iconst (v := (0)) hx hb dL_refuses_1005 (by decide) ?_
              refine lv_iconst (v := (0)) hx hb dL_refuses_1006 (by decide) ?_
              obtain ⟨M87, eM87, hf⟩ := op_st hf
              refine g_callW (As := [.ref a_1, .int x18, .int ((160 : Int32) + i_3), .int (0 : Int32), .int (0 : Int32)]) (rest := []) ⟨hx, hb, hml, hown, hts⟩ (aL_shoot l hl0 Γ a_1 M86 (nC Γ qn I :: X) x18 ((160 : Int32) + i_3) (0 : Int32) (0 : Int32)) (vx_cwSW 5 hts gL_refuses_L_shoot rfl rfl rfl (by decide +kernel) ⟨Nat.le_of_ble_eq_true rfl, Nat.le_of_ble_eq_true rfl⟩) hKK hKX hKY hKN hW hS rfl hl.1 rfl (Nat.le_of_ble_eq_true rfl) dL_refuses_1007 ⟨(by show _ + _ ≤ 143; omega), (by show _ + _ ≤ 6656; omega)⟩ (fun H locs hW hS => ?_)
              rw [← eM87] at hW
              refine lv_ldc hx hb hown (hts (.constant RL 15 (-2000000002)) (List.mem_of_getElem? (i := 1) rfl)) dL_refuses_1010 ?_
              refine lv_icmp_ne (tgt := 1139) hx hb dL_refuses_1012 (by decide) (fun k1012 => ?_) (fun k1012 => ?_)
              · have hf := (op_if hf).2 k1012
                refine W.widen (k := 109) (n := 3833) (by omega) (by omega) ?_
                exact hj75 M87 H locs ls (lv_sub hl [1, 2, 3] rfl) hW hS hf
              have hf := (op_if hf).1 k1012
              refine lv_aload_n hx hb dL_refuses_1015 rfl (lv_at hl 3 rfl) ?_
              refine lv_iload hx hb dL_refuses_1016 (lv_at hl 2 rfl) ?_
              refine lv_iconst (v := (0)) hx hb dL_refuses_1018 (by decide) ?_
              refine lv_bipush (v := (-31)) hx hb dL_refuses_1019 (by decide) ?_
              refine lv_iload_n hx hb dL_refuses_1021 rfl (lv_at hl 4 rfl) ?_
              refine lv_isub hx hb dL_refuses_1022 ?_
              refine lv_iconst (v := (0)) hx hb dL_refuses_1023 (by decide) ?_
              obtain ⟨M88, eM88, hf⟩ := op_st hf
              refine g_callW (As := [.ref a_1, .int x18, .int (0 : Int32), .int ((-31 : Int32) - i_3), .int (0 : Int32)]) (rest := []) ⟨hx, hb, hml, hown, hts⟩ (aL_shoot l hl0 Γ a_1 M87 (nC Γ qn I :: X) x18 (0 : Int32) ((-31 : Int32) - i_3) (0 : Int32)) (vx_cwSW 5 hts gL_refuses_L_shoot rfl rfl rfl (by decide +kernel) ⟨Nat.le_of_ble_eq_true rfl, Nat.le_of_ble_eq_true rfl⟩) hKK hKX hKY hKN hW hS rfl hl.1 rfl (Nat.le_of_ble_eq_true rfl) dL_refuses_1024 ⟨(by show _ + _ ≤ 143; omega), (by show _ + _ ≤ 6656; omega)⟩ (fun H locs hW hS => ?_)
              rw [← eM88] at hW
              refine lv_ldc hx hb hown (hts (.constant RL 15 (-2000000002)) (List.mem_of_getElem? (i := 1) rfl)) dL_refuses_1027 ?_
              refine lv_icmp_ne (tgt := 1139) hx hb dL_refuses_1029 (by decide) (fun k1029 => ?_) (fun k1029 => ?_)
              · have hf := (op_if hf).2 k1029
                refine W.widen (k := 109) (n := 3833) (by omega) (by omega) ?_
                exact hj75 M88 H locs ls (lv_sub hl [1, 2, 3] rfl) hW hS hf
              have hf := (op_if hf).1 k1029
              refine lv_aload_n hx hb dL_refuses_1032 rfl (lv_at hl 3 rfl) ?_
              refine lv_iload hx hb dL_refuses_1033 (lv_at hl 2 rfl) ?_
              refine lv_iconst (v := (0)) hx hb dL_refuses_1035 (by decide) ?_
              refine lv_iconst (v := (0)) hx hb dL_refuses_1036 (by decide) ?_
              refine lv_bipush (v := (31)) hx hb dL_refuses_1037 (by decide) ?_
              refine lv_iload_n hx hb dL_refuses_1039 rfl (lv_at hl 4 rfl) ?_
              refine lv_iadd hx hb dL_refuses_1040 ?_
              obtain ⟨M89, eM89, hf⟩ := op_st hf
              refine g_callW (As := [.ref a_1, .int x18, .int (0 : Int32), .int (0 : Int32), .int ((31 : Int32) + i_3)]) (rest := []) ⟨hx, hb, hml, hown, hts⟩ (aL_shoot l hl0 Γ a_1 M88 (nC Γ qn I :: X) x18 (0 : Int32) (0 : Int32) ((31 : Int32) + i_3)) (vx_cwSW 5 hts gL_refuses_L_shoot rfl rfl rfl (by decide +kernel) ⟨Nat.le_of_ble_eq_true rfl, Nat.le_of_ble_eq_true rfl⟩) hKK hKX hKY hKN hW hS rfl hl.1 rfl (Nat.le_of_ble_eq_true rfl) dL_refuses_1041 ⟨(by show _ + _ ≤ 143; omega), (by show _ + _ ≤ 6656; omega)⟩ (fun H locs hW hS => ?_)
              rw [← eM89] at hW
              refine lv_ldc hx hb hown (hts (.constant RL 15 (-2000000002)) (List.mem_of_getElem? (i := 1) rfl)) dL_refuses_1044 ?_
              refine lv_icmp_ne (tgt := 1139) hx hb dL_refuses_1046 (by decide) (fun k1046 => ?_) (fun k1046 => ?_)
              · have hf := (op_if hf).2 k1046
                refine W.widen (k := 109) (n := 3833) (by omega) (by omega) ?_
                exact hj75 M89 H locs ls (lv_sub hl [1, 2, 3] rfl) hW hS hf
              have hf := (op_if hf).1 k1046
              refine lv_aload_n hx hb dL_refuses_1049 rfl (lv_at hl 3 rfl) ?_
              refine lv_iload hx hb dL_refuses_1050 (lv_at hl 2 rfl) ?_
              refine lv_iconst (v := (-1)) hx hb dL_refuses_1052 (by decide) ?_
              refine lv_iload_n hx hb dL_refuses_1053 rfl (lv_at hl 4 rfl) ?_
              refine lv_isub hx hb dL_refuses_1054 ?_
              refine g_callW (As := [.ref a_1, .int x18, .int ((-1 : Int32) - i_3)]) (rest := []) ⟨hx, hb, hml, hown, hts⟩ (aL_high l hl0 Γ a_1 M89 (nC Γ qn I :: X) x18 ((-1 : Int32) - i_3)) (vx_cwSW 3 hts gL_refuses_L_high rfl rfl rfl (by decide +kernel) ⟨Nat.le_of_ble_eq_true rfl, Nat.le_of_ble_eq_true rfl⟩) hKK hKX hKY hKN hW hS rfl hl.1 rfl (Nat.le_of_ble_eq_true rfl) dL_refuses_1055 ⟨(by show _ + _ ≤ 143; omega), (by show _ + _ ≤ 6656; omega)⟩ (fun H locs hW hS => ?_)
              refine lv_ldc hx hb hown (hts (.constant RL 15 (-2000000002)) (List.mem_of_getElem? (i := 1) rfl)) dL_refuses_1058 ?_
              refine lv_icmp_ne (tgt := 1139) hx hb dL_refuses_1060 (by decide) (fun k1060 => ?_) (fun k1060 => ?_)
              · have hf := (op_if hf).2 k1060
                refine W.widen (k := 109) (n := 3833) (by omega) (by omega) ?_
                exact hj75 M89 H locs ls (lv_sub hl [1, 2, 3] rfl) hW hS hf
              have hf := (op_if hf).1 k1060
              refine lv_aload_n hx hb dL_refuses_1063 rfl (lv_at hl 3 rfl) ?_
              refine lv_iload hx hb dL_refuses_1064 (lv_at hl 2 rfl) ?_
              refine lv_bipush (v := (40)) hx hb dL_refuses_1066 (by decide) ?_
              refine lv_iload_n hx hb dL_refuses_1068 rfl (lv_at hl 4 rfl) ?_
              refine lv_iadd hx hb dL_refuses_1069 ?_
              refine g_callW (As := [.ref a_1, .int x18, .int ((40 : Int32) + i_3)]) (rest := []) ⟨hx, hb, hml, hown, hts⟩ (aL_high l hl0 Γ a_1 M89 (nC Γ qn I :: X) x18 ((40 : Int32) + i_3)) (vx_cwSW 3 hts gL_refuses_L_high rfl rfl rfl (by decide +kernel) ⟨Nat.le_of_ble_eq_true rfl, Nat.le_of_ble_eq_true rfl⟩) hKK hKX hKY hKN hW hS rfl hl.1 rfl (Nat.le_of_ble_eq_true rfl) dL_refuses_1070 ⟨(by show _ + _ ≤ 143; omega), (by show _ + _ ≤ 6656; omega)⟩ (fun H locs hW hS => ?_)
              refine lv_iconst (v := (-1)) hx hb dL_refuses_1073 (by decide) ?_
              refine lv_icmp_ne (tgt := 1139) hx hb dL_refuses_1074 (by decide) (fun k1074 => ?_) (fun k1074 => ?_)
              · have hf := (op_if hf).2 k1074
                refine W.widen (k := 109) (n := 3833) (by omega) (by omega) ?_
                exact hj75 M89 H locs ls (lv_sub hl [1, 2, 3] rfl) hW hS hf
              have hf := (op_if hf).1 k1074
              refine lv_aload_n hx hb dL_refuses_1077 rfl (lv_at hl 3 rfl) ?_
              refine lv_iload hx hb dL_refuses_1078 (lv_at hl 2 rfl) ?_
              refine lv_bipush (v := (101)) hx hb dL_refuses_1080 (by decide) ?_
              refine lv_iload_n hx hb dL_refuses_1082 rfl (lv_at hl 4 rfl) ?_
              refine lv_iadd hx hb dL_refuses_1083 ?_
              obtain ⟨M90, eM90, hf⟩ := op_st hf
              refine g_callW (As := [.ref a_1, .int x18, .int ((101 : Int32) + i_3)]) (rest := []) ⟨hx, hb, hml, hown, hts⟩ (aL_rob l hl0 Γ a_1 M89 (nC Γ qn I :: X) x18 ((101 : Int32) + i_3)) (vx_cwSW 3 hts gL_refuses_L_rob rfl rfl rfl (by decide +kernel) ⟨Nat.le_of_ble_eq_true rfl, Nat.le_of_ble_eq_true rfl⟩) hKK hKX hKY hKN hW hS rfl hl.1 rfl (Nat.le_of_ble_eq_true rfl) dL_refuses_1084 ⟨(by show _ + _ ≤ 143; omega), (by show _ + _ ≤ 6656; omega)⟩ (fun H locs hW hS => ?_)
              rw [← eM90] at hW
              refine lv_ldc hx hb hown (hts (.constant RL 15 (-2000000002)) (List.mem_of_getElem? (i := 1) rfl)) dL_refuses_1087 ?_
              refine lv_icmp_ne (tgt := 1139) hx hb dL_refuses_1089 (by decide) (fun k1089 => ?_) (fun k1089 => ?_)
              · have hf := (op_if hf).2 k1089
                refine W.widen (k := 109) (n := 3833) (by omega) (by omega) ?_
                exact hj75 M90 H locs ls (lv_sub hl [1, 2, 3] rfl) hW hS hf
              have hf := (op_if hf).1 k1089
              refine lv_aload_n hx hb dL_refuses_1092 rfl (lv_at hl 3 rfl) ?_
              refine lv_iload hx hb dL_refuses_1093 (lv_at hl 2 rfl) ?_
              refine lv_iload_n hx hb dL_refuses_1095 rfl (lv_at hl 4 rfl) ?_
              refine lv_ineg hx hb dL_refuses_1096 ?_
              obtain ⟨M91, eM91, hf⟩ := op_st hf
              refine g_callW (As := [.ref a_1, .int x18, .int (-i_3)]) (rest := []) ⟨hx, hb, hml, hown, hts⟩ (aL_rob l hl0 Γ a_1 M90 (nC Γ qn I :: X) x18 (-i_3)) (vx_cwSW 3 hts gL_refuses_L_rob rfl rfl rfl (by decide +kernel) ⟨Nat.le_of_ble_eq_true rfl, Nat.le_of_ble_eq_true rfl⟩) hKK hKX hKY hKN hW hS rfl hl.1 rfl (Nat.le_of_ble_eq_true rfl) dL_refuses_1097 ⟨(by show _ + _ ≤ 143; omega), (by show _ + _ ≤ 6656; omega)⟩ (fun H locs hW hS => ?_)
              rw [← eM91] at hW
              refine lv_ldc hx hb hown (hts (.constant RL 15 (-2000000002)) (List.mem_of_getElem? (i := 1) rfl)) dL_refuses_1100 ?_
              refine lv_icmp_ne (tgt := 1139) hx hb dL_refuses_1102 (by decide) (fun k1102 => ?_) (fun k1102 => ?_)
              · have hf := (op_if hf).2 k1102
                refine W.widen (k := 109) (n := 3833) (by omega) (by omega) ?_
                exact hj75 M91 H locs ls (lv_sub hl [1, 2, 3] rfl) hW hS hf
              have hf := (op_if hf).1 k1102
              refine lv_aload_n hx hb dL_refuses_1105 rfl (lv_at hl 3 rfl) ?_
              refine lv_iload hx hb dL_refuses_1106 (lv_at hl 2 rfl) ?_
              refine g_callW (As := [.ref a_1, .int x18]) (rest := []) ⟨hx, hb, hml, hown, hts⟩ (aL_box l hl0 Γ a_1 M91 (nC Γ qn I :: X) x18) (vx_cwSW 2 hts gL_refuses_L_box rfl rfl rfl (by decide +kernel) ⟨Nat.le_of_ble_eq_true rfl, Nat.le_of_ble_eq_true rfl⟩) hKK hKX hKY hKN hW hS rfl hl.1 rfl (Nat.le_of_ble_eq_true rfl) dL_refuses_1108 ⟨(by show _ + _ ≤ 143; omega), (by show _ + _ ≤ 6656; omega)⟩ (fun H locs hW hS => ?_)
              refine lv_bipush (v := (99)) hx hb dL_refuses_1111 (by decide) ?_
              obtain ⟨j93, ej93, hf⟩ := op_st hf
              have hj93 : ∀ (M92 : zMs) (H : Heap) (locs : List Loc) (ls : Array Slot), lv_has ls 12 [(9, .int x19), (8, .int x18), (0, .ref a_1)] → (TW Γ a_1 M92 (nC Γ qn I :: X)) H → va_S (zA Γ) s.heap H locs → j93 M92 = some y → W p l e (headSpec wsL_refuses rmL_refuses).room s m args below meth c H locs 109 3833 (MQ below (GQ Γ (TW Γ a_1 y.2 (nC Γ qn I :: X)) (some (.int y.1))) args s 143 6656 (zA Γ)) (F0 m 1135 ls []) := by
                intro M92 H locs ls hl hW hS hf
                rw [ej93] at hf
                refine lv_iconst (v := (1)) hx hb dL_refuses_1135 (by decide) ?_
                refine lv_goto (tgt := 1140) hx hb dL_refuses_1136 (by decide) ?_
                refine W.widen (k := 109) (n := 3833) (by omega) (by omega) ?_
                exact hj26 (1 : Int32) M92 H locs ls (lv_sub hl [0, 1, 2] rfl) hW hS hf
              refine lv_icmp_gt (tgt := 1135) hx hb dL_refuses_1113 (by decide) (fun k1113 => ?_) (fun k1113 => ?_)
              · have hf := (op_if hf).1 k1113
                refine W.widen (k := 109) (n := 3833) (by omega) (by omega) ?_
                exact hj93 M91 H locs ls (lv_sub hl [1, 2, 3] rfl) hW hS hf
              have hf := (op_if hf).2 k1113
              refine lv_aload_n hx hb dL_refuses_1116 rfl (lv_at hl 3 rfl) ?_
              refine lv_iload hx hb dL_refuses_1117 (lv_at hl 2 rfl) ?_
              refine lv_aload_n hx hb dL_refuses_1119 rfl (lv_at hl 3 rfl) ?_
              refine lv_iload hx hb dL_refuses_1120 (lv_at hl 2 rfl) ?_
              refine g_callW (As := [.ref a_1, .int x18]) (rest := [.int x18, .ref a_1]) ⟨hx, hb, hml, hown, hts⟩ (aL_box l hl0 Γ a_1 M91 (nC Γ qn I :: X) x18) (vx_cwSW 2 hts gL_refuses_L_box rfl rfl rfl (by decide +kernel) ⟨Nat.le_of_ble_eq_true rfl, Nat.le_of_ble_eq_true rfl⟩) hKK hKX hKY hKN hW hS rfl hl.1 rfl (Nat.le_of_ble_eq_true rfl) dL_refuses_1122 ⟨(by show _ + _ ≤ 143; omega), (by show _ + _ ≤ 6656; omega)⟩ (fun H locs hW hS => ?_)
              refine lv_iconst (v := (1)) hx hb dL_refuses_1125 (by decide) ?_
              refine lv_iadd hx hb dL_refuses_1126 ?_
              obtain ⟨M94, eM94, hf⟩ := op_st hf
              refine g_callW (As := [.ref a_1, .int x18, .int ((A_box M91 x18) + (1 : Int32))]) (rest := []) ⟨hx, hb, hml, hown, hts⟩ (aL_rob l hl0 Γ a_1 M91 (nC Γ qn I :: X) x18 ((A_box M91 x18) + (1 : Int32))) (vx_cwSW 3 hts gL_refuses_L_rob rfl rfl rfl (by decide +kernel) ⟨Nat.le_of_ble_eq_true rfl, Nat.le_of_ble_eq_true rfl⟩) hKK hKX hKY hKN hW hS rfl hl.1 rfl (Nat.le_of_ble_eq_true rfl) dL_refuses_1127 ⟨(by show _ + _ ≤ 143; omega), (by show _ + _ ≤ 6656; omega)⟩ (fun H locs hW hS => ?_)
              rw [← eM94] at hW
              refine lv_ldc hx hb hown (hts (.constant RL 18 (-2000000003)) (List.mem_of_getElem? (i := 4) rfl)) dL_refuses_1130 ?_
              refine lv_icmp_ne (tgt := 1139) hx hb dL_refuses_1132 (by decide) (fun k1132 => ?_) (fun k1132 => ?_)
              · have hf := (op_if hf).2 k1132
                refine W.widen (k := 109) (n := 3833) (by omega) (by omega) ?_
                exact hj75 M94 H locs ls (lv_sub hl [1, 2, 3] rfl) hW hS hf
              have hf := (op_if hf).1 k1132
              refine W.widen (k := 109) (n := 3833) (by omega) (by omega) ?_
              exact hj93 M94 H locs ls (lv_sub hl [1, 2, 3] rfl) hW hS hf
            refine lv_if_eq (tgt := 736) hx hb dL_refuses_724 (by decide) (fun k724 => ?_) (fun k724 => ?_)
            · have hf := (op_if hf).1 k724
              refine lv_iload hx hb dL_refuses_736 (lv_at hl 0 rfl) ?_
              refine lv_iload_n hx hb dL_refuses_738 rfl (lv_at hl 6 rfl) ?_
              refine lv_bipush (v := (50)) hx hb dL_refuses_739 (by decide) ?_
              refine lv_irem hx hb dL_refuses_741 (by decide) ?_
              refine lv_iadd hx hb dL_refuses_742 ?_
              refine W.widen (k := 80) (n := 3364) (by omega) (by omega) ?_
              exact hj21 (x19 + (i_3 - i_3 / (50 : Int32) * (50 : Int32))) H locs ls (lv_sub hl [0, 1, 4, 6] rfl) hW hS hf
            have hf := (op_if hf).2 k724
            refine lv_iconst (v := (-1)) hx hb dL_refuses_727 (by decide) ?_
            refine lv_iload_n hx hb dL_refuses_728 rfl (lv_at hl 6 rfl) ?_
            refine lv_bipush (v := (50)) hx hb dL_refuses_729 (by decide) ?_
            refine lv_irem hx hb dL_refuses_731 (by decide) ?_
            refine lv_isub hx hb dL_refuses_732 ?_
            refine lv_goto (tgt := 743) hx hb dL_refuses_733 (by decide) ?_
            refine W.widen (k := 80) (n := 3364) (by omega) (by omega) ?_
            exact hj21 ((-1 : Int32) - (i_3 - i_3 / (50 : Int32) * (50 : Int32))) H locs ls (lv_sub hl [0, 1, 4, 6] rfl) hW hS hf
          obtain ⟨j96, ej96, hf⟩ := op_st hf
          have hj96 : ∀ (M95 : zMs) (H : Heap) (locs : List Loc) (ls : Array Slot), lv_has ls 12 [(3, .int x3), (0, .ref a_1), (1, .ref qn), (2, .int i_3)] → (TW Γ a_1 M95 (nC Γ qn I :: X)) H → va_S (zA Γ) s.heap H locs → j96 M95 = some y → W p l e (headSpec wsL_refuses rmL_refuses).room s m args below meth c H locs 80 3364 (MQ below (GQ Γ (TW Γ a_1 y.2 (nC Γ qn I :: X)) (some (.int y.1))) args s 143 6656 (zA Γ)) (F0 m 692 ls []) := by
            intro M95 H locs ls hl hW hS hf
            rw [ej96] at hf
            refine lv_iconst (v := (0)) hx hb dL_refuses_692 (by decide) ?_
            refine W.widen (k := 80) (n := 3364) (by omega) (by omega) ?_
            exact hj16 (0 : Int32) M95 H locs ls (lv_sub hl [0, 1, 2, 3] rfl) hW hS hf
          refine lv_icmp_ne (tgt := 692) hx hb dL_refuses_92 (by decide) (fun k92 => ?_) (fun k92 => ?_)
          · have hf := (op_if hf).2 k92
            refine W.widen (k := 80) (n := 3364) (by omega) (by omega) ?_
            exact hj96 M13 H locs ls (lv_sub hl [3, 4, 5, 6] rfl) hW hS hf
          have hf := (op_if hf).1 k92
          refine lv_aload_n hx hb dL_refuses_95 rfl (lv_at hl 4 rfl) ?_
          refine lv_iload_n hx hb dL_refuses_96 rfl (lv_at hl 6 rfl) ?_
          refine lv_bipush (v := (101)) hx hb dL_refuses_97 (by decide) ?_
          refine lv_irem hx hb dL_refuses_99 (by decide) ?_
          refine lv_bipush (v := (10)) hx hb dL_refuses_100 (by decide) ?_
          refine lv_iload_n hx hb dL_refuses_102 rfl (lv_at hl 6 rfl) ?_
          refine lv_iadd hx hb dL_refuses_103 ?_
          obtain ⟨M97, eM97, hf⟩ := op_st hf
          refine g_callW (As := [.ref a_1, .int (i_3 - i_3 / (101 : Int32) * (101 : Int32)), .int ((10 : Int32) + i_3)]) (rest := []) ⟨hx, hb, hml, hown, hts⟩ (aL_tables l hl0 Γ a_1 M13 (nC Γ qn I :: X) (i_3 - i_3 / (101 : Int32) * (101 : Int32)) ((10 : Int32) + i_3)) (vx_cwSW 3 hts gL_refuses_L_tables rfl rfl rfl (by decide +kernel) ⟨Nat.le_of_ble_eq_true rfl, Nat.le_of_ble_eq_true rfl⟩) hKK hKX hKY hKN hW hS rfl hl.1 rfl (Nat.le_of_ble_eq_true rfl) dL_refuses_104 ⟨(by show _ + _ ≤ 143; omega), (by show _ + _ ≤ 6656; omega)⟩ (fun H locs hW hS => ?_)
          rw [← eM97] at hW
          refine lv_ldc hx hb hown (hts (.constant RL 15 (-2000000002)) (List.mem_of_getElem? (i := 1) rfl)) dL_refuses_107 ?_
          refine lv_icmp_ne (tgt := 692) hx hb dL_refuses_109 (by decide) (fun k109 => ?_) (fun k109 => ?_)
          · have hf := (op_if hf).2 k109
            refine W.widen (k := 80) (n := 3364) (by omega) (by omega) ?_
            exact hj96 M97 H locs ls (lv_sub hl [3, 4, 5, 6] rfl) hW hS hf
          have hf := (op_if hf).1 k109
          refine lv_aload_n hx hb dL_refuses_112 rfl (lv_at hl 4 rfl) ?_
          refine lv_iconst (v := (-1)) hx hb dL_refuses_113 (by decide) ?_
          refine lv_iload_n hx hb dL_refuses_114 rfl (lv_at hl 6 rfl) ?_
          refine lv_isub hx hb dL_refuses_115 ?_
          refine lv_iconst (v := (1)) hx hb dL_refuses_116 (by decide) ?_
          obtain ⟨M98, eM98, hf⟩ := op_st hf
          refine g_callW (As := [.ref a_1, .int ((-1 : Int32) - i_3), .int (1 : Int32)]) (rest := []) ⟨hx, hb, hml, hown, hts⟩ (aL_tables l hl0 Γ a_1 M97 (nC Γ qn I :: X) ((-1 : Int32) - i_3) (1 : Int32)) (vx_cwSW 3 hts gL_refuses_L_tables rfl rfl rfl (by decide +kernel) ⟨Nat.le_of_ble_eq_true rfl, Nat.le_of_ble_eq_true rfl⟩) hKK hKX hKY hKN hW hS rfl hl.1 rfl (Nat.le_of_ble_eq_true rfl) dL_refuses_117 ⟨(by show _ + _ ≤ 143; omega), (by show _ + _ ≤ 6656; omega)⟩ (fun H locs hW hS => ?_)
          rw [← eM98] at hW
          refine lv_ldc hx hb hown (hts (.constant RL 15 (-2000000002)) (List.mem_of_getElem? (i := 1) rfl)) dL_refuses_120 ?_
          refine lv_icmp_ne (tgt := 692) hx hb dL_refuses_122 (by decide) (fun k122 => ?_) (fun k122 => ?_)
          · have hf := (op_if hf).2 k122
            refine W.widen (k := 80) (n := 3364) (by omega) (by omega) ?_
            exact hj96 M98 H locs ls (lv_sub hl [3, 4, 5, 6] rfl) hW hS hf
          have hf := (op_if hf).1 k122
          refine lv_aload_n hx hb dL_refuses_125 rfl (lv_at hl 4 rfl) ?_
          refine lv_iload_n hx hb dL_refuses_126 rfl (lv_at hl 6 rfl) ?_
          refine lv_bipush (v := (101)) hx hb dL_refuses_127 (by decide) ?_
          refine lv_irem hx hb dL_refuses_129 (by decide) ?_
          refine lv_iload_n hx hb dL_refuses_130 rfl (lv_at hl 6 rfl) ?_
          refine lv_ineg hx hb dL_refuses_131 ?_
          obtain ⟨M99, eM99, hf⟩ := op_st hf
          refine g_callW (As := [.ref a_1, .int (i_3 - i_3 / (101 : Int32) * (101 : Int32)), .int (-i_3)]) (rest := []) ⟨hx, hb, hml, hown, hts⟩ (aL_tables l hl0 Γ a_1 M98 (nC Γ qn I :: X) (i_3 - i_3 / (101 : Int32) * (101 : Int32)) (-i_3)) (vx_cwSW 3 hts gL_refuses_L_tables rfl rfl rfl (by decide +kernel) ⟨Nat.le_of_ble_eq_true rfl, Nat.le_of_ble_eq_true rfl⟩) hKK hKX hKY hKN hW hS rfl hl.1 rfl (Nat.le_of_ble_eq_true rfl) dL_refuses_132 ⟨(by show _ + _ ≤ 143; omega), (by show _ + _ ≤ 6656; omega)⟩ (fun H locs hW hS => ?_)
          rw [← eM99] at hW
          refine lv_ldc hx hb hown (hts (.constant RL 15 (-2000000002)) (List.mem_of_getElem? (i := 1) rfl)) dL_refuses_135 ?_
          refine lv_icmp_ne (tgt := 692) hx hb dL_refuses_137 (by decide) (fun k137 => ?_) (fun k137 => ?_)
          · have hf := (op_if hf).2 k137
            refine W.widen (k := 80) (n := 3364) (by omega) (by omega) ?_
            exact hj96 M99 H locs ls (lv_sub hl [3, 4, 5, 6] rfl) hW hS hf
          have hf := (op_if hf).1 k137
          refine lv_aload_n hx hb dL_refuses_140 rfl (lv_at hl 4 rfl) ?_
          refine lv_iload hx hb dL_refuses_141 (lv_at hl 2 rfl) ?_
          refine lv_sipush (v := (999)) hx hb dL_refuses_143 (by decide) ?_
          refine lv_iconst (v := (0)) hx hb dL_refuses_146 (by decide) ?_
          refine lv_bipush (v := (101)) hx hb dL_refuses_147 (by decide) ?_
          refine lv_iconst (v := (0)) hx hb dL_refuses_149 (by decide) ?_
          obtain ⟨M100, eM100, hf⟩ := op_st hf
          refine g_callW (As := [.ref a_1, .int x6, .int (999 : Int32), .int (0 : Int32), .int (101 : Int32), .int (0 : Int32)]) (rest := []) ⟨hx, hb, hml, hown, hts⟩ (aL_bumpers l hl0 Γ a_1 M99 (nC Γ qn I :: X) x6 (999 : Int32) (0 : Int32) (101 : Int32) (0 : Int32)) (vx_cwSW 6 hts gL_refuses_L_bumpers rfl rfl rfl (by decide +kernel) ⟨Nat.le_of_ble_eq_true rfl, Nat.le_of_ble_eq_true rfl⟩) hKK hKX hKY hKN hW hS rfl hl.1 rfl (Nat.le_of_ble_eq_true rfl) dL_refuses_150 ⟨(by show _ + _ ≤ 143; omega), (by show _ + _ ≤ 6656; omega)⟩ (fun H locs hW hS => ?_)
          rw [← eM100] at hW
          refine lv_ldc hx hb hown (hts (.constant RL 25 (-2000000001)) (List.mem_of_getElem? (i := 2) rfl)) dL_refuses_153 ?_
          refine lv_icmp_ne (tgt := 692) hx hb dL_refuses_155 (by decide) (fun k155 => ?_) (fun k155 => ?_)
          · have hf := (op_if hf).2 k155
            refine W.widen (k := 80) (n := 3364) (by omega) (by omega) ?_
            exact hj96 M100 H locs ls (lv_sub hl [3, 4, 5, 6] rfl) hW hS hf
          have hf := (op_if hf).1 k155
          refine lv_aload_n hx hb dL_refuses_158 rfl (lv_at hl 4 rfl) ?_
          refine lv_iload hx hb dL_refuses_159 (lv_at hl 2 rfl) ?_
          refine lv_iconst (v := (0)) hx hb dL_refuses_161 (by decide) ?_
          refine lv_sipush (v := (9999)) hx hb dL_refuses_162 (by decide) ?_
          obtain ⟨M101, eM101, hf⟩ := op_st hf
          refine g_callW (As := [.ref a_1, .int x6, .int (0 : Int32), .int (9999 : Int32)]) (rest := []) ⟨hx, hb, hml, hown, hts⟩ (aL_points l hl0 Γ a_1 M100 (nC Γ qn I :: X) x6 (0 : Int32) (9999 : Int32)) (vx_cwSW 4 hts gL_refuses_L_points rfl rfl rfl (by decide +kernel) ⟨Nat.le_of_ble_eq_true rfl, Nat.le_of_ble_eq_true rfl⟩) hKK hKX hKY hKN hW hS rfl hl.1 rfl (Nat.le_of_ble_eq_true rfl) dL_refuses_165 ⟨(by show _ + _ ≤ 143; omega), (by show _ + _ ≤ 6656; omega)⟩ (fun H locs hW hS => ?_)
          rw [← eM101] at hW
          refine lv_ldc hx hb hown (hts (.constant RL 25 (-2000000001)) (List.mem_of_getElem? (i := 2) rfl)) dL_refuses_168 ?_
          refine lv_icmp_ne (tgt := 692) hx hb dL_refuses_170 (by decide) (fun k170 => ?_) (fun k170 => ?_)
          · have hf := (op_if hf).2 k170
            refine W.widen (k := 80) (n := 3364) (by omega) (by omega) ?_
            exact hj96 M101 H locs ls (lv_sub hl [3, 4, 5, 6] rfl) hW hS hf
          have hf := (op_if hf).1 k170
          refine lv_aload_n hx hb dL_refuses_173 rfl (lv_at hl 4 rfl) ?_
          refine lv_iload hx hb dL_refuses_174 (lv_at hl 2 rfl) ?_
          refine lv_iconst (v := (0)) hx hb dL_refuses_176 (by decide) ?_
          refine lv_bipush (v := (-5)) hx hb dL_refuses_177 (by decide) ?_
          refine lv_iconst (v := (0)) hx hb dL_refuses_179 (by decide) ?_
          refine lv_iconst (v := (0)) hx hb dL_refuses_180 (by decide) ?_
          obtain ⟨M102, eM102, hf⟩ := op_st hf
          refine g_callW (As := [.ref a_1, .int x6, .int (0 : Int32), .int (-5 : Int32), .int (0 : Int32), .int (0 : Int32)]) (rest := []) ⟨hx, hb, hml, hown, hts⟩ (aL_modes l hl0 Γ a_1 M101 (nC Γ qn I :: X) x6 (0 : Int32) (-5 : Int32) (0 : Int32) (0 : Int32)) (vx_cwSW 6 hts gL_refuses_L_modes rfl rfl rfl (by decide +kernel) ⟨Nat.le_of_ble_eq_true rfl, Nat.le_of_ble_eq_true rfl⟩) hKK hKX hKY hKN hW hS rfl hl.1 rfl (Nat.le_of_ble_eq_true rfl) dL_refuses_181 ⟨(by show _ + _ ≤ 143; omega), (by show _ + _ ≤ 6656; omega)⟩ (fun H locs hW hS => ?_)
          rw [← eM102] at hW
          refine lv_ldc hx hb hown (hts (.constant RL 25 (-2000000001)) (List.mem_of_getElem? (i := 2) rfl)) dL_refuses_184 ?_
          refine lv_icmp_ne (tgt := 692) hx hb dL_refuses_186 (by decide) (fun k186 => ?_) (fun k186 => ?_)
          · have hf := (op_if hf).2 k186
            refine W.widen (k := 80) (n := 3364) (by omega) (by omega) ?_
            exact hj96 M102 H locs ls (lv_sub hl [3, 4, 5, 6] rfl) hW hS hf
          have hf := (op_if hf).1 k186
          refine lv_aload_n hx hb dL_refuses_189 rfl (lv_at hl 4 rfl) ?_
          refine lv_iload hx hb dL_refuses_190 (lv_at hl 2 rfl) ?_
          refine lv_iconst (v := (0)) hx hb dL_refuses_192 (by decide) ?_
          obtain ⟨M103, eM103, hf⟩ := op_st hf
          refine g_callW (As := [.ref a_1, .int x6, .int (0 : Int32)]) (rest := []) ⟨hx, hb, hml, hown, hts⟩ (aL_stick l hl0 Γ a_1 M102 (nC Γ qn I :: X) x6 (0 : Int32)) (vx_cwSW 3 hts gL_refuses_L_stick rfl rfl rfl (by decide +kernel) ⟨Nat.le_of_ble_eq_true rfl, Nat.le_of_ble_eq_true rfl⟩) hKK hKX hKY hKN hW hS rfl hl.1 rfl (Nat.le_of_ble_eq_true rfl) dL_refuses_193 ⟨(by show _ + _ ≤ 143; omega), (by show _ + _ ≤ 6656; omega)⟩ (fun H locs hW hS => ?_)
          rw [← eM103] at hW
          refine lv_ldc hx hb hown (hts (.constant RL 25 (-2000000001)) (List.mem_of_getElem? (i := 2) rfl)) dL_refuses_196 ?_
          refine lv_icmp_ne (tgt := 692) hx hb dL_refuses_198 (by decide) (fun k198 => ?_) (fun k198 => ?_)
          · have hf := (op_if hf).2 k198
            refine W.widen (k := 80) (n := 3364) (by omega) (by omega) ?_
            exact hj96 M103 H locs ls (lv_sub hl [3, 4, 5, 6] rfl) hW hS hf
          have hf := (op_if hf).1 k198
          refine lv_aload_n hx hb dL_refuses_201 rfl (lv_at hl 4 rfl) ?_
          refine lv_iload hx hb dL_refuses_202 (lv_at hl 2 rfl) ?_
          refine lv_iconst (v := (0)) hx hb dL_refuses_204 (by decide) ?_
          refine g_callW (As := [.ref a_1, .int x6, .int (0 : Int32)]) (rest := []) ⟨hx, hb, hml, hown, hts⟩ (aL_sticks l hl0 Γ a_1 M103 (nC Γ qn I :: X) x6 (0 : Int32)) (vx_cwSW 3 hts gL_refuses_L_sticks rfl rfl rfl (by decide +kernel) ⟨Nat.le_of_ble_eq_true rfl, Nat.le_of_ble_eq_true rfl⟩) hKK hKX hKY hKN hW hS rfl hl.1 rfl (Nat.le_of_ble_eq_true rfl) dL_refuses_205 ⟨(by show _ + _ ≤ 143; omega), (by show _ + _ ≤ 6656; omega)⟩ (fun H locs hW hS => ?_)
          refine lv_ldc hx hb hown (hts (.constant RL 25 (-2000000001)) (List.mem_of_getElem? (i := 2) rfl)) dL_refuses_208 ?_
          refine lv_icmp_ne (tgt := 692) hx hb dL_refuses_210 (by decide) (fun k210 => ?_) (fun k210 => ?_)
          · have hf := (op_if hf).2 k210
            refine W.widen (k := 80) (n := 3364) (by omega) (by omega) ?_
            exact hj96 M103 H locs ls (lv_sub hl [3, 4, 5, 6] rfl) hW hS hf
          have hf := (op_if hf).1 k210
          refine lv_aload_n hx hb dL_refuses_213 rfl (lv_at hl 4 rfl) ?_
          refine lv_iload hx hb dL_refuses_214 (lv_at hl 2 rfl) ?_
          refine lv_iconst (v := (0)) hx hb dL_refuses_216 (by decide) ?_
          refine g_callW (As := [.ref a_1, .int x6, .int (0 : Int32)]) (rest := []) ⟨hx, hb, hml, hown, hts⟩ (aL_wear l hl0 Γ a_1 M103 (nC Γ qn I :: X) x6 (0 : Int32)) (vx_cwSW 3 hts gL_refuses_L_wear rfl rfl rfl (by decide +kernel) ⟨Nat.le_of_ble_eq_true rfl, Nat.le_of_ble_eq_true rfl⟩) hKK hKX hKY hKN hW hS rfl hl.1 rfl (Nat.le_of_ble_eq_true rfl) dL_refuses_217 ⟨(by show _ + _ ≤ 143; omega), (by show _ + _ ≤ 6656; omega)⟩ (fun H locs hW hS => ?_)
          refine lv_ldc hx hb hown (hts (.constant RL 25 (-2000000001)) (List.mem_of_getElem? (i := 2) rfl)) dL_refuses_220 ?_
          refine lv_icmp_ne (tgt := 692) hx hb dL_refuses_222 (by decide) (fun k222 => ?_) (fun k222 => ?_)
          · have hf := (op_if hf).2 k222
            refine W.widen (k := 80) (n := 3364) (by omega) (by omega) ?_
            exact hj96 M103 H locs ls (lv_sub hl [3, 4, 5, 6] rfl) hW hS hf
          have hf := (op_if hf).1 k222
          refine lv_aload_n hx hb dL_refuses_225 rfl (lv_at hl 4 rfl) ?_
          refine lv_iload hx hb dL_refuses_226 (lv_at hl 2 rfl) ?_
          obtain ⟨M104, eM104, hf⟩ := op_st hf
          refine g_callW (As := [.ref a_1, .int x6]) (rest := []) ⟨hx, hb, hml, hown, hts⟩ (aL_coin l hl0 Γ a_1 M103 (nC Γ qn I :: X) x6) (vx_cwSW 2 hts gL_refuses_L_coin rfl rfl rfl (by decide +kernel) ⟨Nat.le_of_ble_eq_true rfl, Nat.le_of_ble_eq_true rfl⟩) hKK hKX hKY hKN hW hS rfl hl.1 rfl (Nat.le_of_ble_eq_true rfl) dL_refuses_228 ⟨(by show _ + _ ≤ 143; omega), (by show _ + _ ≤ 6656; omega)⟩ (fun H locs hW hS => ?_)
          rw [← eM104] at hW
          refine lv_ldc hx hb hown (hts (.constant RL 25 (-2000000001)) (List.mem_of_getElem? (i := 2) rfl)) dL_refuses_231 ?_
          refine lv_icmp_ne (tgt := 692) hx hb dL_refuses_233 (by decide) (fun k233 => ?_) (fun k233 => ?_)
          · have hf := (op_if hf).2 k233
            refine W.widen (k := 80) (n := 3364) (by omega) (by omega) ?_
            exact hj96 M104 H locs ls (lv_sub hl [3, 4, 5, 6] rfl) hW hS hf
          have hf := (op_if hf).1 k233
          refine lv_aload_n hx hb dL_refuses_236 rfl (lv_at hl 4 rfl) ?_
          refine lv_iload hx hb dL_refuses_237 (lv_at hl 2 rfl) ?_
          refine lv_sipush (v := (999)) hx hb dL_refuses_239 (by decide) ?_
          refine lv_iconst (v := (0)) hx hb dL_refuses_242 (by decide) ?_
          refine lv_iconst (v := (0)) hx hb dL_refuses_243 (by decide) ?_
          obtain ⟨M105, eM105, hf⟩ := op_st hf
          refine g_callW (As := [.ref a_1, .int x6, .int (999 : Int32), .int (0 : Int32), .int (0 : Int32)]) (rest := []) ⟨hx, hb, hml, hown, hts⟩ (aL_shoot l hl0 Γ a_1 M104 (nC Γ qn I :: X) x6 (999 : Int32) (0 : Int32) (0 : Int32)) (vx_cwSW 5 hts gL_refuses_L_shoot rfl rfl rfl (by decide +kernel) ⟨Nat.le_of_ble_eq_true rfl, Nat.le_of_ble_eq_true rfl⟩) hKK hKX hKY hKN hW hS rfl hl.1 rfl (Nat.le_of_ble_eq_true rfl) dL_refuses_244 ⟨(by show _ + _ ≤ 143; omega), (by show _ + _ ≤ 6656; omega)⟩ (fun H locs hW hS => ?_)
          rw [← eM105] at hW
          refine lv_ldc hx hb hown (hts (.constant RL 25 (-2000000001)) (List.mem_of_getElem? (i := 2) rfl)) dL_refuses_247 ?_
          refine lv_icmp_ne (tgt := 692) hx hb dL_refuses_249 (by decide) (fun k249 => ?_) (fun k249 => ?_)
          · have hf := (op_if hf).2 k249
            refine W.widen (k := 80) (n := 3364) (by omega) (by omega) ?_
            exact hj96 M105 H locs ls (lv_sub hl [3, 4, 5, 6] rfl) hW hS hf
          have hf := (op_if hf).1 k249
          refine lv_aload_n hx hb dL_refuses_252 rfl (lv_at hl 4 rfl) ?_
          refine lv_iload hx hb dL_refuses_253 (lv_at hl 2 rfl) ?_
          refine g_callW (As := [.ref a_1, .int x6]) (rest := []) ⟨hx, hb, hml, hown, hts⟩ (aL_gameAt l hl0 Γ a_1 M105 (nC Γ qn I :: X) x6) (vx_cwSW 2 hts gL_refuses_L_gameAt rfl rfl rfl (by decide +kernel) ⟨Nat.le_of_ble_eq_true rfl, Nat.le_of_ble_eq_true rfl⟩) hKK hKX hKY hKN hW hS rfl hl.1 rfl (Nat.le_of_ble_eq_true rfl) dL_refuses_255 ⟨(by show _ + _ ≤ 143; omega), (by show _ + _ ≤ 6656; omega)⟩ (fun H locs hW hS => ?_)
          refine lv_ldc hx hb hown (hts (.constant RL 25 (-2000000001)) (List.mem_of_getElem? (i := 2) rfl)) dL_refuses_258 ?_
          refine lv_icmp_ne (tgt := 692) hx hb dL_refuses_260 (by decide) (fun k260 => ?_) (fun k260 => ?_)
          · have hf := (op_if hf).2 k260
            refine W.widen (k := 80) (n := 3364) (by omega) (by omega) ?_
            exact hj96 M105 H locs ls (lv_sub hl [3, 4, 5, 6] rfl) hW hS hf
          have hf := (op_if hf).1 k260
          refine lv_aload_n hx hb dL_refuses_263 rfl (lv_at hl 4 rfl) ?_
          refine lv_iload hx hb dL_refuses_264 (lv_at hl 1 rfl) ?_
          refine g_callW (As := [.ref a_1, .int x9]) (rest := []) ⟨hx, hb, hml, hown, hts⟩ (aL_balls l hl0 Γ a_1 M105 (nC Γ qn I :: X) x9) (vx_cwSW 2 hts gL_refuses_L_balls rfl rfl rfl (by decide +kernel) ⟨Nat.le_of_ble_eq_true rfl, Nat.le_of_ble_eq_true rfl⟩) hKK hKX hKY hKN hW hS rfl hl.1 rfl (Nat.le_of_ble_eq_true rfl) dL_refuses_266 ⟨(by show _ + _ ≤ 143; omega), (by show _ + _ ≤ 6656; omega)⟩ (fun H locs hW hS => ?_)
          refine lv_ldc hx hb hown (hts (.constant RL 25 (-2000000001)) (List.mem_of_getElem? (i := 2) rfl)) dL_refuses_269 ?_
          refine lv_icmp_ne (tgt := 692) hx hb dL_refuses_271 (by decide) (fun k271 => ?_) (fun k271 => ?_)
          · have hf := (op_if hf).2 k271
            refine W.widen (k := 80) (n := 3364) (by omega) (by omega) ?_
            exact hj96 M105 H locs ls (lv_sub hl [3, 4, 5, 6] rfl) hW hS hf
          have hf := (op_if hf).1 k271
          refine lv_aload_n hx hb dL_refuses_274 rfl (lv_at hl 4 rfl) ?_
          refine lv_iload hx hb dL_refuses_275 (lv_at hl 1 rfl) ?_
          refine g_callW (As := [.ref a_1, .int x9]) (rest := []) ⟨hx, hb, hml, hown, hts⟩ (aL_stack l hl0 Γ a_1 M105 (nC Γ qn I :: X) x9) (vx_cwSW 2 hts gL_refuses_L_stack rfl rfl rfl (by decide +kernel) ⟨Nat.le_of_ble_eq_true rfl, Nat.le_of_ble_eq_true rfl⟩) hKK hKX hKY hKN hW hS rfl hl.1 rfl (Nat.le_of_ble_eq_true rfl) dL_refuses_277 ⟨(by show _ + _ ≤ 143; omega), (by show _ + _ ≤ 6656; omega)⟩ (fun H locs hW hS => ?_)
          refine lv_ldc hx hb hown (hts (.constant RL 25 (-2000000001)) (List.mem_of_getElem? (i := 2) rfl)) dL_refuses_280 ?_
          refine lv_icmp_ne (tgt := 692) hx hb dL_refuses_282 (by decide) (fun k282 => ?_) (fun k282 => ?_)
          · have hf := (op_if hf).2 k282
            refine W.widen (k := 80) (n := 3364) (by omega) (by omega) ?_
            exact hj96 M105 H locs ls (lv_sub hl [3, 4, 5, 6] rfl) hW hS hf
          have hf := (op_if hf).1 k282
          refine lv_aload_n hx hb dL_refuses_285 rfl (lv_at hl 4 rfl) ?_
          refine lv_iload hx hb dL_refuses_286 (lv_at hl 1 rfl) ?_
          refine g_callW (As := [.ref a_1, .int x9]) (rest := []) ⟨hx, hb, hml, hown, hts⟩ (aL_score l hl0 Γ a_1 M105 (nC Γ qn I :: X) x9) (vx_cwSW 2 hts gL_refuses_L_score rfl rfl rfl (by decide +kernel) ⟨Nat.le_of_ble_eq_true rfl, Nat.le_of_ble_eq_true rfl⟩) hKK hKX hKY hKN hW hS rfl hl.1 rfl (Nat.le_of_ble_eq_true rfl) dL_refuses_288 ⟨(by show _ + _ ≤ 143; omega), (by show _ + _ ≤ 6656; omega)⟩ (fun H locs hW hS => ?_)
          refine lv_ldc hx hb hown (hts (.constant RL 25 (-2000000001)) (List.mem_of_getElem? (i := 2) rfl)) dL_refuses_291 ?_
          refine lv_icmp_ne (tgt := 692) hx hb dL_refuses_293 (by decide) (fun k293 => ?_) (fun k293 => ?_)
          · have hf := (op_if hf).2 k293
            refine W.widen (k := 80) (n := 3364) (by omega) (by omega) ?_
            exact hj96 M105 H locs ls (lv_sub hl [3, 4, 5, 6] rfl) hW hS hf
          have hf := (op_if hf).1 k293
          refine lv_aload_n hx hb dL_refuses_296 rfl (lv_at hl 4 rfl) ?_
          refine lv_iload hx hb dL_refuses_297 (lv_at hl 1 rfl) ?_
          refine g_callW (As := [.ref a_1, .int x9]) (rest := []) ⟨hx, hb, hml, hown, hts⟩ (aL_byLog l hl0 Γ a_1 M105 (nC Γ qn I :: X) x9) (vx_cwSW 2 hts gL_refuses_L_byLog rfl rfl rfl (by decide +kernel) ⟨Nat.le_of_ble_eq_true rfl, Nat.le_of_ble_eq_true rfl⟩) hKK hKX hKY hKN hW hS rfl hl.1 rfl (Nat.le_of_ble_eq_true rfl) dL_refuses_299 ⟨(by show _ + _ ≤ 143; omega), (by show _ + _ ≤ 6656; omega)⟩ (fun H locs hW hS => ?_)
          refine lv_ldc hx hb hown (hts (.constant RL 25 (-2000000001)) (List.mem_of_getElem? (i := 2) rfl)) dL_refuses_302 ?_
          refine lv_icmp_ne (tgt := 692) hx hb dL_refuses_304 (by decide) (fun k304 => ?_) (fun k304 => ?_)
          · have hf := (op_if hf).2 k304
            refine W.widen (k := 80) (n := 3364) (by omega) (by omega) ?_
            exact hj96 M105 H locs ls (lv_sub hl [3, 4, 5, 6] rfl) hW hS hf
          have hf := (op_if hf).1 k304
          refine lv_aload_n hx hb dL_refuses_307 rfl (lv_at hl 4 rfl) ?_
          refine lv_iload hx hb dL_refuses_308 (lv_at hl 1 rfl) ?_
          refine g_callW (As := [.ref a_1, .int x9]) (rest := []) ⟨hx, hb, hml, hown, hts⟩ (aL_valid l hl0 Γ a_1 M105 (nC Γ qn I :: X) x9) (vx_cwSW 2 hts gL_refuses_L_valid rfl rfl rfl (by decide +kernel) ⟨Nat.le_of_ble_eq_true rfl, Nat.le_of_ble_eq_true rfl⟩) hKK hKX hKY hKN hW hS rfl hl.1 rfl (Nat.le_of_ble_eq_true rfl) dL_refuses_310 ⟨(by show _ + _ ≤ 143; omega), (by show _ + _ ≤ 6656; omega)⟩ (fun H locs hW hS => ?_)
          refine lv_ldc hx hb hown (hts (.constant RL 25 (-2000000001)) (List.mem_of_getElem? (i := 2) rfl)) dL_refuses_313 ?_
          refine lv_icmp_ne (tgt := 692) hx hb dL_refuses_315 (by decide) (fun k315 => ?_) (fun k315 => ?_)
          · have hf := (op_if hf).2 k315
            refine W.widen (k := 80) (n := 3364) (by omega) (by omega) ?_
            exact hj96 M105 H locs ls (lv_sub hl [3, 4, 5, 6] rfl) hW hS hf
          have hf := (op_if hf).1 k315
          refine lv_aload_n hx hb dL_refuses_318 rfl (lv_at hl 4 rfl) ?_
          refine lv_iload hx hb dL_refuses_319 (lv_at hl 1 rfl) ?_
          refine g_callW (As := [.ref a_1, .int x9]) (rest := []) ⟨hx, hb, hml, hown, hts⟩ (aL_logged l hl0 Γ a_1 M105 (nC Γ qn I :: X) x9) (vx_cwSW 2 hts gL_refuses_L_logged rfl rfl rfl (by decide +kernel) ⟨Nat.le_of_ble_eq_true rfl, Nat.le_of_ble_eq_true rfl⟩) hKK hKX hKY hKN hW hS rfl hl.1 rfl (Nat.le_of_ble_eq_true rfl) dL_refuses_321 ⟨(by show _ + _ ≤ 143; omega), (by show _ + _ ≤ 6656; omega)⟩ (fun H locs hW hS => ?_)
          refine lv_ldc hx hb hown (hts (.constant RL 25 (-2000000001)) (List.mem_of_getElem? (i := 2) rfl)) dL_refuses_324 ?_
          refine lv_icmp_ne (tgt := 692) hx hb dL_refuses_326 (by decide) (fun k326 => ?_) (fun k326 => ?_)
          · have hf := (op_if hf).2 k326
            refine W.widen (k := 80) (n := 3364) (by omega) (by omega) ?_
            exact hj96 M105 H locs ls (lv_sub hl [3, 4, 5, 6] rfl) hW hS hf
          have hf := (op_if hf).1 k326
          refine lv_aload_n hx hb dL_refuses_329 rfl (lv_at hl 4 rfl) ?_
          refine lv_iload hx hb dL_refuses_330 (lv_at hl 1 rfl) ?_
          refine lv_iconst (v := (0)) hx hb dL_refuses_332 (by decide) ?_
          refine g_callW (As := [.ref a_1, .int x9, .int (0 : Int32)]) (rest := []) ⟨hx, hb, hml, hown, hts⟩ (aL_entry l hl0 Γ a_1 M105 (nC Γ qn I :: X) x9 (0 : Int32)) (vx_cwSW 3 hts gL_refuses_L_entry rfl rfl rfl (by decide +kernel) ⟨Nat.le_of_ble_eq_true rfl, Nat.le_of_ble_eq_true rfl⟩) hKK hKX hKY hKN hW hS rfl hl.1 rfl (Nat.le_of_ble_eq_true rfl) dL_refuses_333 ⟨(by show _ + _ ≤ 143; omega), (by show _ + _ ≤ 6656; omega)⟩ (fun H locs hW hS => ?_)
          refine lv_ldc2 hx hb hown (hts (.constantLong RL 77 (-2000000001)) (List.mem_of_getElem? (i := 3) rfl)) dL_refuses_336 ?_
          refine W.lcmp hx hb dL_refuses_339 ?_
          refine lv_if_ne (tgt := 692) hx hb dL_refuses_340 (by decide) (fun k340 => ?_) (fun k340 => ?_)
          · have hf := (op_if hf).2 k340
            refine W.widen (k := 80) (n := 3364) (by omega) (by omega) ?_
            exact hj96 M105 H locs ls (lv_sub hl [3, 4, 5, 6] rfl) hW hS hf
          have hf := (op_if hf).1 k340
          refine lv_aload_n hx hb dL_refuses_343 rfl (lv_at hl 4 rfl) ?_
          refine lv_iload hx hb dL_refuses_344 (lv_at hl 1 rfl) ?_
          refine g_callW (As := [.ref a_1, .int x9]) (rest := []) ⟨hx, hb, hml, hown, hts⟩ (aL_twin l hl0 Γ a_1 M105 (nC Γ qn I :: X) x9) (vx_cwSW 2 hts gL_refuses_L_twin rfl rfl rfl (by decide +kernel) ⟨Nat.le_of_ble_eq_true rfl, Nat.le_of_ble_eq_true rfl⟩) hKK hKX hKY hKN hW hS rfl hl.1 rfl (Nat.le_of_ble_eq_true rfl) dL_refuses_346 ⟨(by show _ + _ ≤ 143; omega), (by show _ + _ ≤ 6656; omega)⟩ (fun H locs hW hS => ?_)
          refine lv_ldc hx hb hown (hts (.constant RL 25 (-2000000001)) (List.mem_of_getElem? (i := 2) rfl)) dL_refuses_349 ?_
          refine lv_icmp_ne (tgt := 692) hx hb dL_refuses_351 (by decide) (fun k351 => ?_) (fun k351 => ?_)
          · have hf := (op_if hf).2 k351
            refine W.widen (k := 80) (n := 3364) (by omega) (by omega) ?_
            exact hj96 M105 H locs ls (lv_sub hl [3, 4, 5, 6] rfl) hW hS hf
          have hf := (op_if hf).1 k351
          refine lv_aload_n hx hb dL_refuses_354 rfl (lv_at hl 4 rfl) ?_
          refine lv_iload hx hb dL_refuses_355 (lv_at hl 2 rfl) ?_
          refine lv_iconst (v := (-1)) hx hb dL_refuses_357 (by decide) ?_
          refine g_callW (As := [.ref a_1, .int x6, .int (-1 : Int32)]) (rest := []) ⟨hx, hb, hml, hown, hts⟩ (aL_high l hl0 Γ a_1 M105 (nC Γ qn I :: X) x6 (-1 : Int32)) (vx_cwSW 3 hts gL_refuses_L_high rfl rfl rfl (by decide +kernel) ⟨Nat.le_of_ble_eq_true rfl, Nat.le_of_ble_eq_true rfl⟩) hKK hKX hKY hKN hW hS rfl hl.1 rfl (Nat.le_of_ble_eq_true rfl) dL_refuses_358 ⟨(by show _ + _ ≤ 143; omega), (by show _ + _ ≤ 6656; omega)⟩ (fun H locs hW hS => ?_)
          refine lv_ldc hx hb hown (hts (.constant RL 25 (-2000000001)) (List.mem_of_getElem? (i := 2) rfl)) dL_refuses_361 ?_
          refine lv_icmp_ne (tgt := 692) hx hb dL_refuses_363 (by decide) (fun k363 => ?_) (fun k363 => ?_)
          · have hf := (op_if hf).2 k363
            refine W.widen (k := 80) (n := 3364) (by omega) (by omega) ?_
            exact hj96 M105 H locs ls (lv_sub hl [3, 4, 5, 6] rfl) hW hS hf
          have hf := (op_if hf).1 k363
          refine lv_aload_n hx hb dL_refuses_366 rfl (lv_at hl 4 rfl) ?_
          refine lv_iload hx hb dL_refuses_367 (lv_at hl 2 rfl) ?_
          refine lv_iconst (v := (0)) hx hb dL_refuses_369 (by decide) ?_
          obtain ⟨M106, eM106, hf⟩ := op_st hf
          refine g_callW (As := [.ref a_1, .int x6, .int (0 : Int32)]) (rest := []) ⟨hx, hb, hml, hown, hts⟩ (aL_rob l hl0 Γ a_1 M105 (nC Γ qn I :: X) x6 (0 : Int32)) (vx_cwSW 3 hts gL_refuses_L_rob rfl rfl rfl (by decide +kernel) ⟨Nat.le_of_ble_eq_true rfl, Nat.le_of_ble_eq_true rfl⟩) hKK hKX hKY hKN hW hS rfl hl.1 rfl (Nat.le_of_ble_eq_true rfl) dL_refuses_370 ⟨(by show _ + _ ≤ 143; omega), (by show _ + _ ≤ 6656; omega)⟩ (fun H locs hW hS => ?_)
          rw [← eM106] at hW
          refine lv_ldc hx hb hown (hts (.constant RL 25 (-2000000001)) (List.mem_of_getElem? (i := 2) rfl)) dL_refuses_373 ?_
          refine lv_icmp_ne (tgt := 692) hx hb dL_refuses_375 (by decide) (fun k375 => ?_) (fun k375 => ?_)
          · have hf := (op_if hf).2 k375
            refine W.widen (k := 80) (n := 3364) (by omega) (by omega) ?_
            exact hj96 M106 H locs ls (lv_sub hl [3, 4, 5, 6] rfl) hW hS hf
          have hf := (op_if hf).1 k375
          refine lv_aload_n hx hb dL_refuses_378 rfl (lv_at hl 4 rfl) ?_
          refine lv_iload hx hb dL_refuses_379 (lv_at hl 2 rfl) ?_
          refine g_callW (As := [.ref a_1, .int x6]) (rest := []) ⟨hx, hb, hml, hown, hts⟩ (aL_box l hl0 Γ a_1 M106 (nC Γ qn I :: X) x6) (vx_cwSW 2 hts gL_refuses_L_box rfl rfl rfl (by decide +kernel) ⟨Nat.le_of_ble_eq_true rfl, Nat.le_of_ble_eq_true rfl⟩) hKK hKX hKY hKN hW hS rfl hl.1 rfl (Nat.le_of_ble_eq_true rfl) dL_refuses_381 ⟨(by show _ + _ ≤ 143; omega), (by show _ + _ ≤ 6656; omega)⟩ (fun H locs hW hS => ?_)
          refine lv_ldc hx hb hown (hts (.constant RL 25 (-2000000001)) (List.mem_of_getElem? (i := 2) rfl)) dL_refuses_384 ?_
          refine lv_icmp_ne (tgt := 692) hx hb dL_refuses_386 (by decide) (fun k386 => ?_) (fun k386 => ?_)
          · have hf := (op_if hf).2 k386
            refine W.widen (k := 80) (n := 3364) (by omega) (by omega) ?_
            exact hj96 M106 H locs ls (lv_sub hl [3, 4, 5, 6] rfl) hW hS hf
          have hf := (op_if hf).1 k386
          refine lv_aload_n hx hb dL_refuses_389 rfl (lv_at hl 4 rfl) ?_
          refine lv_iload hx hb dL_refuses_390 (lv_at hl 2 rfl) ?_
          refine g_callW (As := [.ref a_1, .int x6]) (rest := []) ⟨hx, hb, hml, hown, hts⟩ (aL_missing l hl0 Γ a_1 M106 (nC Γ qn I :: X) x6) (vx_cwSW 2 hts gL_refuses_L_missing rfl rfl rfl (by decide +kernel) ⟨Nat.le_of_ble_eq_true rfl, Nat.le_of_ble_eq_true rfl⟩) hKK hKX hKY hKN hW hS rfl hl.1 rfl (Nat.le_of_ble_eq_true rfl) dL_refuses_392 ⟨(by show _ + _ ≤ 143; omega), (by show _ + _ ≤ 6656; omega)⟩ (fun H locs hW hS => ?_)
          refine lv_ldc hx hb hown (hts (.constant RL 25 (-2000000001)) (List.mem_of_getElem? (i := 2) rfl)) dL_refuses_395 ?_
          refine lv_icmp_ne (tgt := 692) hx hb dL_refuses_397 (by decide) (fun k397 => ?_) (fun k397 => ?_)
          · have hf := (op_if hf).2 k397
            refine W.widen (k := 80) (n := 3364) (by omega) (by omega) ?_
            exact hj96 M106 H locs ls (lv_sub hl [3, 4, 5, 6] rfl) hW hS hf
          have hf := (op_if hf).1 k397
          refine lv_aload_n hx hb dL_refuses_400 rfl (lv_at hl 4 rfl) ?_
          refine lv_iload hx hb dL_refuses_401 (lv_at hl 0 rfl) ?_
          refine lv_iconst (v := (5)) hx hb dL_refuses_403 (by decide) ?_
          refine lv_iconst (v := (0)) hx hb dL_refuses_404 (by decide) ?_
          obtain ⟨M107, eM107, hf⟩ := op_st hf
          refine g_callW (As := [.ref a_1, .int x12, .int (5 : Int32), .int (0 : Int32)]) (rest := []) ⟨hx, hb, hml, hown, hts⟩ (aL_load l hl0 Γ a_1 M106 (nC Γ qn I :: X) x12 (5 : Int32) (0 : Int32)) (vx_cwSW 4 hts gL_refuses_L_load rfl rfl rfl (by decide +kernel) ⟨Nat.le_of_ble_eq_true rfl, Nat.le_of_ble_eq_true rfl⟩) hKK hKX hKY hKN hW hS rfl hl.1 rfl (Nat.le_of_ble_eq_true rfl) dL_refuses_405 ⟨(by show _ + _ ≤ 143; omega), (by show _ + _ ≤ 6656; omega)⟩ (fun H locs hW hS => ?_)
          rw [← eM107] at hW
          refine lv_ldc hx hb hown (hts (.constant RL 25 (-2000000001)) (List.mem_of_getElem? (i := 2) rfl)) dL_refuses_408 ?_
          refine lv_icmp_ne (tgt := 692) hx hb dL_refuses_410 (by decide) (fun k410 => ?_) (fun k410 => ?_)
          · have hf := (op_if hf).2 k410
            refine W.widen (k := 80) (n := 3364) (by omega) (by omega) ?_
            exact hj96 M107 H locs ls (lv_sub hl [3, 4, 5, 6] rfl) hW hS hf
          have hf := (op_if hf).1 k410
          refine lv_aload_n hx hb dL_refuses_413 rfl (lv_at hl 4 rfl) ?_
          refine lv_iload_n hx hb dL_refuses_414 rfl (lv_at hl 6 rfl) ?_
          refine lv_iconst (v := (2)) hx hb dL_refuses_415 (by decide) ?_
          refine lv_irem hx hb dL_refuses_416 (by decide) ?_
          refine lv_iconst (v := (2)) hx hb dL_refuses_417 (by decide) ?_
          refine lv_iload_n hx hb dL_refuses_418 rfl (lv_at hl 6 rfl) ?_
          refine lv_iadd hx hb dL_refuses_419 ?_
          refine lv_iconst (v := (1)) hx hb dL_refuses_420 (by decide) ?_
          obtain ⟨M108, eM108, hf⟩ := op_st hf
          refine g_callW (As := [.ref a_1, .int (i_3 - i_3 / (2 : Int32) * (2 : Int32)), .int ((2 : Int32) + i_3), .int (1 : Int32)]) (rest := []) ⟨hx, hb, hml, hown, hts⟩ (aL_load l hl0 Γ a_1 M107 (nC Γ qn I :: X) (i_3 - i_3 / (2 : Int32) * (2 : Int32)) ((2 : Int32) + i_3) (1 : Int32)) (vx_cwSW 4 hts gL_refuses_L_load rfl rfl rfl (by decide +kernel) ⟨Nat.le_of_ble_eq_true rfl, Nat.le_of_ble_eq_true rfl⟩) hKK hKX hKY hKN hW hS rfl hl.1 rfl (Nat.le_of_ble_eq_true rfl) dL_refuses_421 ⟨(by show _ + _ ≤ 143; omega), (by show _ + _ ≤ 6656; omega)⟩ (fun H locs hW hS => ?_)
          rw [← eM108] at hW
          refine lv_ldc hx hb hown (hts (.constant RL 15 (-2000000002)) (List.mem_of_getElem? (i := 1) rfl)) dL_refuses_424 ?_
          refine lv_icmp_ne (tgt := 692) hx hb dL_refuses_426 (by decide) (fun k426 => ?_) (fun k426 => ?_)
          · have hf := (op_if hf).2 k426
            refine W.widen (k := 80) (n := 3364) (by omega) (by omega) ?_
            exact hj96 M108 H locs ls (lv_sub hl [3, 4, 5, 6] rfl) hW hS hf
          have hf := (op_if hf).1 k426
          refine lv_aload_n hx hb dL_refuses_429 rfl (lv_at hl 4 rfl) ?_
          refine lv_iload_n hx hb dL_refuses_430 rfl (lv_at hl 6 rfl) ?_
          refine lv_iconst (v := (2)) hx hb dL_refuses_431 (by decide) ?_
          refine lv_irem hx hb dL_refuses_432 (by decide) ?_
          refine lv_iconst (v := (-1)) hx hb dL_refuses_433 (by decide) ?_
          refine lv_iload_n hx hb dL_refuses_434 rfl (lv_at hl 6 rfl) ?_
          refine lv_isub hx hb dL_refuses_435 ?_
          refine lv_iconst (v := (1)) hx hb dL_refuses_436 (by decide) ?_
          obtain ⟨M109, eM109, hf⟩ := op_st hf
          refine g_callW (As := [.ref a_1, .int (i_3 - i_3 / (2 : Int32) * (2 : Int32)), .int ((-1 : Int32) - i_3), .int (1 : Int32)]) (rest := []) ⟨hx, hb, hml, hown, hts⟩ (aL_load l hl0 Γ a_1 M108 (nC Γ qn I :: X) (i_3 - i_3 / (2 : Int32) * (2 : Int32)) ((-1 : Int32) - i_3) (1 : Int32)) (vx_cwSW 4 hts gL_refuses_L_load rfl rfl rfl (by decide +kernel) ⟨Nat.le_of_ble_eq_true rfl, Nat.le_of_ble_eq_true rfl⟩) hKK hKX hKY hKN hW hS rfl hl.1 rfl (Nat.le_of_ble_eq_true rfl) dL_refuses_437 ⟨(by show _ + _ ≤ 143; omega), (by show _ + _ ≤ 6656; omega)⟩ (fun H locs hW hS => ?_)
          rw [← eM109] at hW
          refine lv_ldc hx hb hown (hts (.constant RL 15 (-2000000002)) (List.mem_of_getElem? (i := 1) rfl)) dL_refuses_440 ?_
          refine lv_icmp_ne (tgt := 692) hx hb dL_refuses_442 (by decide) (fun k442 => ?_) (fun k442 => ?_)
          · have hf := (op_if hf).2 k442
            refine W.widen (k := 80) (n := 3364) (by omega) (by omega) ?_
            exact hj96 M109 H locs ls (lv_sub hl [3, 4, 5, 6] rfl) hW hS hf
          have hf := (op_if hf).1 k442
          refine lv_aload_n hx hb dL_refuses_445 rfl (lv_at hl 4 rfl) ?_
          refine lv_iload_n hx hb dL_refuses_446 rfl (lv_at hl 6 rfl) ?_
          refine lv_iconst (v := (2)) hx hb dL_refuses_447 (by decide) ?_
          refine lv_irem hx hb dL_refuses_448 (by decide) ?_
          refine lv_iload_n hx hb dL_refuses_449 rfl (lv_at hl 6 rfl) ?_
          refine lv_iconst (v := (2)) hx hb dL_refuses_450 (by decide) ?_
          refine lv_irem hx hb dL_refuses_451 (by decide) ?_
          refine lv_bipush (v := (21)) hx hb dL_refuses_452 (by decide) ?_
          refine lv_iload_n hx hb dL_refuses_454 rfl (lv_at hl 6 rfl) ?_
          refine lv_iadd hx hb dL_refuses_455 ?_
          obtain ⟨M110, eM110, hf⟩ := op_st hf
          refine g_callW (As := [.ref a_1, .int (i_3 - i_3 / (2 : Int32) * (2 : Int32)), .int (i_3 - i_3 / (2 : Int32) * (2 : Int32)), .int ((21 : Int32) + i_3)]) (rest := []) ⟨hx, hb, hml, hown, hts⟩ (aL_load l hl0 Γ a_1 M109 (nC Γ qn I :: X) (i_3 - i_3 / (2 : Int32) * (2 : Int32)) (i_3 - i_3 / (2 : Int32) * (2 : Int32)) ((21 : Int32) + i_3)) (vx_cwSW 4 hts gL_refuses_L_load rfl rfl rfl (by decide +kernel) ⟨Nat.le_of_ble_eq_true rfl, Nat.le_of_ble_eq_true rfl⟩) hKK hKX hKY hKN hW hS rfl hl.1 rfl (Nat.le_of_ble_eq_true rfl) dL_refuses_456 ⟨(by show _ + _ ≤ 143; omega), (by show _ + _ ≤ 6656; omega)⟩ (fun H locs hW hS => ?_)
          rw [← eM110] at hW
          refine lv_ldc hx hb hown (hts (.constant RL 15 (-2000000002)) (List.mem_of_getElem? (i := 1) rfl)) dL_refuses_459 ?_
          refine lv_icmp_ne (tgt := 692) hx hb dL_refuses_461 (by decide) (fun k461 => ?_) (fun k461 => ?_)
          · have hf := (op_if hf).2 k461
            refine W.widen (k := 80) (n := 3364) (by omega) (by omega) ?_
            exact hj96 M110 H locs ls (lv_sub hl [3, 4, 5, 6] rfl) hW hS hf
          have hf := (op_if hf).1 k461
          refine lv_aload_n hx hb dL_refuses_464 rfl (lv_at hl 4 rfl) ?_
          refine lv_iload_n hx hb dL_refuses_465 rfl (lv_at hl 6 rfl) ?_
          refine lv_iconst (v := (2)) hx hb dL_refuses_466 (by decide) ?_
          refine lv_irem hx hb dL_refuses_467 (by decide) ?_
          refine lv_iload_n hx hb dL_refuses_468 rfl (lv_at hl 6 rfl) ?_
          refine lv_iconst (v := (2)) hx hb dL_refuses_469 (by decide) ?_
          refine lv_irem hx hb dL_refuses_470 (by decide) ?_
          refine lv_iload_n hx hb dL_refuses_471 rfl (lv_at hl 6 rfl) ?_
          refine lv_ineg hx hb dL_refuses_472 ?_
          obtain ⟨M111, eM111, hf⟩ := op_st hf
          refine g_callW (As := [.ref a_1, .int (i_3 - i_3 / (2 : Int32) * (2 : Int32)), .int (i_3 - i_3 / (2 : Int32) * (2 : Int32)), .int (-i_3)]) (rest := []) ⟨hx, hb, hml, hown, hts⟩ (aL_load l hl0 Γ a_1 M110 (nC Γ qn I :: X) (i_3 - i_3 / (2 : Int32) * (2 : Int32)) (i_3 - i_3 / (2 : Int32) * (2 : Int32)) (-i_3)) (vx_cwSW 4 hts gL_refuses_L_load rfl rfl rfl (by decide +kernel) ⟨Nat.le_of_ble_eq_true rfl, Nat.le_of_ble_eq_true rfl⟩) hKK hKX hKY hKN hW hS rfl hl.1 rfl (Nat.le_of_ble_eq_true rfl) dL_refuses_473 ⟨(by show _ + _ ≤ 143; omega), (by show _ + _ ≤ 6656; omega)⟩ (fun H locs hW hS => ?_)
          rw [← eM111] at hW
          refine lv_ldc hx hb hown (hts (.constant RL 15 (-2000000002)) (List.mem_of_getElem? (i := 1) rfl)) dL_refuses_476 ?_
          refine lv_icmp_ne (tgt := 692) hx hb dL_refuses_478 (by decide) (fun k478 => ?_) (fun k478 => ?_)
          · have hf := (op_if hf).2 k478
            refine W.widen (k := 80) (n := 3364) (by omega) (by omega) ?_
            exact hj96 M111 H locs ls (lv_sub hl [3, 4, 5, 6] rfl) hW hS hf
          have hf := (op_if hf).1 k478
          refine lv_aload_n hx hb dL_refuses_481 rfl (lv_at hl 4 rfl) ?_
          refine lv_iload hx hb dL_refuses_482 (lv_at hl 0 rfl) ?_
          refine lv_iconst (v := (0)) hx hb dL_refuses_484 (by decide) ?_
          refine g_callW (As := [.ref a_1, .int x12, .int (0 : Int32)]) (rest := []) ⟨hx, hb, hml, hown, hts⟩ (aL_parts l hl0 Γ a_1 M111 (nC Γ qn I :: X) x12 (0 : Int32)) (vx_cwSW 3 hts gL_refuses_L_parts rfl rfl rfl (by decide +kernel) ⟨Nat.le_of_ble_eq_true rfl, Nat.le_of_ble_eq_true rfl⟩) hKK hKX hKY hKN hW hS rfl hl.1 rfl (Nat.le_of_ble_eq_true rfl) dL_refuses_485 ⟨(by show _ + _ ≤ 143; omega), (by show _ + _ ≤ 6656; omega)⟩ (fun H locs hW hS => ?_)
          refine lv_ldc hx hb hown (hts (.constant RL 25 (-2000000001)) (List.mem_of_getElem? (i := 2) rfl)) dL_refuses_488 ?_
          refine lv_icmp_ne (tgt := 692) hx hb dL_refuses_490 (by decide) (fun k490 => ?_) (fun k490 => ?_)
          · have hf := (op_if hf).2 k490
            refine W.widen (k := 80) (n := 3364) (by omega) (by omega) ?_
            exact hj96 M111 H locs ls (lv_sub hl [3, 4, 5, 6] rfl) hW hS hf
          have hf := (op_if hf).1 k490
          refine lv_aload_n hx hb dL_refuses_493 rfl (lv_at hl 4 rfl) ?_
          refine lv_iload_n hx hb dL_refuses_494 rfl (lv_at hl 6 rfl) ?_
          refine lv_iconst (v := (2)) hx hb dL_refuses_495 (by decide) ?_
          refine lv_irem hx hb dL_refuses_496 (by decide) ?_
          refine lv_iconst (v := (2)) hx hb dL_refuses_497 (by decide) ?_
          refine lv_iload_n hx hb dL_refuses_498 rfl (lv_at hl 6 rfl) ?_
          refine lv_iadd hx hb dL_refuses_499 ?_
          refine g_callW (As := [.ref a_1, .int (i_3 - i_3 / (2 : Int32) * (2 : Int32)), .int ((2 : Int32) + i_3)]) (rest := []) ⟨hx, hb, hml, hown, hts⟩ (aL_parts l hl0 Γ a_1 M111 (nC Γ qn I :: X) (i_3 - i_3 / (2 : Int32) * (2 : Int32)) ((2 : Int32) + i_3)) (vx_cwSW 3 hts gL_refuses_L_parts rfl rfl rfl (by decide +kernel) ⟨Nat.le_of_ble_eq_true rfl, Nat.le_of_ble_eq_true rfl⟩) hKK hKX hKY hKN hW hS rfl hl.1 rfl (Nat.le_of_ble_eq_true rfl) dL_refuses_500 ⟨(by show _ + _ ≤ 143; omega), (by show _ + _ ≤ 6656; omega)⟩ (fun H locs hW hS => ?_)
          refine lv_ldc hx hb hown (hts (.constant RL 15 (-2000000002)) (List.mem_of_getElem? (i := 1) rfl)) dL_refuses_503 ?_
          refine lv_icmp_ne (tgt := 692) hx hb dL_refuses_505 (by decide) (fun k505 => ?_) (fun k505 => ?_)
          · have hf := (op_if hf).2 k505
            refine W.widen (k := 80) (n := 3364) (by omega) (by omega) ?_
            exact hj96 M111 H locs ls (lv_sub hl [3, 4, 5, 6] rfl) hW hS hf
          have hf := (op_if hf).1 k505
          refine lv_aload_n hx hb dL_refuses_508 rfl (lv_at hl 4 rfl) ?_
          refine lv_iconst (v := (-1)) hx hb dL_refuses_509 (by decide) ?_
          refine lv_iload_n hx hb dL_refuses_510 rfl (lv_at hl 6 rfl) ?_
          refine lv_isub hx hb dL_refuses_511 ?_
          refine g_callW (As := [.ref a_1, .int ((-1 : Int32) - i_3)]) (rest := []) ⟨hx, hb, hml, hown, hts⟩ (aL_wanted l hl0 Γ a_1 M111 (nC Γ qn I :: X) ((-1 : Int32) - i_3)) (vx_cwSW 2 hts gL_refuses_L_wanted rfl rfl rfl (by decide +kernel) ⟨Nat.le_of_ble_eq_true rfl, Nat.le_of_ble_eq_true rfl⟩) hKK hKX hKY hKN hW hS rfl hl.1 rfl (Nat.le_of_ble_eq_true rfl) dL_refuses_512 ⟨(by show _ + _ ≤ 143; omega), (by show _ + _ ≤ 6656; omega)⟩ (fun H locs hW hS => ?_)
          refine lv_ldc hx hb hown (hts (.constant RL 15 (-2000000002)) (List.mem_of_getElem? (i := 1) rfl)) dL_refuses_515 ?_
          refine lv_icmp_ne (tgt := 692) hx hb dL_refuses_517 (by decide) (fun k517 => ?_) (fun k517 => ?_)
          · have hf := (op_if hf).2 k517
            refine W.widen (k := 80) (n := 3364) (by omega) (by omega) ?_
            exact hj96 M111 H locs ls (lv_sub hl [3, 4, 5, 6] rfl) hW hS hf
          have hf := (op_if hf).1 k517
          refine lv_aload_n hx hb dL_refuses_520 rfl (lv_at hl 4 rfl) ?_
          refine lv_iconst (v := (2)) hx hb dL_refuses_521 (by decide) ?_
          refine lv_iload_n hx hb dL_refuses_522 rfl (lv_at hl 6 rfl) ?_
          refine lv_iadd hx hb dL_refuses_523 ?_
          refine g_callW (As := [.ref a_1, .int ((2 : Int32) + i_3)]) (rest := []) ⟨hx, hb, hml, hown, hts⟩ (aL_wanted l hl0 Γ a_1 M111 (nC Γ qn I :: X) ((2 : Int32) + i_3)) (vx_cwSW 2 hts gL_refuses_L_wanted rfl rfl rfl (by decide +kernel) ⟨Nat.le_of_ble_eq_true rfl, Nat.le_of_ble_eq_true rfl⟩) hKK hKX hKY hKN hW hS rfl hl.1 rfl (Nat.le_of_ble_eq_true rfl) dL_refuses_524 ⟨(by show _ + _ ≤ 143; omega), (by show _ + _ ≤ 6656; omega)⟩ (fun H locs hW hS => ?_)
          refine lv_ldc hx hb hown (hts (.constant RL 15 (-2000000002)) (List.mem_of_getElem? (i := 1) rfl)) dL_refuses_527 ?_
          refine lv_icmp_ne (tgt := 692) hx hb dL_refuses_529 (by decide) (fun k529 => ?_) (fun k529 => ?_)
          · have hf := (op_if hf).2 k529
            refine W.widen (k := 80) (n := 3364) (by omega) (by omega) ?_
            exact hj96 M111 H locs ls (lv_sub hl [3, 4, 5, 6] rfl) hW hS hf
          have hf := (op_if hf).1 k529
          refine lv_aload_n hx hb dL_refuses_532 rfl (lv_at hl 4 rfl) ?_
          refine lv_iload hx hb dL_refuses_533 (lv_at hl 0 rfl) ?_
          refine g_callW (As := [.ref a_1, .int x12]) (rest := []) ⟨hx, hb, hml, hown, hts⟩ (aL_way l hl0 Γ a_1 M111 (nC Γ qn I :: X) x12) (vx_cwSW 2 hts gL_refuses_L_way rfl rfl rfl (by decide +kernel) ⟨Nat.le_of_ble_eq_true rfl, Nat.le_of_ble_eq_true rfl⟩) hKK hKX hKY hKN hW hS rfl hl.1 rfl (Nat.le_of_ble_eq_true rfl) dL_refuses_535 ⟨(by show _ + _ ≤ 143; omega), (by show _ + _ ≤ 6656; omega)⟩ (fun H locs hW hS => ?_)
          refine lv_ldc hx hb hown (hts (.constant RL 25 (-2000000001)) (List.mem_of_getElem? (i := 2) rfl)) dL_refuses_538 ?_
          refine lv_icmp_ne (tgt := 692) hx hb dL_refuses_540 (by decide) (fun k540 => ?_) (fun k540 => ?_)
          · have hf := (op_if hf).2 k540
            refine W.widen (k := 80) (n := 3364) (by omega) (by omega) ?_
            exact hj96 M111 H locs ls (lv_sub hl [3, 4, 5, 6] rfl) hW hS hf
          have hf := (op_if hf).1 k540
          refine lv_aload_n hx hb dL_refuses_543 rfl (lv_at hl 4 rfl) ?_
          refine lv_iload hx hb dL_refuses_544 (lv_at hl 0 rfl) ?_
          refine lv_iconst (v := (0)) hx hb dL_refuses_546 (by decide) ?_
          refine g_callW (As := [.ref a_1, .int x12, .int (0 : Int32)]) (rest := []) ⟨hx, hb, hml, hown, hts⟩ (aL_planned l hl0 Γ a_1 M111 (nC Γ qn I :: X) x12 (0 : Int32)) (vx_cwSW 3 hts gL_refuses_L_planned rfl rfl rfl (by decide +kernel) ⟨Nat.le_of_ble_eq_true rfl, Nat.le_of_ble_eq_true rfl⟩) hKK hKX hKY hKN hW hS rfl hl.1 rfl (Nat.le_of_ble_eq_true rfl) dL_refuses_547 ⟨(by show _ + _ ≤ 143; omega), (by show _ + _ ≤ 6656; omega)⟩ (fun H locs hW hS => ?_)
          refine lv_ldc hx hb hown (hts (.constant RL 25 (-2000000001)) (List.mem_of_getElem? (i := 2) rfl)) dL_refuses_550 ?_
          refine lv_icmp_ne (tgt := 692) hx hb dL_refuses_552 (by decide) (fun k552 => ?_) (fun k552 => ?_)
          · have hf := (op_if hf).2 k552
            refine W.widen (k := 80) (n := 3364) (by omega) (by omega) ?_
            exact hj96 M111 H locs ls (lv_sub hl [3, 4, 5, 6] rfl) hW hS hf
          have hf := (op_if hf).1 k552
          refine lv_aload_n hx hb dL_refuses_555 rfl (lv_at hl 4 rfl) ?_
          refine lv_iload_n hx hb dL_refuses_556 rfl (lv_at hl 6 rfl) ?_
          refine lv_iconst (v := (2)) hx hb dL_refuses_557 (by decide) ?_
          refine lv_irem hx hb dL_refuses_558 (by decide) ?_
          refine lv_bipush (v := (6)) hx hb dL_refuses_559 (by decide) ?_
          refine lv_iload_n hx hb dL_refuses_561 rfl (lv_at hl 6 rfl) ?_
          refine lv_iadd hx hb dL_refuses_562 ?_
          refine g_callW (As := [.ref a_1, .int (i_3 - i_3 / (2 : Int32) * (2 : Int32)), .int ((6 : Int32) + i_3)]) (rest := []) ⟨hx, hb, hml, hown, hts⟩ (aL_planned l hl0 Γ a_1 M111 (nC Γ qn I :: X) (i_3 - i_3 / (2 : Int32) * (2 : Int32)) ((6 : Int32) + i_3)) (vx_cwSW 3 hts gL_refuses_L_planned rfl rfl rfl (by decide +kernel) ⟨Nat.le_of_ble_eq_true rfl, Nat.le_of_ble_eq_true rfl⟩) hKK hKX hKY hKN hW hS rfl hl.1 rfl (Nat.le_of_ble_eq_true rfl) dL_refuses_563 ⟨(by show _ + _ ≤ 143; omega), (by show _ + _ ≤ 6656; omega)⟩ (fun H locs hW hS => ?_)
          refine lv_ldc hx hb hown (hts (.constant RL 25 (-2000000001)) (List.mem_of_getElem? (i := 2) rfl)) dL_refuses_566 ?_
          refine lv_icmp_ne (tgt := 692) hx hb dL_refuses_568 (by decide) (fun k568 => ?_) (fun k568 => ?_)
          · have hf := (op_if hf).2 k568
            refine W.widen (k := 80) (n := 3364) (by omega) (by omega) ?_
            exact hj96 M111 H locs ls (lv_sub hl [3, 4, 5, 6] rfl) hW hS hf
          have hf := (op_if hf).1 k568
          refine lv_aload_n hx hb dL_refuses_571 rfl (lv_at hl 4 rfl) ?_
          refine lv_iload_n hx hb dL_refuses_572 rfl (lv_at hl 6 rfl) ?_
          refine lv_iconst (v := (2)) hx hb dL_refuses_573 (by decide) ?_
          refine lv_irem hx hb dL_refuses_574 (by decide) ?_
          refine lv_iconst (v := (-1)) hx hb dL_refuses_575 (by decide) ?_
          refine lv_iload_n hx hb dL_refuses_576 rfl (lv_at hl 6 rfl) ?_
          refine lv_isub hx hb dL_refuses_577 ?_
          refine g_callW (As := [.ref a_1, .int (i_3 - i_3 / (2 : Int32) * (2 : Int32)), .int ((-1 : Int32) - i_3)]) (rest := []) ⟨hx, hb, hml, hown, hts⟩ (aL_planned l hl0 Γ a_1 M111 (nC Γ qn I :: X) (i_3 - i_3 / (2 : Int32) * (2 : Int32)) ((-1 : Int32) - i_3)) (vx_cwSW 3 hts gL_refuses_L_planned rfl rfl rfl (by decide +kernel) ⟨Nat.le_of_ble_eq_true rfl, Nat.le_of_ble_eq_true rfl⟩) hKK hKX hKY hKN hW hS rfl hl.1 rfl (Nat.le_of_ble_eq_true rfl) dL_refuses_578 ⟨(by show _ + _ ≤ 143; omega), (by show _ + _ ≤ 6656; omega)⟩ (fun H locs hW hS => ?_)
          refine lv_ldc hx hb hown (hts (.constant RL 25 (-2000000001)) (List.mem_of_getElem? (i := 2) rfl)) dL_refuses_581 ?_
          refine lv_icmp_ne (tgt := 692) hx hb dL_refuses_583 (by decide) (fun k583 => ?_) (fun k583 => ?_)
          · have hf := (op_if hf).2 k583
            refine W.widen (k := 80) (n := 3364) (by omega) (by omega) ?_
            exact hj96 M111 H locs ls (lv_sub hl [3, 4, 5, 6] rfl) hW hS hf
          have hf := (op_if hf).1 k583
          refine lv_aload_n hx hb dL_refuses_586 rfl (lv_at hl 4 rfl) ?_
          refine lv_iload hx hb dL_refuses_587 (lv_at hl 0 rfl) ?_
          obtain ⟨M112, eM112, hf⟩ := op_st hf
          refine g_callW (As := [.ref a_1, .int x12]) (rest := []) ⟨hx, hb, hml, hown, hts⟩ (aL_go l hl0 Γ a_1 M111 (nC Γ qn I :: X) x12) (vx_cwSW 2 hts gL_refuses_L_go rfl rfl rfl (by decide +kernel) ⟨Nat.le_of_ble_eq_true rfl, Nat.le_of_ble_eq_true rfl⟩) hKK hKX hKY hKN hW hS rfl hl.1 rfl (Nat.le_of_ble_eq_true rfl) dL_refuses_589 ⟨(by show _ + _ ≤ 143; omega), (by show _ + _ ≤ 6656; omega)⟩ (fun H locs hW hS => ?_)
          rw [← eM112] at hW
          refine lv_ldc hx hb hown (hts (.constant RL 25 (-2000000001)) (List.mem_of_getElem? (i := 2) rfl)) dL_refuses_592 ?_
          refine lv_icmp_ne (tgt := 692) hx hb dL_refuses_594 (by decide) (fun k594 => ?_) (fun k594 => ?_)
          · have hf := (op_if hf).2 k594
            refine W.widen (k := 80) (n := 3364) (by omega) (by omega) ?_
            exact hj96 M112 H locs ls (lv_sub hl [3, 4, 5, 6] rfl) hW hS hf
          have hf := (op_if hf).1 k594
          refine lv_aload_n hx hb dL_refuses_597 rfl (lv_at hl 4 rfl) ?_
          refine lv_iload hx hb dL_refuses_598 (lv_at hl 0 rfl) ?_
          refine g_callW (As := [.ref a_1, .int x12]) (rest := []) ⟨hx, hb, hml, hown, hts⟩ (aL_vanAt l hl0 Γ a_1 M112 (nC Γ qn I :: X) x12) (vx_cwSW 2 hts gL_refuses_L_vanAt rfl rfl rfl (by decide +kernel) ⟨Nat.le_of_ble_eq_true rfl, Nat.le_of_ble_eq_true rfl⟩) hKK hKX hKY hKN hW hS rfl hl.1 rfl (Nat.le_of_ble_eq_true rfl) dL_refuses_600 ⟨(by show _ + _ ≤ 143; omega), (by show _ + _ ≤ 6656; omega)⟩ (fun H locs hW hS => ?_)
          refine lv_ldc hx hb hown (hts (.constant RL 25 (-2000000001)) (List.mem_of_getElem? (i := 2) rfl)) dL_refuses_603 ?_
          refine lv_icmp_ne (tgt := 692) hx hb dL_refuses_605 (by decide) (fun k605 => ?_) (fun k605 => ?_)
          · have hf := (op_if hf).2 k605
            refine W.widen (k := 80) (n := 3364) (by omega) (by omega) ?_
            exact hj96 M112 H locs ls (lv_sub hl [3, 4, 5, 6] rfl) hW hS hf
          have hf := (op_if hf).1 k605
          refine lv_aload_n hx hb dL_refuses_608 rfl (lv_at hl 4 rfl) ?_
          obtain ⟨fs_, hr_⟩ := (tw_r hW)
          refine g_callV (As := []) (rest := []) ⟨hx, hb, hml, hown, hts⟩ (aX_tables l Γ a_1 M112 (nC Γ qn I :: X) ) (cwV 0 hts gL_refuses_X9_tables rfl rfl rfl (by decide +kernel) ⟨Nat.le_of_ble_eq_true rfl, Nat.le_of_ble_eq_true rfl⟩) hr_ rfl hKK hKX hKY hKN hW hS rfl hl.1 rfl (Nat.le_of_ble_eq_true rfl) dL_refuses_609 ⟨(by show _ + _ ≤ 143; omega), (by show _ + _ ≤ 6656; omega)⟩ (fun H locs hW hS => ?_)
          refine lv_bipush (v := (6)) hx hb dL_refuses_612 (by decide) ?_
          obtain ⟨j114, ej114, hf⟩ := op_st hf
          have hj114 : ∀ (M113 : zMs) (H : Heap) (locs : List Loc) (ls : Array Slot), lv_has ls 12 [(3, .int x3), (0, .ref a_1), (1, .ref qn), (2, .int i_3)] → (TW Γ a_1 M113 (nC Γ qn I :: X)) H → va_S (zA Γ) s.heap H locs → j114 M113 = some y → W p l e (headSpec wsL_refuses rmL_refuses).room s m args below meth c H locs 75 3334 (MQ below (GQ Γ (TW Γ a_1 y.2 (nC Γ qn I :: X)) (some (.int y.1))) args s 143 6656 (zA Γ)) (F0 m 628 ls []) := by
            intro M113 H locs ls hl hW hS hf
            rw [ej114] at hf
            refine lv_aload_n hx hb dL_refuses_628 rfl (lv_at hl 1 rfl) ?_
            refine lv_iload_n hx hb dL_refuses_629 rfl (lv_at hl 3 rfl) ?_
            refine lv_iconst (v := (2)) hx hb dL_refuses_630 (by decide) ?_
            refine lv_irem hx hb dL_refuses_631 (by decide) ?_
            refine lv_iconst (v := (0)) hx hb dL_refuses_632 (by decide) ?_
            refine g_callW (As := [.ref a_1, .int (i_3 - i_3 / (2 : Int32) * (2 : Int32)), .int (0 : Int32)]) (rest := []) ⟨hx, hb, hml, hown, hts⟩ (aL_planned l hl0 Γ a_1 M113 (nC Γ qn I :: X) (i_3 - i_3 / (2 : Int32) * (2 : Int32)) (0 : Int32)) (vx_cwSW 3 hts gL_refuses_L_planned rfl rfl rfl (by decide +kernel) ⟨Nat.le_of_ble_eq_true rfl, Nat.le_of_ble_eq_true rfl⟩) hKK hKX hKY hKN hW hS rfl hl.1 rfl (Nat.le_of_ble_eq_true rfl) dL_refuses_633 ⟨(by show _ + _ ≤ 143; omega), (by show _ + _ ≤ 6656; omega)⟩ (fun H locs hW hS => ?_)
            obtain ⟨j116, ej116, hf⟩ := op_st hf
            have hj116 : ∀ (M115 : zMs) (H : Heap) (locs : List Loc) (ls : Array Slot), lv_has ls 12 [(3, .int x3), (0, .ref a_1), (1, .ref qn), (2, .int i_3)] → (TW Γ a_1 M115 (nC Γ qn I :: X)) H → va_S (zA Γ) s.heap H locs → j116 M115 = some y → W p l e (headSpec wsL_refuses rmL_refuses).room s m args below meth c H locs 78 3352 (MQ below (GQ Γ (TW Γ a_1 y.2 (nC Γ qn I :: X)) (some (.int y.1))) args s 143 6656 (zA Γ)) (F0 m 661 ls []) := by
              intro M115 H locs ls hl hW hS hf
              rw [ej116] at hf
              refine lv_aload_n hx hb dL_refuses_661 rfl (lv_at hl 1 rfl) ?_
              refine lv_iload_n hx hb dL_refuses_662 rfl (lv_at hl 3 rfl) ?_
              refine lv_iconst (v := (2)) hx hb dL_refuses_663 (by decide) ?_
              refine lv_irem hx hb dL_refuses_664 (by decide) ?_
              refine lv_iconst (v := (0)) hx hb dL_refuses_665 (by decide) ?_
              refine g_callW (As := [.ref a_1, .int (i_3 - i_3 / (2 : Int32) * (2 : Int32)), .int (0 : Int32)]) (rest := []) ⟨hx, hb, hml, hown, hts⟩ (aL_parts l hl0 Γ a_1 M115 (nC Γ qn I :: X) (i_3 - i_3 / (2 : Int32) * (2 : Int32)) (0 : Int32)) (vx_cwSW 3 hts gL_refuses_L_parts rfl rfl rfl (by decide +kernel) ⟨Nat.le_of_ble_eq_true rfl, Nat.le_of_ble_eq_true rfl⟩) hKK hKX hKY hKN hW hS rfl hl.1 rfl (Nat.le_of_ble_eq_true rfl) dL_refuses_666 ⟨(by show _ + _ ≤ 143; omega), (by show _ + _ ≤ 6656; omega)⟩ (fun H locs hW hS => ?_)
              refine lv_iconst (v := (1)) hx hb dL_refuses_669 (by decide) ?_
              obtain ⟨j118, ej118, hf⟩ := op_st hf
              have hj118 : ∀ (M117 : zMs) (H : Heap) (locs : List Loc) (ls : Array Slot), lv_has ls 12 [(3, .int x3), (0, .ref a_1), (1, .ref qn), (2, .int i_3)] → (TW Γ a_1 M117 (nC Γ qn I :: X)) H → va_S (zA Γ) s.heap H locs → j118 M117 = some y → W p l e (headSpec wsL_refuses rmL_refuses).room s m args below meth c H locs 80 3364 (MQ below (GQ Γ (TW Γ a_1 y.2 (nC Γ qn I :: X)) (some (.int y.1))) args s 143 6656 (zA Γ)) (F0 m 688 ls []) := by
                intro M117 H locs ls hl hW hS hf
                rw [ej118] at hf
                refine lv_iconst (v := (1)) hx hb dL_refuses_688 (by decide) ?_
                refine lv_goto (tgt := 693) hx hb dL_refuses_689 (by decide) ?_
                refine W.widen (k := 80) (n := 3364) (by omega) (by omega) ?_
                exact hj16 (1 : Int32) M117 H locs ls (lv_sub hl [0, 1, 2, 3] rfl) hW hS hf
              refine lv_icmp_lt (tgt := 688) hx hb dL_refuses_670 (by decide) (fun k670 => ?_) (fun k670 => ?_)
              · have hf := (op_if hf).1 k670
                refine W.widen (k := 80) (n := 3364) (by omega) (by omega) ?_
                exact hj118 M115 H locs ls (lv_sub hl [0, 1, 2, 3] rfl) hW hS hf
              have hf := (op_if hf).2 k670
              refine lv_aload_n hx hb dL_refuses_673 rfl (lv_at hl 1 rfl) ?_
              refine lv_iload_n hx hb dL_refuses_674 rfl (lv_at hl 3 rfl) ?_
              refine lv_iconst (v := (2)) hx hb dL_refuses_675 (by decide) ?_
              refine lv_irem hx hb dL_refuses_676 (by decide) ?_
              refine lv_iconst (v := (0)) hx hb dL_refuses_677 (by decide) ?_
              refine lv_bipush (v := (20)) hx hb dL_refuses_678 (by decide) ?_
              obtain ⟨M119, eM119, hf⟩ := op_st hf
              refine g_callW (As := [.ref a_1, .int (i_3 - i_3 / (2 : Int32) * (2 : Int32)), .int (0 : Int32), .int (20 : Int32)]) (rest := []) ⟨hx, hb, hml, hown, hts⟩ (aL_load l hl0 Γ a_1 M115 (nC Γ qn I :: X) (i_3 - i_3 / (2 : Int32) * (2 : Int32)) (0 : Int32) (20 : Int32)) (vx_cwSW 4 hts gL_refuses_L_load rfl rfl rfl (by decide +kernel) ⟨Nat.le_of_ble_eq_true rfl, Nat.le_of_ble_eq_true rfl⟩) hKK hKX hKY hKN hW hS rfl hl.1 rfl (Nat.le_of_ble_eq_true rfl) dL_refuses_680 ⟨(by show _ + _ ≤ 143; omega), (by show _ + _ ≤ 6656; omega)⟩ (fun H locs hW hS => ?_)
              rw [← eM119] at hW
              refine lv_ldc hx hb hown (hts (.constant RL 18 (-2000000003)) (List.mem_of_getElem? (i := 4) rfl)) dL_refuses_683 ?_
              refine lv_icmp_ne (tgt := 692) hx hb dL_refuses_685 (by decide) (fun k685 => ?_) (fun k685 => ?_)
              · have hf := (op_if hf).2 k685
                refine W.widen (k := 80) (n := 3364) (by omega) (by omega) ?_
                exact hj96 M119 H locs ls (lv_sub hl [0, 1, 2, 3] rfl) hW hS hf
              have hf := (op_if hf).1 k685
              refine W.widen (k := 80) (n := 3364) (by omega) (by omega) ?_
              exact hj118 M119 H locs ls (lv_sub hl [0, 1, 2, 3] rfl) hW hS hf
            refine lv_if_ge (tgt := 661) hx hb dL_refuses_636 (by decide) (fun k636 => ?_) (fun k636 => ?_)
            · have hf := (op_if hf).1 k636
              refine W.widen (k := 78) (n := 3352) (by omega) (by omega) ?_
              exact hj116 M113 H locs ls (lv_sub hl [0, 1, 2, 3] rfl) hW hS hf
            have hf := (op_if hf).2 k636
            refine lv_aload_n hx hb dL_refuses_639 rfl (lv_at hl 1 rfl) ?_
            refine lv_iload_n hx hb dL_refuses_640 rfl (lv_at hl 3 rfl) ?_
            refine lv_iconst (v := (2)) hx hb dL_refuses_641 (by decide) ?_
            refine lv_irem hx hb dL_refuses_642 (by decide) ?_
            obtain ⟨M120, eM120, hf⟩ := op_st hf
            refine g_callW (As := [.ref a_1, .int (i_3 - i_3 / (2 : Int32) * (2 : Int32))]) (rest := []) ⟨hx, hb, hml, hown, hts⟩ (aL_go l hl0 Γ a_1 M113 (nC Γ qn I :: X) (i_3 - i_3 / (2 : Int32) * (2 : Int32))) (vx_cwSW 2 hts gL_refuses_L_go rfl rfl rfl (by decide +kernel) ⟨Nat.le_of_ble_eq_true rfl, Nat.le_of_ble_eq_true rfl⟩) hKK hKX hKY hKN hW hS rfl hl.1 rfl (Nat.le_of_ble_eq_true rfl) dL_refuses_643 ⟨(by show _ + _ ≤ 143; omega), (by show _ + _ ≤ 6656; omega)⟩ (fun H locs hW hS => ?_)
            rw [← eM120] at hW
            refine lv_ldc hx hb hown (hts (.constant RL 18 (-2000000003)) (List.mem_of_getElem? (i := 4) rfl)) dL_refuses_646 ?_
            refine lv_icmp_ne (tgt := 692) hx hb dL_refuses_648 (by decide) (fun k648 => ?_) (fun k648 => ?_)
            · have hf := (op_if hf).2 k648
              refine W.widen (k := 80) (n := 3364) (by omega) (by omega) ?_
              exact hj96 M120 H locs ls (lv_sub hl [0, 1, 2, 3] rfl) hW hS hf
            have hf := (op_if hf).1 k648
            refine lv_aload_n hx hb dL_refuses_651 rfl (lv_at hl 1 rfl) ?_
            refine lv_iload_n hx hb dL_refuses_652 rfl (lv_at hl 3 rfl) ?_
            refine lv_iconst (v := (2)) hx hb dL_refuses_653 (by decide) ?_
            refine lv_irem hx hb dL_refuses_654 (by decide) ?_
            refine g_callW (As := [.ref a_1, .int (i_3 - i_3 / (2 : Int32) * (2 : Int32))]) (rest := []) ⟨hx, hb, hml, hown, hts⟩ (aL_way l hl0 Γ a_1 M120 (nC Γ qn I :: X) (i_3 - i_3 / (2 : Int32) * (2 : Int32))) (vx_cwSW 2 hts gL_refuses_L_way rfl rfl rfl (by decide +kernel) ⟨Nat.le_of_ble_eq_true rfl, Nat.le_of_ble_eq_true rfl⟩) hKK hKX hKY hKN hW hS rfl hl.1 rfl (Nat.le_of_ble_eq_true rfl) dL_refuses_655 ⟨(by show _ + _ ≤ 143; omega), (by show _ + _ ≤ 6656; omega)⟩ (fun H locs hW hS => ?_)
            refine lv_if_ne (tgt := 692) hx hb dL_refuses_658 (by decide) (fun k658 => ?_) (fun k658 => ?_)
            · have hf := (op_if hf).2 k658
              refine W.widen (k := 80) (n := 3364) (by omega) (by omega) ?_
              exact hj96 M120 H locs ls (lv_sub hl [0, 1, 2, 3] rfl) hW hS hf
            have hf := (op_if hf).1 k658
            refine W.widen (k := 78) (n := 3352) (by omega) (by omega) ?_
            exact hj116 M120 H locs ls (lv_sub hl [0, 1, 2, 3] rfl) hW hS hf
          refine lv_icmp_lt (tgt := 628) hx hb dL_refuses_614 (by decide) (fun k614 => ?_) (fun k614 => ?_)
          · have hf := (op_if hf).1 k614
            refine W.widen (k := 75) (n := 3334) (by omega) (by omega) ?_
            exact hj114 M112 H locs ls (lv_sub hl [3, 4, 5, 6] rfl) hW hS hf
          have hf := (op_if hf).2 k614
          refine lv_aload_n hx hb dL_refuses_617 rfl (lv_at hl 4 rfl) ?_
          refine lv_iconst (v := (0)) hx hb dL_refuses_618 (by decide) ?_
          refine lv_iconst (v := (1)) hx hb dL_refuses_619 (by decide) ?_
          obtain ⟨M121, eM121, hf⟩ := op_st hf
          refine g_callW (As := [.ref a_1, .int (0 : Int32), .int (1 : Int32)]) (rest := []) ⟨hx, hb, hml, hown, hts⟩ (aL_tables l hl0 Γ a_1 M112 (nC Γ qn I :: X) (0 : Int32) (1 : Int32)) (vx_cwSW 3 hts gL_refuses_L_tables rfl rfl rfl (by decide +kernel) ⟨Nat.le_of_ble_eq_true rfl, Nat.le_of_ble_eq_true rfl⟩) hKK hKX hKY hKN hW hS rfl hl.1 rfl (Nat.le_of_ble_eq_true rfl) dL_refuses_620 ⟨(by show _ + _ ≤ 143; omega), (by show _ + _ ≤ 6656; omega)⟩ (fun H locs hW hS => ?_)
          rw [← eM121] at hW
          refine lv_ldc hx hb hown (hts (.constant RL 18 (-2000000003)) (List.mem_of_getElem? (i := 4) rfl)) dL_refuses_623 ?_
          refine lv_icmp_ne (tgt := 692) hx hb dL_refuses_625 (by decide) (fun k625 => ?_) (fun k625 => ?_)
          · have hf := (op_if hf).2 k625
            refine W.widen (k := 80) (n := 3364) (by omega) (by omega) ?_
            exact hj96 M121 H locs ls (lv_sub hl [3, 4, 5, 6] rfl) hW hS hf
          have hf := (op_if hf).1 k625
          refine W.widen (k := 75) (n := 3334) (by omega) (by omega) ?_
          exact hj114 M121 H locs ls (lv_sub hl [3, 4, 5, 6] rfl) hW hS hf
        refine lv_if_eq (tgt := 73) hx hb dL_refuses_61 (by decide) (fun k61 => ?_) (fun k61 => ?_)
        · have hf := (op_if hf).1 k61
          refine lv_iconst (v := (2)) hx hb dL_refuses_73 (by decide) ?_
          refine lv_iload_n hx hb dL_refuses_74 rfl (lv_at hl 5 rfl) ?_
          refine lv_bipush (v := (50)) hx hb dL_refuses_75 (by decide) ?_
          refine lv_irem hx hb dL_refuses_77 (by decide) ?_
          refine lv_iadd hx hb dL_refuses_78 ?_
          refine W.widen (k := 0) (n := 0) (by omega) (by omega) ?_
          exact hj11 ((2 : Int32) + (i_3 - i_3 / (50 : Int32) * (50 : Int32))) H locs ls (lv_sub hl [0, 1, 2, 3, 4, 5] rfl) hW hS hf
        have hf := (op_if hf).2 k61
        refine lv_iconst (v := (-1)) hx hb dL_refuses_64 (by decide) ?_
        refine lv_iload_n hx hb dL_refuses_65 rfl (lv_at hl 5 rfl) ?_
        refine lv_bipush (v := (50)) hx hb dL_refuses_66 (by decide) ?_
        refine lv_irem hx hb dL_refuses_68 (by decide) ?_
        refine lv_isub hx hb dL_refuses_69 ?_
        refine lv_goto (tgt := 79) hx hb dL_refuses_70 (by decide) ?_
        refine W.widen (k := 0) (n := 0) (by omega) (by omega) ?_
        exact hj11 ((-1 : Int32) - (i_3 - i_3 / (50 : Int32) * (50 : Int32))) H locs ls (lv_sub hl [0, 1, 2, 3, 4, 5] rfl) hW hS hf
      refine lv_if_eq (tgt := 49) hx hb dL_refuses_37 (by decide) (fun k37 => ?_) (fun k37 => ?_)
      · have hf := (op_if hf).1 k37
        refine lv_aload_n hx hb dL_refuses_49 rfl (lv_at hl 2 rfl) ?_
        obtain ⟨fs_, hr_⟩ := (tw_r hW)
        refine g_callV (As := []) (rest := []) ⟨hx, hb, hml, hown, hts⟩ (aX_games l Γ a_1 M (nC Γ qn I :: X) ) (cwV 0 hts gL_refuses_X9_games rfl rfl rfl (by decide +kernel) ⟨Nat.le_of_ble_eq_true rfl, Nat.le_of_ble_eq_true rfl⟩) hr_ rfl hKK hKX hKY hKN hW hS rfl hl.1 rfl (Nat.le_of_ble_eq_true rfl) dL_refuses_50 ⟨(by show _ + _ ≤ 143; omega), (by show _ + _ ≤ 6656; omega)⟩ (fun H locs hW hS => ?_)
        refine lv_iload_n hx hb dL_refuses_53 rfl (lv_at hl 4 rfl) ?_
        refine lv_bipush (v := (50)) hx hb dL_refuses_54 (by decide) ?_
        refine lv_irem hx hb dL_refuses_56 (by decide) ?_
        refine lv_iadd hx hb dL_refuses_57 ?_
        refine W.widen (k := 0) (n := 0) (by omega) (by omega) ?_
        exact hj8 ((M 24 0) + (i_3 - i_3 / (50 : Int32) * (50 : Int32))) H locs ls (lv_sub hl [0, 1, 2, 3, 4] rfl) hW hS hf
      have hf := (op_if hf).2 k37
      refine lv_iconst (v := (-1)) hx hb dL_refuses_40 (by decide) ?_
      refine lv_iload_n hx hb dL_refuses_41 rfl (lv_at hl 4 rfl) ?_
      refine lv_bipush (v := (50)) hx hb dL_refuses_42 (by decide) ?_
      refine lv_irem hx hb dL_refuses_44 (by decide) ?_
      refine lv_isub hx hb dL_refuses_45 ?_
      refine lv_goto (tgt := 58) hx hb dL_refuses_46 (by decide) ?_
      refine W.widen (k := 0) (n := 0) (by omega) (by omega) ?_
      exact hj8 ((-1 : Int32) - (i_3 - i_3 / (50 : Int32) * (50 : Int32))) H locs ls (lv_sub hl [0, 1, 2, 3, 4] rfl) hW hS hf
    refine lv_if_eq (tgt := 25) hx hb dL_refuses_13 (by decide) (fun k13 => ?_) (fun k13 => ?_)
    · have hf := (op_if hf).1 k13
      refine lv_aload_n hx hb dL_refuses_25 rfl (lv_at hl 1 rfl) ?_
      obtain ⟨fs_, hr_⟩ := (tw_r hW)
      refine g_callV (As := []) (rest := []) ⟨hx, hb, hml, hown, hts⟩ (aX_tables l Γ a_1 M (nC Γ qn I :: X) ) (cwV 0 hts gL_refuses_X9_tables rfl rfl rfl (by decide +kernel) ⟨Nat.le_of_ble_eq_true rfl, Nat.le_of_ble_eq_true rfl⟩) hr_ rfl hKK hKX hKY hKN hW hS rfl hl.1 rfl (Nat.le_of_ble_eq_true rfl) dL_refuses_26 ⟨(by show _ + _ ≤ 143; omega), (by show _ + _ ≤ 6656; omega)⟩ (fun H locs hW hS => ?_)
      refine lv_iload_n hx hb dL_refuses_29 rfl (lv_at hl 3 rfl) ?_
      refine lv_bipush (v := (50)) hx hb dL_refuses_30 (by decide) ?_
      refine lv_irem hx hb dL_refuses_32 (by decide) ?_
      refine lv_iadd hx hb dL_refuses_33 ?_
      refine W.widen (k := 0) (n := 0) (by omega) (by omega) ?_
      exact hj5 ((M 1 0) + (i_3 - i_3 / (50 : Int32) * (50 : Int32))) H locs ls (lv_sub hl [0, 1, 2, 3] rfl) hW hS hf
    have hf := (op_if hf).2 k13
    refine lv_iconst (v := (-1)) hx hb dL_refuses_16 (by decide) ?_
    refine lv_iload_n hx hb dL_refuses_17 rfl (lv_at hl 3 rfl) ?_
    refine lv_bipush (v := (50)) hx hb dL_refuses_18 (by decide) ?_
    refine lv_irem hx hb dL_refuses_20 (by decide) ?_
    refine lv_isub hx hb dL_refuses_21 ?_
    refine lv_goto (tgt := 34) hx hb dL_refuses_22 (by decide) ?_
    refine W.widen (k := 0) (n := 0) (by omega) (by omega) ?_
    exact hj5 ((-1 : Int32) - (i_3 - i_3 / (50 : Int32) * (50 : Int32))) H locs ls (lv_sub hl [0, 1, 2, 3] rfl) hW hS hf
  refine lv_if_ne (tgt := 10) hx hb dL_refuses_3 (by decide) (fun k3 => ?_) (fun k3 => ?_)
  · have hf := (op_if hf).2 k3
    refine lv_iconst (v := (0)) hx hb dL_refuses_10 (by decide) ?_
    refine W.widen (k := 0) (n := 0) (by omega) (by omega) ?_
    exact hj2 (0 : Int32) H locs ls (lv_sub hl [0, 1, 2] rfl) hW hS hf
  have hf := (op_if hf).1 k3
  refine lv_iconst (v := (1)) hx hb dL_refuses_6 (by decide) ?_
  refine lv_goto (tgt := 11) hx hb dL_refuses_7 (by decide) ?_
  refine W.widen (k := 0) (n := 0) (by omega) (by omega) ?_
  exact hj2 (1 : Int32) H locs ls (lv_sub hl [0, 1, 2] rfl) hW hS hf
