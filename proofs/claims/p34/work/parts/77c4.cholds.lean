/-! holds -/
theorem lb2 {a c0 c1 F K : Nat} (h : c0 + F * K = c1) : a + c0 + F * K ≤ a + c1 := by
  rw [Nat.add_assoc, h]
  exact Nat.le_refl _
abbrev rmL_holds : Room := { frames := 10, cells := 17011, slots := 102066, locals := 230 }
set_option maxHeartbeats 4000000 in
set_option maxRecDepth 100000 in
theorem cL_holds_ok (l : Launch) (hl0 : l.stackTraces = false) (Γ : zG) (a_1 : Nat) (qn : Nat) (M : zMs) (X : va_W) {I : Nat → Int32} {i_3 : Int32} {y : Int32} (hf : fL_holds M I i_3 = some y) : Met l yL_holds wsL_holds rmL_holds (GP Γ (TW Γ a_1 M (nC Γ qn I :: X)) [.ref a_1, .ref qn, .int i_3]) (GQ Γ (TW Γ a_1 M (nC Γ qn I :: X)) (some (.int y))) 17011 102066 (zA Γ) := by
  refine Met.ofW (cc := cL_holds) (maxL := 15) (ret := (some .boolean)) (by decide) rfl ?_
  intro p e s m args below meth c s₁ B hml hv
  obtain ⟨rfl, hW, hKK, hKX, hKY, hKN⟩ := hv
  have hx := B.exec
  have hb := B.bytes
  have hr := B.returns
  have hts := atoms_spec (ws := wsL_holds) B.pre
  have hown : s.vm.findClass RL = some m.cls := findClass_of_methodNamed B.named
  have hlocks := B.notSynchronized
  have hS : va_S (zA Γ) s.heap s.heap [] := va_S.rf
  have hl := lv_entry ([.ref a_1, .ref qn, .int i_3]) (n := 15) (Nat.le_of_ble_eq_true rfl)
  rw [lg_entry_eq]
  generalize (lg_sl ([.ref a_1, .ref qn, .int i_3]) ++ List.replicate (15 - (lg_sl ([.ref a_1, .ref qn, .int i_3])).length) Slot.unset).toArray = ls at hl ⊢
  have hl : lv_has ls 15 [(0, .ref a_1), (1, .ref qn), (2, .int i_3)] := hl
  generalize ([.ref a_1, .ref qn, .int i_3] : List Value).toArray = args at hts ⊢
  obtain ⟨H, hH0⟩ : ∃ H, H = s.heap := ⟨_, rfl⟩
  obtain ⟨locs, hlo0⟩ : ∃ L : List Loc, L = [] := ⟨_, rfl⟩
  have hS : va_S (zA Γ) s.heap H locs := by rw [hH0, hlo0]; exact hS
  have hW : (TW Γ a_1 M (nC Γ qn I :: X)) H := by rw [hH0]; exact hW
  rw [← hH0, ← hlo0]
  unfold fL_holds at hf
  refine lv_aload_n hx hb dL_holds_0 rfl (lv_at hl 0 rfl) ?_
  refine lv_aload_n hx hb dL_holds_1 rfl (lv_at hl 1 rfl) ?_
  refine lv_iload_n hx hb dL_holds_2 rfl (lv_at hl 2 rfl) ?_
  refine lv_iconst (v := (2)) hx hb dL_holds_3 (by decide) ?_
  refine lv_irem hx hb dL_holds_4 (by decide) ?_
  obtain ⟨r1, hc_, hf⟩ := op_cl hf
  refine g_callS (As := [.ref a_1, .ref qn, .int (i_3 - i_3 / (2 : Int32) * (2 : Int32))]) (rest := []) ⟨hx, hb, hml, hown, hts⟩ (cL_plans_ok l hl0 Γ a_1 qn M X hc_) (va_cwS 3 hts gL_holds_L_plans rfl rfl rfl (by decide +kernel) ⟨Nat.le_of_ble_eq_true rfl, Nat.le_of_ble_eq_true rfl⟩) hKK hKX hKY hKN hW hS rfl hl.1 rfl (Nat.le_of_ble_eq_true rfl) dL_holds_5 ⟨(by show _ + _ ≤ 17011; omega), (by show _ + _ ≤ 102066; omega)⟩ (fun H locs hW hS => ?_)
  obtain ⟨x2, ex2, hf⟩ := op_st hf
  refine z_istn (lv' := [(3, .int x2), (0, .ref a_1), (1, .ref qn), (2, .int i_3)]) ex2 hx hb dL_holds_8 rfl hl (by decide) rfl (fun ls hl => ?_)
  refine lv_iconst (v := (0)) hx hb dL_holds_9 (by decide) ?_
  obtain ⟨x3, ex3, hf⟩ := op_st hf
  refine z_ist (lv' := [(4, .int x3), (3, .int x2), (0, .ref a_1), (1, .ref qn), (2, .int i_3)]) ex3 hx hb dL_holds_10 hl (by decide) rfl (fun ls hl => ?_)
  obtain ⟨w6, q40, ew6, eq40, hf⟩ := op_lb hf
  have hw6 : ∀ n9 : Nat, ∀ (q4 : (Int32 × Int32)) (H : Heap) (locs : List Loc) (ls : Array Slot) (cv10 sv11 : Nat), cv10 + n9 * 375 ≤ 15541 → sv11 + n9 * 2250 ≤ 93246 → lv_has ls 15 [(4, .int q4.2), (3, .int q4.1), (0, .ref a_1), (1, .ref qn), (2, .int i_3)] → (TW Γ a_1 M (nC Γ qn I :: X)) H → va_S (zA Γ) s.heap H locs → lp w6 n9 q4 = some y → W p l e (headSpec wsL_holds rmL_holds).room s m args below meth c H locs cv10 sv11 (MQ below (GQ Γ (TW Γ a_1 M (nC Γ qn I :: X)) (some (.int y))) args s 17011 102066 (zA Γ)) (F0 m 12 ls []) := by
    intro n9
    induction n9 with
    | zero => intro q4 H locs ls cv10 sv11 hcv hsv hl hW hS hf; cases hf
    | succ n9 ih7 =>
      intro q4 H locs ls cv10 sv11 hcvcv10 hsvsv11 hl hW hS hf
      obtain ⟨n_, r5, hn_, hf, hr8⟩ := op_lq hf
      cases hn_
      rw [ew6] at hf
      refine lv_iload hx hb dL_holds_12 (lv_at hl 0 rfl) ?_
      refine lv_aload_n hx hb dL_holds_14 rfl (lv_at hl 2 rfl) ?_
      obtain ⟨fs_, hr_⟩ := (tw_r hW)
      refine g_callV (As := []) (rest := [.int q4.2]) ⟨hx, hb, hml, hown, hts⟩ (aX_games l Γ a_1 M (nC Γ qn I :: X) ) (cwV 0 hts gL_holds_X9_games rfl rfl rfl (by decide +kernel) ⟨Nat.le_of_ble_eq_true rfl, Nat.le_of_ble_eq_true rfl⟩) hr_ rfl hKK hKX hKY hKN hW hS rfl hl.1 rfl (Nat.le_of_ble_eq_true rfl) dL_holds_15 ⟨(by show _ + _ ≤ 17011; omega), (by show _ + _ ≤ 102066; omega)⟩ (fun H locs hW hS => ?_)
      obtain ⟨j12, ej12, hf⟩ := op_st hf
      have hj12 : ∀ (u_ : Unit) (H : Heap) (locs : List Loc) (ls : Array Slot), lv_has ls 15 [(3, .int q4.1), (0, .ref a_1)] → (TW Γ a_1 M (nC Γ qn I :: X)) H → va_S (zA Γ) s.heap H locs → j12 () = some r5 → W p l e (headSpec wsL_holds rmL_holds).room s m args below meth c H locs 15541 93246 (MQ below (GQ Γ (TW Γ a_1 M (nC Γ qn I :: X)) (some (.int y))) args s 17011 102066 (zA Γ)) (F0 m 387 ls []) := by
        intro u_ H locs ls hl hW hS hf
        rw [ej12] at hf
        refine lv_iconst (v := (0)) hx hb dL_holds_387 (by decide) ?_
        obtain ⟨x13, ex13, hf⟩ := op_st hf
        refine z_ist (lv' := [(4, .int x13), (3, .int q4.1), (0, .ref a_1)]) ex13 hx hb dL_holds_388 hl (by decide) rfl (fun ls hl => ?_)
        obtain ⟨w16, q140, ew16, eq140, hf⟩ := op_lb hf
        have hw16 : ∀ n19 : Nat, ∀ (q14 : (Int32 × Int32)) (H : Heap) (locs : List Loc) (ls : Array Slot) (cv20 sv21 : Nat), cv20 + n19 * 210 ≤ 17011 → sv21 + n19 * 1260 ≤ 102066 → lv_has ls 15 [(4, .int q14.2), (3, .int q14.1), (0, .ref a_1)] → (TW Γ a_1 M (nC Γ qn I :: X)) H → va_S (zA Γ) s.heap H locs → lp w16 n19 q14 = some r5 → W p l e (headSpec wsL_holds rmL_holds).room s m args below meth c H locs cv20 sv21 (MQ below (GQ Γ (TW Γ a_1 M (nC Γ qn I :: X)) (some (.int y))) args s 17011 102066 (zA Γ)) (F0 m 390 ls []) := by
          intro n19
          induction n19 with
          | zero => intro q14 H locs ls cv20 sv21 hcv hsv hl hW hS hf; cases hf
          | succ n19 ih17 =>
            intro q14 H locs ls cv20 sv21 hcvcv20 hsvsv21 hl hW hS hf
            obtain ⟨n_, r15, hn_, hf, hr18⟩ := op_lq hf
            cases hn_
            rw [ew16] at hf
            refine lv_iload hx hb dL_holds_390 (lv_at hl 0 rfl) ?_
            refine lv_aload_n hx hb dL_holds_392 rfl (lv_at hl 2 rfl) ?_
            obtain ⟨fs_, hr_⟩ := (tw_r hW)
            refine g_callV (As := []) (rest := [.int q14.2]) ⟨hx, hb, hml, hown, hts⟩ (aX_tables l Γ a_1 M (nC Γ qn I :: X) ) (cwV 0 hts gL_holds_X9_tables rfl rfl rfl (by decide +kernel) ⟨Nat.le_of_ble_eq_true rfl, Nat.le_of_ble_eq_true rfl⟩) hr_ rfl hKK hKX hKY hKN hW hS rfl hl.1 rfl (Nat.le_of_ble_eq_true rfl) dL_holds_393 ⟨(by show _ + _ ≤ 17011; omega), (by show _ + _ ≤ 102066; omega)⟩ (fun H locs hW hS => ?_)
            refine lv_icmp_ge (tgt := 481) hx hb dL_holds_396 (by decide) (fun k396 => ?_) (fun k396 => ?_)
            · have hf := (op_if hf).1 k396
              refine W.widen (k := 17011) (n := 102066) (by omega) (by omega) ?_
              refine lv_iload_n hx hb dL_holds_481 rfl (lv_at hl 1 rfl) ?_
              obtain ⟨hbp, hf⟩ := op_gd hf
              have hf := zr_r hf hr18
              have hf := congrArg some hf
              have hf := zr_r hf hr8
              rw [← hf]
              exact g_iret hx hb hr hlocks (by omega) (by omega) (z_bb hbp) hW hS dL_holds_482
            have hf := (op_if hf).2 k396
            refine lv_iload_n hx hb dL_holds_399 rfl (lv_at hl 1 rfl) ?_
            refine lv_if_eq (tgt := 481) hx hb dL_holds_400 (by decide) (fun k400 => ?_) (fun k400 => ?_)
            · have hf := (op_if hf).1 k400
              refine W.widen (k := 17011) (n := 102066) (by omega) (by omega) ?_
              refine lv_iload_n hx hb dL_holds_481 rfl (lv_at hl 1 rfl) ?_
              obtain ⟨hbp, hf⟩ := op_gd hf
              have hf := zr_r hf hr18
              have hf := congrArg some hf
              have hf := zr_r hf hr8
              rw [← hf]
              exact g_iret hx hb hr hlocks (by omega) (by omega) (z_bb hbp) hW hS dL_holds_482
            have hf := (op_if hf).2 k400
            refine lv_ldc hx hb hown (hts (.constant RL 116 (2147483647)) (List.mem_of_getElem? (i := 10) rfl)) dL_holds_403 ?_
            obtain ⟨x22, ex22, hf⟩ := op_st hf
            refine z_ist (lv' := [(5, .int x22), (4, .int q14.2), (3, .int q14.1), (0, .ref a_1)]) ex22 hx hb dL_holds_405 hl (by decide) rfl (fun ls hl => ?_)
            refine lv_iconst (v := (0)) hx hb dL_holds_407 (by decide) ?_
            obtain ⟨x23, ex23, hf⟩ := op_st hf
            refine z_ist (lv' := [(6, .int x23), (5, .int x22), (4, .int q14.2), (3, .int q14.1), (0, .ref a_1)]) ex23 hx hb dL_holds_408 hl (by decide) rfl (fun ls hl => ?_)
            obtain ⟨w26, q240, ew26, eq240, hf⟩ := op_lb hf
            have hw26 : ∀ n29 : Nat, ∀ (q24 : (Int32 × Int32 × Int32)) (H : Heap) (locs : List Loc) (ls : Array Slot) (cv30 sv31 : Nat), cv30 + n29 * 5 ≤ (cv20 + 210) → sv31 + n29 * 30 ≤ (sv21 + 1260) → lv_has ls 15 [(6, .int q24.2.2), (5, .int q24.2.1), (4, .int q14.2), (3, .int q24.1), (0, .ref a_1)] → (TW Γ a_1 M (nC Γ qn I :: X)) H → va_S (zA Γ) s.heap H locs → lp w26 n29 q24 = some r15 → W p l e (headSpec wsL_holds rmL_holds).room s m args below meth c H locs cv30 sv31 (MQ below (GQ Γ (TW Γ a_1 M (nC Γ qn I :: X)) (some (.int y))) args s 17011 102066 (zA Γ)) (F0 m 410 ls []) := by
              intro n29
              induction n29 with
              | zero => intro q24 H locs ls cv30 sv31 hcv hsv hl hW hS hf; cases hf
              | succ n29 ih27 =>
                intro q24 H locs ls cv30 sv31 hcvcv30 hsvsv31 hl hW hS hf
                obtain ⟨n_, r25, hn_, hf, hr28⟩ := op_lq hf
                cases hn_
                rw [ew26] at hf
                refine lv_iload_n hx hb dL_holds_410 rfl (lv_at hl 3 rfl) ?_
                obtain ⟨j32, ej32, hf⟩ := op_st hf
                have hj32 : ∀ (u_ : Unit) (H : Heap) (locs : List Loc) (ls : Array Slot), lv_has ls 15 [(4, .int q14.2), (3, .int q24.1), (0, .ref a_1)] → (TW Γ a_1 M (nC Γ qn I :: X)) H → va_S (zA Γ) s.heap H locs → j32 () = some r25 → W p l e (headSpec wsL_holds rmL_holds).room s m args below meth c H locs (cv20 + 210) (sv21 + 1260) (MQ below (GQ Γ (TW Γ a_1 M (nC Γ qn I :: X)) (some (.int y))) args s 17011 102066 (zA Γ)) (F0 m 475 ls []) := by
                  intro u_ H locs ls hl hW hS hf
                  rw [ej32] at hf
                  obtain ⟨x33, ex33, hf⟩ := op_st hf
                  refine lv_iinc (v := x33) (lv' := [(4, .int x33), (3, .int q24.1), (0, .ref a_1)]) hx hb dL_holds_475 hl (k := 0) rfl (by rw [ex33]; rfl) (by decide) rfl (fun ls hl => ?_)
                  refine lv_goto (tgt := 390) hx hb dL_holds_478 (by decide) ?_
                  have hf := congrArg some (zr_r hf hr28)
                  have hf := zr_l hf hr18
                  refine W.widen (k := cv20 + 210) (n := sv21 + 1260) (by omega) (by omega) ?_
                  exact ih17 (q24.1, x33) H locs ls (cv20 + 210) (sv21 + 1260) (by omega) (by omega) (lv_sub hl [0, 1, 2] rfl) hW hS hf
                refine lv_if_eq (tgt := 475) hx hb dL_holds_411 (by decide) (fun k411 => ?_) (fun k411 => ?_)
                · have hf := (op_if hf).1 k411
                  refine W.widen (k := (cv20 + 210)) (n := (sv21 + 1260)) (by omega) (by omega) ?_
                  refine W.widen (k := (cv20 + 210)) (n := (sv21 + 1260)) (by omega) (by omega) ?_
                  exact hj32 () H locs ls (lv_sub hl [2, 3, 4] rfl) hW hS hf
                have hf := (op_if hf).2 k411
                refine lv_aload_n hx hb dL_holds_414 rfl (lv_at hl 4 rfl) ?_
                refine lv_iload hx hb dL_holds_415 (lv_at hl 2 rfl) ?_
                refine lv_iload hx hb dL_holds_417 (lv_at hl 0 rfl) ?_
                refine g_callW (As := [.ref a_1, .int q14.2, .int q24.2.2]) (rest := []) ⟨hx, hb, hml, hown, hts⟩ (aL_high l hl0 Γ a_1 M (nC Γ qn I :: X) q14.2 q24.2.2) (vx_cwSW 3 hts gL_holds_L_high rfl rfl rfl (by decide +kernel) ⟨Nat.le_of_ble_eq_true rfl, Nat.le_of_ble_eq_true rfl⟩) hKK hKX hKY hKN hW hS rfl hl.1 rfl (Nat.le_of_ble_eq_true rfl) dL_holds_419 ⟨(by show _ + _ ≤ 17011; omega), (by show _ + _ ≤ 102066; omega)⟩ (fun H locs hW hS => ?_)
                refine lv_if_lt (tgt := 475) hx hb dL_holds_422 (by decide) (fun k422 => ?_) (fun k422 => ?_)
                · have hf := (op_if hf).1 k422
                  refine W.widen (k := (cv20 + 210)) (n := (sv21 + 1260)) (by omega) (by omega) ?_
                  refine W.widen (k := (cv20 + 210)) (n := (sv21 + 1260)) (by omega) (by omega) ?_
                  exact hj32 () H locs ls (lv_sub hl [2, 3, 4] rfl) hW hS hf
                have hf := (op_if hf).2 k422
                refine lv_aload_n hx hb dL_holds_425 rfl (lv_at hl 4 rfl) ?_
                refine lv_iload hx hb dL_holds_426 (lv_at hl 2 rfl) ?_
                refine lv_iload hx hb dL_holds_428 (lv_at hl 0 rfl) ?_
                refine g_callW (As := [.ref a_1, .int q14.2, .int q24.2.2]) (rest := []) ⟨hx, hb, hml, hown, hts⟩ (aL_high l hl0 Γ a_1 M (nC Γ qn I :: X) q14.2 q24.2.2) (vx_cwSW 3 hts gL_holds_L_high rfl rfl rfl (by decide +kernel) ⟨Nat.le_of_ble_eq_true rfl, Nat.le_of_ble_eq_true rfl⟩) hKK hKX hKY hKN hW hS rfl hl.1 rfl (Nat.le_of_ble_eq_true rfl) dL_holds_430 ⟨(by show _ + _ ≤ 17011; omega), (by show _ + _ ≤ 102066; omega)⟩ (fun H locs hW hS => ?_)
                obtain ⟨x34, ex34, hf⟩ := op_st hf
                refine z_ist (lv' := [(7, .int x34), (6, .int q24.2.2), (5, .int q24.2.1), (4, .int q14.2), (3, .int q24.1), (0, .ref a_1)]) ex34 hx hb dL_holds_433 hl (by decide) rfl (fun ls hl => ?_)
                refine lv_aload_n hx hb dL_holds_435 rfl (lv_at hl 5 rfl) ?_
                refine lv_iload hx hb dL_holds_436 (lv_at hl 0 rfl) ?_
                refine g_callW (As := [.ref a_1, .int x34]) (rest := []) ⟨hx, hb, hml, hown, hts⟩ (aL_balls l hl0 Γ a_1 M (nC Γ qn I :: X) x34) (vx_cwSW 2 hts gL_holds_L_balls rfl rfl rfl (by decide +kernel) ⟨Nat.le_of_ble_eq_true rfl, Nat.le_of_ble_eq_true rfl⟩) hKK hKX hKY hKN hW hS rfl hl.1 rfl (Nat.le_of_ble_eq_true rfl) dL_holds_438 ⟨(by show _ + _ ≤ 17011; omega), (by show _ + _ ≤ 102066; omega)⟩ (fun H locs hW hS => ?_)
                obtain ⟨j36, ej36, hf⟩ := op_st hf
                have hj36 : ∀ (y35 : Int32) (H : Heap) (locs : List Loc) (ls : Array Slot), lv_has ls 15 [(7, .int x34), (6, .int q24.2.2), (4, .int q14.2), (0, .ref a_1)] → (TW Γ a_1 M (nC Γ qn I :: X)) H → va_S (zA Γ) s.heap H locs → j36 y35 = some r25 → W p l e (headSpec wsL_holds rmL_holds).room s m args below meth c H locs (cv30 + 4) (sv31 + 24) (MQ below (GQ Γ (TW Γ a_1 M (nC Γ qn I :: X)) (some (.int y))) args s 17011 102066 (zA Γ)) (F0 m 460 ls [.int y35]) := by
                  intro y35 H locs ls hl hW hS hf
                  rw [ej36] at hf
                  obtain ⟨x37, ex37, hf⟩ := op_st hf
                  refine z_istn (lv' := [(3, .int x37), (7, .int x34), (6, .int q24.2.2), (4, .int q14.2), (0, .ref a_1)]) ex37 hx hb dL_holds_460 rfl hl (by decide) rfl (fun ls hl => ?_)
                  refine lv_aload_n hx hb dL_holds_461 rfl (lv_at hl 4 rfl) ?_
                  refine lv_iload hx hb dL_holds_462 (lv_at hl 1 rfl) ?_
                  refine g_callW (As := [.ref a_1, .int x34]) (rest := []) ⟨hx, hb, hml, hown, hts⟩ (aL_valid l hl0 Γ a_1 M (nC Γ qn I :: X) x34) (vx_cwSW 2 hts gL_holds_L_valid rfl rfl rfl (by decide +kernel) ⟨Nat.le_of_ble_eq_true rfl, Nat.le_of_ble_eq_true rfl⟩) hKK hKX hKY hKN hW hS rfl hl.1 rfl (Nat.le_of_ble_eq_true rfl) dL_holds_464 ⟨(by show _ + _ ≤ 17011; omega), (by show _ + _ ≤ 102066; omega)⟩ (fun H locs hW hS => ?_)
                  obtain ⟨x38, ex38, hf⟩ := op_st hf
                  refine z_ist (lv' := [(5, .int x38), (3, .int x37), (7, .int x34), (6, .int q24.2.2), (4, .int q14.2), (0, .ref a_1)]) ex38 hx hb dL_holds_467 hl (by decide) rfl (fun ls hl => ?_)
                  obtain ⟨x39, ex39, hf⟩ := op_st hf
                  refine lv_iinc (v := x39) (lv' := [(6, .int x39), (5, .int x38), (3, .int x37), (7, .int x34), (4, .int q14.2), (0, .ref a_1)]) hx hb dL_holds_469 hl (k := 3) rfl (by rw [ex39]; rfl) (by decide) rfl (fun ls hl => ?_)
                  refine lv_goto (tgt := 410) hx hb dL_holds_472 (by decide) ?_
                  have hf := zr_l hf hr28
                  refine W.widen (k := cv30 + 5) (n := sv31 + 30) (by omega) (by omega) ?_
                  exact ih27 (x37, x38, x39) H locs ls (cv30 + 5) (sv31 + 30) (by omega) (by omega) (lv_sub hl [0, 1, 4, 2, 5] rfl) hW hS hf
                obtain ⟨j40, ej40, hf⟩ := op_st hf
                have hj40 : ∀ (u_ : Unit) (H : Heap) (locs : List Loc) (ls : Array Slot), lv_has ls 15 [(7, .int x34), (6, .int q24.2.2), (4, .int q14.2), (0, .ref a_1)] → (TW Γ a_1 M (nC Γ qn I :: X)) H → va_S (zA Γ) s.heap H locs → j40 () = some r25 → W p l e (headSpec wsL_holds rmL_holds).room s m args below meth c H locs (cv30 + 4) (sv31 + 24) (MQ below (GQ Γ (TW Γ a_1 M (nC Γ qn I :: X)) (some (.int y))) args s 17011 102066 (zA Γ)) (F0 m 459 ls []) := by
                  intro u_ H locs ls hl hW hS hf
                  rw [ej40] at hf
                  refine lv_iconst (v := (0)) hx hb dL_holds_459 (by decide) ?_
                  refine W.widen (k := (cv30 + 4)) (n := (sv31 + 24)) (by omega) (by omega) ?_
                  exact hj36 (0 : Int32) H locs ls (lv_sub hl [0, 1, 2, 3] rfl) hW hS hf
                refine lv_if_ne (tgt := 459) hx hb dL_holds_441 (by decide) (fun k441 => ?_) (fun k441 => ?_)
                · have hf := (op_if hf).2 k441
                  refine W.widen (k := (cv30 + 4)) (n := (sv31 + 24)) (by omega) (by omega) ?_
                  exact hj40 () H locs ls (lv_sub hl [0, 1, 3, 5] rfl) hW hS hf
                have hf := (op_if hf).1 k441
                refine lv_aload_n hx hb dL_holds_444 rfl (lv_at hl 5 rfl) ?_
                refine lv_iload hx hb dL_holds_445 (lv_at hl 0 rfl) ?_
                refine g_callW (As := [.ref a_1, .int x34]) (rest := []) ⟨hx, hb, hml, hown, hts⟩ (aL_valid l hl0 Γ a_1 M (nC Γ qn I :: X) x34) (vx_cwSW 2 hts gL_holds_L_valid rfl rfl rfl (by decide +kernel) ⟨Nat.le_of_ble_eq_true rfl, Nat.le_of_ble_eq_true rfl⟩) hKK hKX hKY hKN hW hS rfl hl.1 rfl (Nat.le_of_ble_eq_true rfl) dL_holds_447 ⟨(by show _ + _ ≤ 17011; omega), (by show _ + _ ≤ 102066; omega)⟩ (fun H locs hW hS => ?_)
                refine lv_iload hx hb dL_holds_450 (lv_at hl 2 rfl) ?_
                refine lv_icmp_gt (tgt := 459) hx hb dL_holds_452 (by decide) (fun k452 => ?_) (fun k452 => ?_)
                · have hf := (op_if hf).1 k452
                  refine W.widen (k := (cv30 + 4)) (n := (sv31 + 24)) (by omega) (by omega) ?_
                  exact hj40 () H locs ls (lv_sub hl [0, 1, 3, 5] rfl) hW hS hf
                have hf := (op_if hf).2 k452
                refine lv_iconst (v := (1)) hx hb dL_holds_455 (by decide) ?_
                refine lv_goto (tgt := 460) hx hb dL_holds_456 (by decide) ?_
                refine W.widen (k := (cv30 + 4)) (n := (sv31 + 24)) (by omega) (by omega) ?_
                exact hj36 (1 : Int32) H locs ls (lv_sub hl [0, 1, 3, 5] rfl) hW hS hf
            rw [eq240] at hf
            refine W.widen (k := (cv20 + 0)) (n := (sv21 + 0)) (by omega) (by omega) ?_
            exact hw26 42 (q14.1, x22, x23) H locs ls (cv20 + 0) (sv21 + 0) (lb2 (by decide)) (lb2 (by decide)) (lv_sub hl [0, 1, 2, 3, 4] rfl) hW hS hf
        rw [eq140] at hf
        refine W.widen (k := 15541) (n := 93246) (by omega) (by omega) ?_
        exact hw16 7 (q4.1, x13) H locs ls 15541 93246 (by decide) (by decide) (lv_sub hl [0, 1, 2] rfl) hW hS hf
      refine lv_icmp_ge (tgt := 387) hx hb dL_holds_18 (by decide) (fun k18 => ?_) (fun k18 => ?_)
      · have hf := (op_if hf).1 k18
        refine W.widen (k := 15541) (n := 93246) (by omega) (by omega) ?_
        refine W.widen (k := 15541) (n := 93246) (by omega) (by omega) ?_
        exact hj12 () H locs ls (lv_sub hl [1, 2] rfl) hW hS hf
      have hf := (op_if hf).2 k18
      refine lv_iload_n hx hb dL_holds_21 rfl (lv_at hl 1 rfl) ?_
      refine lv_if_eq (tgt := 387) hx hb dL_holds_22 (by decide) (fun k22 => ?_) (fun k22 => ?_)
      · have hf := (op_if hf).1 k22
        refine W.widen (k := 15541) (n := 93246) (by omega) (by omega) ?_
        refine W.widen (k := 15541) (n := 93246) (by omega) (by omega) ?_
        exact hj12 () H locs ls (lv_sub hl [1, 2] rfl) hW hS hf
      have hf := (op_if hf).2 k22
      refine lv_aload_n hx hb dL_holds_25 rfl (lv_at hl 2 rfl) ?_
      refine lv_iload hx hb dL_holds_26 (lv_at hl 0 rfl) ?_
      refine g_callW (As := [.ref a_1, .int q4.2]) (rest := []) ⟨hx, hb, hml, hown, hts⟩ (aL_logged l hl0 Γ a_1 M (nC Γ qn I :: X) q4.2) (vx_cwSW 2 hts gL_holds_L_logged rfl rfl rfl (by decide +kernel) ⟨Nat.le_of_ble_eq_true rfl, Nat.le_of_ble_eq_true rfl⟩) hKK hKX hKY hKN hW hS rfl hl.1 rfl (Nat.le_of_ble_eq_true rfl) dL_holds_28 ⟨(by show _ + _ ≤ 17011; omega), (by show _ + _ ≤ 102066; omega)⟩ (fun H locs hW hS => ?_)
      obtain ⟨x41, ex41, hf⟩ := op_st hf
      refine z_ist (lv' := [(5, .int x41), (4, .int q4.2), (3, .int q4.1), (0, .ref a_1), (1, .ref qn), (2, .int i_3)]) ex41 hx hb dL_holds_31 hl (by decide) rfl (fun ls hl => ?_)
      refine lv_aload_n hx hb dL_holds_33 rfl (lv_at hl 3 rfl) ?_
      refine lv_iload hx hb dL_holds_34 (lv_at hl 1 rfl) ?_
      refine g_callW (As := [.ref a_1, .int q4.2]) (rest := []) ⟨hx, hb, hml, hown, hts⟩ (aL_balls l hl0 Γ a_1 M (nC Γ qn I :: X) q4.2) (vx_cwSW 2 hts gL_holds_L_balls rfl rfl rfl (by decide +kernel) ⟨Nat.le_of_ble_eq_true rfl, Nat.le_of_ble_eq_true rfl⟩) hKK hKX hKY hKN hW hS rfl hl.1 rfl (Nat.le_of_ble_eq_true rfl) dL_holds_36 ⟨(by show _ + _ ≤ 17011; omega), (by show _ + _ ≤ 102066; omega)⟩ (fun H locs hW hS => ?_)
      obtain ⟨x42, ex42, hf⟩ := op_st hf
      refine z_ist (lv' := [(6, .int x42), (5, .int x41), (4, .int q4.2), (3, .int q4.1), (0, .ref a_1), (1, .ref qn), (2, .int i_3)]) ex42 hx hb dL_holds_39 hl (by decide) rfl (fun ls hl => ?_)
      refine lv_aload_n hx hb dL_holds_41 rfl (lv_at hl 4 rfl) ?_
      refine lv_iload hx hb dL_holds_42 (lv_at hl 2 rfl) ?_
      refine g_callW (As := [.ref a_1, .int q4.2]) (rest := []) ⟨hx, hb, hml, hown, hts⟩ (aL_twin l hl0 Γ a_1 M (nC Γ qn I :: X) q4.2) (vx_cwSW 2 hts gL_holds_L_twin rfl rfl rfl (by decide +kernel) ⟨Nat.le_of_ble_eq_true rfl, Nat.le_of_ble_eq_true rfl⟩) hKK hKX hKY hKN hW hS rfl hl.1 rfl (Nat.le_of_ble_eq_true rfl) dL_holds_44 ⟨(by show _ + _ ≤ 17011; omega), (by show _ + _ ≤ 102066; omega)⟩ (fun H locs hW hS => ?_)
      obtain ⟨x43, ex43, hf⟩ := op_st hf
      refine z_ist (lv' := [(7, .int x43), (6, .int x42), (5, .int x41), (4, .int q4.2), (3, .int q4.1), (0, .ref a_1), (1, .ref qn), (2, .int i_3)]) ex43 hx hb dL_holds_47 hl (by decide) rfl (fun ls hl => ?_)
      refine lv_aload_n hx hb dL_holds_49 rfl (lv_at hl 5 rfl) ?_
      refine lv_iload hx hb dL_holds_50 (lv_at hl 3 rfl) ?_
      refine g_callW (As := [.ref a_1, .int q4.2]) (rest := []) ⟨hx, hb, hml, hown, hts⟩ (aL_byLog l hl0 Γ a_1 M (nC Γ qn I :: X) q4.2) (vx_cwSW 2 hts gL_holds_L_byLog rfl rfl rfl (by decide +kernel) ⟨Nat.le_of_ble_eq_true rfl, Nat.le_of_ble_eq_true rfl⟩) hKK hKX hKY hKN hW hS rfl hl.1 rfl (Nat.le_of_ble_eq_true rfl) dL_holds_52 ⟨(by show _ + _ ≤ 17011; omega), (by show _ + _ ≤ 102066; omega)⟩ (fun H locs hW hS => ?_)
      refine lv_aload_n hx hb dL_holds_55 rfl (lv_at hl 5 rfl) ?_
      refine lv_iload hx hb dL_holds_56 (lv_at hl 3 rfl) ?_
      refine g_callW (As := [.ref a_1, .int q4.2]) (rest := [.int (A_byLog M q4.2)]) ⟨hx, hb, hml, hown, hts⟩ (aL_score l hl0 Γ a_1 M (nC Γ qn I :: X) q4.2) (vx_cwSW 2 hts gL_holds_L_score rfl rfl rfl (by decide +kernel) ⟨Nat.le_of_ble_eq_true rfl, Nat.le_of_ble_eq_true rfl⟩) hKK hKX hKY hKN hW hS rfl hl.1 rfl (Nat.le_of_ble_eq_true rfl) dL_holds_58 ⟨(by show _ + _ ≤ 17011; omega), (by show _ + _ ≤ 102066; omega)⟩ (fun H locs hW hS => ?_)
      obtain ⟨j45, ej45, hf⟩ := op_st hf
      have hj45 : ∀ (y44 : Int32) (H : Heap) (locs : List Loc) (ls : Array Slot), lv_has ls 15 [(6, .int x42), (5, .int x41), (4, .int q4.2), (0, .ref a_1), (1, .ref qn), (2, .int i_3)] → (TW Γ a_1 M (nC Γ qn I :: X)) H → va_S (zA Γ) s.heap H locs → j45 y44 = some r5 → W p l e (headSpec wsL_holds rmL_holds).room s m args below meth c H locs (cv10 + 13) (sv11 + 78) (MQ below (GQ Γ (TW Γ a_1 M (nC Γ qn I :: X)) (some (.int y))) args s 17011 102066 (zA Γ)) (F0 m 216 ls [.int y44]) := by
        intro y44 H locs ls hl hW hS hf
        rw [ej45] at hf
        obtain ⟨x46, ex46, hf⟩ := op_st hf
        refine z_istn (lv' := [(3, .int x46), (6, .int x42), (5, .int x41), (4, .int q4.2), (0, .ref a_1), (1, .ref qn), (2, .int i_3)]) ex46 hx hb dL_holds_216 rfl hl (by decide) rfl (fun ls hl => ?_)
        refine lv_ldc2 hx hb hown (hts (.constantLong RL 203 (-1)) (List.mem_of_getElem? (i := 2) rfl)) dL_holds_217 ?_
        obtain ⟨x47, ex47, hf⟩ := op_st hf
        refine z_lst (lv' := [(8, .long x47), (3, .int x46), (6, .int x42), (5, .int x41), (4, .int q4.2), (0, .ref a_1), (1, .ref qn), (2, .int i_3)]) ex47 hx hb dL_holds_220 hl (by decide) rfl (fun ls hl => ?_)
        refine lv_iload_n hx hb dL_holds_222 rfl (lv_at hl 7 rfl) ?_
        refine lv_bipush (v := (7)) hx hb dL_holds_223 (by decide) ?_
        refine lv_irem hx hb dL_holds_225 (by decide) ?_
        obtain ⟨x48, ex48, hf⟩ := op_st hf
        refine z_ist (lv' := [(10, .int x48), (8, .long x47), (3, .int x46), (6, .int x42), (5, .int x41), (4, .int q4.2), (0, .ref a_1), (1, .ref qn), (2, .int i_3)]) ex48 hx hb dL_holds_226 hl (by decide) rfl (fun ls hl => ?_)
        obtain ⟨w51, q490, ew51, eq490, hf⟩ := op_lb hf
        have hw51 : ∀ n54 : Nat, ∀ (q49 : (Int32 × Int64 × Int32)) (H : Heap) (locs : List Loc) (ls : Array Slot) (cv55 sv56 : Nat), cv55 + n54 * 1 ≤ (cv10 + 375) → sv56 + n54 * 6 ≤ (sv11 + 2250) → lv_has ls 15 [(10, .int q49.2.2), (8, .long q49.2.1), (3, .int q49.1), (6, .int x42), (5, .int x41), (4, .int q4.2), (0, .ref a_1), (1, .ref qn), (2, .int i_3)] → (TW Γ a_1 M (nC Γ qn I :: X)) H → va_S (zA Γ) s.heap H locs → lp w51 n54 q49 = some r5 → W p l e (headSpec wsL_holds rmL_holds).room s m args below meth c H locs cv55 sv56 (MQ below (GQ Γ (TW Γ a_1 M (nC Γ qn I :: X)) (some (.int y))) args s 17011 102066 (zA Γ)) (F0 m 228 ls []) := by
          intro n54
          induction n54 with
          | zero => intro q49 H locs ls cv55 sv56 hcv hsv hl hW hS hf; cases hf
          | succ n54 ih52 =>
            intro q49 H locs ls cv55 sv56 hcvcv55 hsvsv56 hl hW hS hf
            obtain ⟨n_, r50, hn_, hf, hr53⟩ := op_lq hf
            cases hn_
            rw [ew51] at hf
            refine lv_iload hx hb dL_holds_228 (lv_at hl 0 rfl) ?_
            refine lv_iload hx hb dL_holds_230 (lv_at hl 4 rfl) ?_
            obtain ⟨j57, ej57, hf⟩ := op_st hf
            have hj57 : ∀ (u_ : Unit) (H : Heap) (locs : List Loc) (ls : Array Slot), lv_has ls 15 [(3, .int q49.1), (4, .int q4.2), (0, .ref a_1), (1, .ref qn), (2, .int i_3)] → (TW Γ a_1 M (nC Γ qn I :: X)) H → va_S (zA Γ) s.heap H locs → j57 () = some r50 → W p l e (headSpec wsL_holds rmL_holds).room s m args below meth c H locs (cv10 + 375) (sv11 + 2250) (MQ below (GQ Γ (TW Γ a_1 M (nC Γ qn I :: X)) (some (.int y))) args s 17011 102066 (zA Γ)) (F0 m 381 ls []) := by
              intro u_ H locs ls hl hW hS hf
              rw [ej57] at hf
              obtain ⟨x58, ex58, hf⟩ := op_st hf
              refine lv_iinc (v := x58) (lv' := [(4, .int x58), (3, .int q49.1), (0, .ref a_1), (1, .ref qn), (2, .int i_3)]) hx hb dL_holds_381 hl (k := 1) rfl (by rw [ex58]; rfl) (by decide) rfl (fun ls hl => ?_)
              refine lv_goto (tgt := 12) hx hb dL_holds_384 (by decide) ?_
              have hf := congrArg some (zr_r hf hr53)
              have hf := zr_l hf hr8
              refine W.widen (k := cv10 + 375) (n := sv11 + 2250) (by omega) (by omega) ?_
              exact ih7 (q49.1, x58) H locs ls (cv10 + 375) (sv11 + 2250) (by omega) (by omega) (lv_sub hl [0, 1, 2, 3, 4] rfl) hW hS hf
            refine lv_icmp_ge (tgt := 381) hx hb dL_holds_232 (by decide) (fun k232 => ?_) (fun k232 => ?_)
            · have hf := (op_if hf).1 k232
              refine W.widen (k := (cv10 + 375)) (n := (sv11 + 2250)) (by omega) (by omega) ?_
              refine W.widen (k := (cv10 + 375)) (n := (sv11 + 2250)) (by omega) (by omega) ?_
              exact hj57 () H locs ls (lv_sub hl [2, 5, 6, 7, 8] rfl) hW hS hf
            have hf := (op_if hf).2 k232
            refine lv_iload_n hx hb dL_holds_235 rfl (lv_at hl 2 rfl) ?_
            refine lv_if_eq (tgt := 381) hx hb dL_holds_236 (by decide) (fun k236 => ?_) (fun k236 => ?_)
            · have hf := (op_if hf).1 k236
              refine W.widen (k := (cv10 + 375)) (n := (sv11 + 2250)) (by omega) (by omega) ?_
              refine W.widen (k := (cv10 + 375)) (n := (sv11 + 2250)) (by omega) (by omega) ?_
              exact hj57 () H locs ls (lv_sub hl [2, 5, 6, 7, 8] rfl) hW hS hf
            have hf := (op_if hf).2 k236
            refine lv_aload_n hx hb dL_holds_239 rfl (lv_at hl 6 rfl) ?_
            refine lv_iload hx hb dL_holds_240 (lv_at hl 5 rfl) ?_
            refine lv_iload hx hb dL_holds_242 (lv_at hl 0 rfl) ?_
            refine g_callW (As := [.ref a_1, .int q4.2, .int q49.2.2]) (rest := []) ⟨hx, hb, hml, hown, hts⟩ (aL_entry l hl0 Γ a_1 M (nC Γ qn I :: X) q4.2 q49.2.2) (vx_cwSW 3 hts gL_holds_L_entry rfl rfl rfl (by decide +kernel) ⟨Nat.le_of_ble_eq_true rfl, Nat.le_of_ble_eq_true rfl⟩) hKK hKX hKY hKN hW hS rfl hl.1 rfl (Nat.le_of_ble_eq_true rfl) dL_holds_244 ⟨(by show _ + _ ≤ 17011; omega), (by show _ + _ ≤ 102066; omega)⟩ (fun H locs hW hS => ?_)
            obtain ⟨x59, ex59, hf⟩ := op_st hf
            refine z_lst (lv' := [(11, .long x59), (10, .int q49.2.2), (8, .long q49.2.1), (3, .int q49.1), (6, .int x42), (5, .int x41), (4, .int q4.2), (0, .ref a_1), (1, .ref qn), (2, .int i_3)]) ex59 hx hb dL_holds_247 hl (by decide) rfl (fun ls hl => ?_)
            refine lv_lload hx hb dL_holds_249 (lv_at hl 0 rfl) ?_
            refine lv_ldc2 hx hb hown (hts (.constantLong RL 205 (16)) (List.mem_of_getElem? (i := 3) rfl)) dL_holds_251 ?_
            refine lv_ldiv hx hb dL_holds_254 (by decide) ?_
            refine lv_ldc2 hx hb hown (hts (.constantLong RL 205 (16)) (List.mem_of_getElem? (i := 3) rfl)) dL_holds_255 ?_
            refine lv_lrem hx hb dL_holds_258 (by decide) ?_
            refine lv_ldc2 hx hb hown (hts (.constantLong RL 207 (4096)) (List.mem_of_getElem? (i := 4) rfl)) dL_holds_259 ?_
            refine lv_lmul hx hb dL_holds_262 ?_
            refine lv_lload hx hb dL_holds_263 (lv_at hl 0 rfl) ?_
            refine lv_ldc2 hx hb hown (hts (.constantLong RL 209 (256)) (List.mem_of_getElem? (i := 5) rfl)) dL_holds_265 ?_
            refine lv_ldiv hx hb dL_holds_268 (by decide) ?_
            refine lv_ldc2 hx hb hown (hts (.constantLong RL 207 (4096)) (List.mem_of_getElem? (i := 4) rfl)) dL_holds_269 ?_
            refine lv_lrem hx hb dL_holds_272 (by decide) ?_
            refine lv_ladd hx hb dL_holds_273 ?_
            obtain ⟨x60, ex60, hf⟩ := op_st hf
            refine z_lst (lv' := [(13, .long x60), (11, .long x59), (10, .int q49.2.2), (8, .long q49.2.1), (3, .int q49.1), (6, .int x42), (5, .int x41), (4, .int q4.2), (0, .ref a_1), (1, .ref qn), (2, .int i_3)]) ex60 hx hb dL_holds_274 hl (by decide) rfl (fun ls hl => ?_)
            refine lv_lload hx hb dL_holds_276 (lv_at hl 0 rfl) ?_
            refine lv_lload hx hb dL_holds_278 (lv_at hl 3 rfl) ?_
            refine W.lcmp hx hb dL_holds_280 ?_
            obtain ⟨j62, ej62, hf⟩ := op_st hf
            have hj62 : ∀ (y61 : Int32) (H : Heap) (locs : List Loc) (ls : Array Slot), lv_has ls 15 [(13, .long x60), (10, .int q49.2.2), (6, .int x42), (5, .int x41), (4, .int q4.2), (0, .ref a_1), (1, .ref qn), (2, .int i_3)] → (TW Γ a_1 M (nC Γ qn I :: X)) H → va_S (zA Γ) s.heap H locs → j62 y61 = some r50 → W p l e (headSpec wsL_holds rmL_holds).room s m args below meth c H locs (cv55 + 1) (sv56 + 6) (MQ below (GQ Γ (TW Γ a_1 M (nC Γ qn I :: X)) (some (.int y))) args s 17011 102066 (zA Γ)) (F0 m 370 ls [.int y61]) := by
              intro y61 H locs ls hl hW hS hf
              rw [ej62] at hf
              obtain ⟨x63, ex63, hf⟩ := op_st hf
              refine z_istn (lv' := [(3, .int x63), (13, .long x60), (10, .int q49.2.2), (6, .int x42), (5, .int x41), (4, .int q4.2), (0, .ref a_1), (1, .ref qn), (2, .int i_3)]) ex63 hx hb dL_holds_370 rfl hl (by decide) rfl (fun ls hl => ?_)
              refine lv_lload hx hb dL_holds_371 (lv_at hl 1 rfl) ?_
              obtain ⟨x64, ex64, hf⟩ := op_st hf
              refine z_lst (lv' := [(8, .long x64), (3, .int x63), (13, .long x60), (10, .int q49.2.2), (6, .int x42), (5, .int x41), (4, .int q4.2), (0, .ref a_1), (1, .ref qn), (2, .int i_3)]) ex64 hx hb dL_holds_373 hl (by decide) rfl (fun ls hl => ?_)
              obtain ⟨x65, ex65, hf⟩ := op_st hf
              refine lv_iinc (v := x65) (lv' := [(10, .int x65), (8, .long x64), (3, .int x63), (13, .long x60), (6, .int x42), (5, .int x41), (4, .int q4.2), (0, .ref a_1), (1, .ref qn), (2, .int i_3)]) hx hb dL_holds_375 hl (k := 3) rfl (by rw [ex65]; rfl) (by decide) rfl (fun ls hl => ?_)
              refine lv_goto (tgt := 228) hx hb dL_holds_378 (by decide) ?_
              have hf := zr_l hf hr53
              refine W.widen (k := cv55 + 1) (n := sv56 + 6) (by omega) (by omega) ?_
              exact ih52 (x63, x64, x65) H locs ls (cv55 + 1) (sv56 + 6) (by omega) (by omega) (lv_sub hl [0, 1, 2, 4, 5, 6, 7, 8, 9] rfl) hW hS hf
            obtain ⟨j66, ej66, hf⟩ := op_st hf
            have hj66 : ∀ (u_ : Unit) (H : Heap) (locs : List Loc) (ls : Array Slot), lv_has ls 15 [(13, .long x60), (10, .int q49.2.2), (6, .int x42), (5, .int x41), (4, .int q4.2), (0, .ref a_1), (1, .ref qn), (2, .int i_3)] → (TW Γ a_1 M (nC Γ qn I :: X)) H → va_S (zA Γ) s.heap H locs → j66 () = some r50 → W p l e (headSpec wsL_holds rmL_holds).room s m args below meth c H locs (cv55 + 1) (sv56 + 6) (MQ below (GQ Γ (TW Γ a_1 M (nC Γ qn I :: X)) (some (.int y))) args s 17011 102066 (zA Γ)) (F0 m 369 ls []) := by
              intro u_ H locs ls hl hW hS hf
              rw [ej66] at hf
              refine lv_iconst (v := (0)) hx hb dL_holds_369 (by decide) ?_
              refine W.widen (k := (cv55 + 1)) (n := (sv56 + 6)) (by omega) (by omega) ?_
              exact hj62 (0 : Int32) H locs ls (lv_sub hl [0, 1, 2, 3, 4, 5, 6, 7] rfl) hW hS hf
            refine lv_if_lt (tgt := 369) hx hb dL_holds_281 (by decide) (fun k281 => ?_) (fun k281 => ?_)
            · have hf := (op_if hf).1 k281
              refine W.widen (k := (cv55 + 1)) (n := (sv56 + 6)) (by omega) (by omega) ?_
              exact hj66 () H locs ls (lv_sub hl [0, 2, 5, 6, 7, 8, 9, 10] rfl) hW hS hf
            have hf := (op_if hf).2 k281
            refine lv_lload hx hb dL_holds_284 (lv_at hl 1 rfl) ?_
            refine lv_ldc2 hx hb hown (hts (.constantLong RL 205 (16)) (List.mem_of_getElem? (i := 3) rfl)) dL_holds_286 ?_
            refine lv_lrem hx hb dL_holds_289 (by decide) ?_
            refine lv_ldc2 hx hb hown (hts (.constantLong RL 211 (8)) (List.mem_of_getElem? (i := 6) rfl)) dL_holds_290 ?_
            refine W.lcmp hx hb dL_holds_293 ?_
            refine lv_if_ge (tgt := 369) hx hb dL_holds_294 (by decide) (fun k294 => ?_) (fun k294 => ?_)
            · have hf := (op_if hf).1 k294
              refine W.widen (k := (cv55 + 1)) (n := (sv56 + 6)) (by omega) (by omega) ?_
              exact hj66 () H locs ls (lv_sub hl [0, 2, 5, 6, 7, 8, 9, 10] rfl) hW hS hf
            have hf := (op_if hf).2 k294
            refine lv_lload hx hb dL_holds_297 (lv_at hl 1 rfl) ?_
            refine lv_ldc2 hx hb hown (hts (.constantLong RL 205 (16)) (List.mem_of_getElem? (i := 3) rfl)) dL_holds_299 ?_
            refine lv_ldiv hx hb dL_holds_302 (by decide) ?_
            refine lv_ldc2 hx hb hown (hts (.constantLong RL 205 (16)) (List.mem_of_getElem? (i := 3) rfl)) dL_holds_303 ?_
            refine lv_lrem hx hb dL_holds_306 (by decide) ?_
            refine lv_ldc2 hx hb hown (hts (.constantLong RL 213 (3)) (List.mem_of_getElem? (i := 7) rfl)) dL_holds_307 ?_
            refine lv_iload hx hb dL_holds_310 (lv_at hl 5 rfl) ?_
            refine lv_i2l hx hb dL_holds_312 rfl ?_
            refine lv_lsub hx hb dL_holds_313 ?_
            refine W.lcmp hx hb dL_holds_314 ?_
            refine lv_if_ge (tgt := 369) hx hb dL_holds_315 (by decide) (fun k315 => ?_) (fun k315 => ?_)
            · have hf := (op_if hf).1 k315
              refine W.widen (k := (cv55 + 1)) (n := (sv56 + 6)) (by omega) (by omega) ?_
              exact hj66 () H locs ls (lv_sub hl [0, 2, 5, 6, 7, 8, 9, 10] rfl) hW hS hf
            have hf := (op_if hf).2 k315
            refine lv_lload hx hb dL_holds_318 (lv_at hl 1 rfl) ?_
            refine lv_ldc2 hx hb hown (hts (.constantLong RL 209 (256)) (List.mem_of_getElem? (i := 5) rfl)) dL_holds_320 ?_
            refine lv_ldiv hx hb dL_holds_323 (by decide) ?_
            refine lv_ldc2 hx hb hown (hts (.constantLong RL 207 (4096)) (List.mem_of_getElem? (i := 4) rfl)) dL_holds_324 ?_
            refine lv_lrem hx hb dL_holds_327 (by decide) ?_
            refine lv_lconst (v := (0)) hx hb dL_holds_328 (by decide) ?_
            refine W.lcmp hx hb dL_holds_329 ?_
            refine lv_if_le (tgt := 369) hx hb dL_holds_330 (by decide) (fun k330 => ?_) (fun k330 => ?_)
            · have hf := (op_if hf).1 k330
              refine W.widen (k := (cv55 + 1)) (n := (sv56 + 6)) (by omega) (by omega) ?_
              exact hj66 () H locs ls (lv_sub hl [0, 2, 5, 6, 7, 8, 9, 10] rfl) hW hS hf
            have hf := (op_if hf).2 k330
            refine lv_lload hx hb dL_holds_333 (lv_at hl 1 rfl) ?_
            refine lv_ldc2 hx hb hown (hts (.constantLong RL 209 (256)) (List.mem_of_getElem? (i := 5) rfl)) dL_holds_335 ?_
            refine lv_ldiv hx hb dL_holds_338 (by decide) ?_
            refine lv_ldc2 hx hb hown (hts (.constantLong RL 207 (4096)) (List.mem_of_getElem? (i := 4) rfl)) dL_holds_339 ?_
            refine lv_lrem hx hb dL_holds_342 (by decide) ?_
            refine lv_ldc2 hx hb hown (hts (.constantLong RL 215 (300)) (List.mem_of_getElem? (i := 8) rfl)) dL_holds_343 ?_
            refine W.lcmp hx hb dL_holds_346 ?_
            refine lv_if_gt (tgt := 369) hx hb dL_holds_347 (by decide) (fun k347 => ?_) (fun k347 => ?_)
            · have hf := (op_if hf).1 k347
              refine W.widen (k := (cv55 + 1)) (n := (sv56 + 6)) (by omega) (by omega) ?_
              exact hj66 () H locs ls (lv_sub hl [0, 2, 5, 6, 7, 8, 9, 10] rfl) hW hS hf
            have hf := (op_if hf).2 k347
            refine lv_lload hx hb dL_holds_350 (lv_at hl 1 rfl) ?_
            refine lv_ldc2 hx hb hown (hts (.constantLong RL 217 (1048576)) (List.mem_of_getElem? (i := 9) rfl)) dL_holds_352 ?_
            refine lv_ldiv hx hb dL_holds_355 (by decide) ?_
            refine lv_aload_n hx hb dL_holds_356 rfl (lv_at hl 9 rfl) ?_
            refine lv_bipush (v := (6)) hx hb dL_holds_357 (by decide) ?_
            obtain ⟨h359, hf⟩ := op_gd hf
            refine va_iald hx hb hKK.1 (tw_n hW) 0 0 (n := 14) rfl rfl h359 dL_holds_359 ?_
            refine lv_i2l hx hb dL_holds_360 rfl ?_
            refine W.lcmp hx hb dL_holds_361 ?_
            refine lv_if_gt (tgt := 369) hx hb dL_holds_362 (by decide) (fun k362 => ?_) (fun k362 => ?_)
            · have hf := (op_if hf).1 k362
              refine W.widen (k := (cv55 + 1)) (n := (sv56 + 6)) (by omega) (by omega) ?_
              exact hj66 () H locs ls (lv_sub hl [0, 2, 5, 6, 7, 8, 9, 10] rfl) hW hS hf
            have hf := (op_if hf).2 k362
            refine lv_iconst (v := (1)) hx hb dL_holds_365 (by decide) ?_
            refine lv_goto (tgt := 370) hx hb dL_holds_366 (by decide) ?_
            refine W.widen (k := (cv55 + 1)) (n := (sv56 + 6)) (by omega) (by omega) ?_
            exact hj62 (1 : Int32) H locs ls (lv_sub hl [0, 2, 5, 6, 7, 8, 9, 10] rfl) hW hS hf
        rw [eq490] at hf
        refine W.widen (k := (cv10 + 13)) (n := (sv11 + 78)) (by omega) (by omega) ?_
        exact hw51 362 (x46, x47, x48) H locs ls (cv10 + 13) (sv11 + 78) (lb2 (by decide)) (lb2 (by decide)) (lv_sub hl [0, 1, 2, 3, 4, 5, 6, 7, 8] rfl) hW hS hf
      obtain ⟨j67, ej67, hf⟩ := op_st hf
      have hj67 : ∀ (u_ : Unit) (H : Heap) (locs : List Loc) (ls : Array Slot), lv_has ls 15 [(6, .int x42), (5, .int x41), (4, .int q4.2), (0, .ref a_1), (1, .ref qn), (2, .int i_3)] → (TW Γ a_1 M (nC Γ qn I :: X)) H → va_S (zA Γ) s.heap H locs → j67 () = some r5 → W p l e (headSpec wsL_holds rmL_holds).room s m args below meth c H locs (cv10 + 13) (sv11 + 78) (MQ below (GQ Γ (TW Γ a_1 M (nC Γ qn I :: X)) (some (.int y))) args s 17011 102066 (zA Γ)) (F0 m 215 ls []) := by
        intro u_ H locs ls hl hW hS hf
        rw [ej67] at hf
        refine lv_iconst (v := (0)) hx hb dL_holds_215 (by decide) ?_
        refine W.widen (k := (cv10 + 13)) (n := (sv11 + 78)) (by omega) (by omega) ?_
        exact hj45 (0 : Int32) H locs ls (lv_sub hl [0, 1, 2, 3, 4, 5] rfl) hW hS hf
      refine lv_icmp_ne (tgt := 215) hx hb dL_holds_61 (by decide) (fun k61 => ?_) (fun k61 => ?_)
      · have hf := (op_if hf).2 k61
        refine W.widen (k := (cv10 + 13)) (n := (sv11 + 78)) (by omega) (by omega) ?_
        exact hj67 () H locs ls (lv_sub hl [1, 2, 3, 5, 6, 7] rfl) hW hS hf
      have hf := (op_if hf).1 k61
      refine lv_iload hx hb dL_holds_64 (lv_at hl 1 rfl) ?_
      refine lv_if_lt (tgt := 215) hx hb dL_holds_66 (by decide) (fun k66 => ?_) (fun k66 => ?_)
      · have hf := (op_if hf).1 k66
        refine W.widen (k := (cv10 + 13)) (n := (sv11 + 78)) (by omega) (by omega) ?_
        exact hj67 () H locs ls (lv_sub hl [1, 2, 3, 5, 6, 7] rfl) hW hS hf
      have hf := (op_if hf).2 k66
      refine lv_iload hx hb dL_holds_69 (lv_at hl 1 rfl) ?_
      refine lv_iconst (v := (3)) hx hb dL_holds_71 (by decide) ?_
      refine lv_icmp_gt (tgt := 215) hx hb dL_holds_72 (by decide) (fun k72 => ?_) (fun k72 => ?_)
      · have hf := (op_if hf).1 k72
        refine W.widen (k := (cv10 + 13)) (n := (sv11 + 78)) (by omega) (by omega) ?_
        exact hj67 () H locs ls (lv_sub hl [1, 2, 3, 5, 6, 7] rfl) hW hS hf
      have hf := (op_if hf).2 k72
      refine lv_iload hx hb dL_holds_75 (lv_at hl 2 rfl) ?_
      refine lv_if_lt (tgt := 215) hx hb dL_holds_77 (by decide) (fun k77 => ?_) (fun k77 => ?_)
      · have hf := (op_if hf).1 k77
        refine W.widen (k := (cv10 + 13)) (n := (sv11 + 78)) (by omega) (by omega) ?_
        exact hj67 () H locs ls (lv_sub hl [1, 2, 3, 5, 6, 7] rfl) hW hS hf
      have hf := (op_if hf).2 k77
      refine lv_iload hx hb dL_holds_80 (lv_at hl 2 rfl) ?_
      refine lv_sipush (v := (2520)) hx hb dL_holds_82 (by decide) ?_
      refine lv_icmp_gt (tgt := 215) hx hb dL_holds_85 (by decide) (fun k85 => ?_) (fun k85 => ?_)
      · have hf := (op_if hf).1 k85
        refine W.widen (k := (cv10 + 13)) (n := (sv11 + 78)) (by omega) (by omega) ?_
        exact hj67 () H locs ls (lv_sub hl [1, 2, 3, 5, 6, 7] rfl) hW hS hf
      have hf := (op_if hf).2 k85
      refine lv_aload_n hx hb dL_holds_88 rfl (lv_at hl 5 rfl) ?_
      refine lv_iload hx hb dL_holds_89 (lv_at hl 3 rfl) ?_
      refine g_callW (As := [.ref a_1, .int q4.2]) (rest := []) ⟨hx, hb, hml, hown, hts⟩ (aL_score l hl0 Γ a_1 M (nC Γ qn I :: X) q4.2) (vx_cwSW 2 hts gL_holds_L_score rfl rfl rfl (by decide +kernel) ⟨Nat.le_of_ble_eq_true rfl, Nat.le_of_ble_eq_true rfl⟩) hKK hKX hKY hKN hW hS rfl hl.1 rfl (Nat.le_of_ble_eq_true rfl) dL_holds_91 ⟨(by show _ + _ ≤ 17011; omega), (by show _ + _ ≤ 102066; omega)⟩ (fun H locs hW hS => ?_)
      refine lv_if_lt (tgt := 215) hx hb dL_holds_94 (by decide) (fun k94 => ?_) (fun k94 => ?_)
      · have hf := (op_if hf).1 k94
        refine W.widen (k := (cv10 + 13)) (n := (sv11 + 78)) (by omega) (by omega) ?_
        exact hj67 () H locs ls (lv_sub hl [1, 2, 3, 5, 6, 7] rfl) hW hS hf
      have hf := (op_if hf).2 k94
      refine lv_iload hx hb dL_holds_97 (lv_at hl 1 rfl) ?_
      refine lv_iconst (v := (3)) hx hb dL_holds_99 (by decide) ?_
      obtain ⟨j68, ej68, hf⟩ := op_st hf
      have hj68 : ∀ (u_ : Unit) (H : Heap) (locs : List Loc) (ls : Array Slot), lv_has ls 15 [(7, .int x43), (6, .int x42), (5, .int x41), (4, .int q4.2), (0, .ref a_1), (1, .ref qn), (2, .int i_3)] → (TW Γ a_1 M (nC Γ qn I :: X)) H → va_S (zA Γ) s.heap H locs → j68 () = some r5 → W p l e (headSpec wsL_holds rmL_holds).room s m args below meth c H locs (cv10 + 7) (sv11 + 42) (MQ below (GQ Γ (TW Γ a_1 M (nC Γ qn I :: X)) (some (.int y))) args s 17011 102066 (zA Γ)) (F0 m 117 ls []) := by
        intro u_ H locs ls hl hW hS hf
        rw [ej68] at hf
        refine lv_aload_n hx hb dL_holds_117 rfl (lv_at hl 4 rfl) ?_
        refine lv_iload hx hb dL_holds_118 (lv_at hl 3 rfl) ?_
        refine g_callW (As := [.ref a_1, .int q4.2]) (rest := []) ⟨hx, hb, hml, hown, hts⟩ (aL_stack l hl0 Γ a_1 M (nC Γ qn I :: X) q4.2) (vx_cwSW 2 hts gL_holds_L_stack rfl rfl rfl (by decide +kernel) ⟨Nat.le_of_ble_eq_true rfl, Nat.le_of_ble_eq_true rfl⟩) hKK hKX hKY hKN hW hS rfl hl.1 rfl (Nat.le_of_ble_eq_true rfl) dL_holds_120 ⟨(by show _ + _ ≤ 17011; omega), (by show _ + _ ≤ 102066; omega)⟩ (fun H locs hW hS => ?_)
        refine lv_sipush (v := (500)) hx hb dL_holds_123 (by decide) ?_
        refine lv_icmp_ge (tgt := 215) hx hb dL_holds_126 (by decide) (fun k126 => ?_) (fun k126 => ?_)
        · have hf := (op_if hf).1 k126
          refine W.widen (k := (cv10 + 13)) (n := (sv11 + 78)) (by omega) (by omega) ?_
          exact hj67 () H locs ls (lv_sub hl [1, 2, 3, 4, 5, 6] rfl) hW hS hf
        have hf := (op_if hf).2 k126
        refine lv_iload hx hb dL_holds_129 (lv_at hl 0 rfl) ?_
        refine lv_iconst (v := (-1)) hx hb dL_holds_131 (by decide) ?_
        obtain ⟨j69, ej69, hf⟩ := op_st hf
        have hj69 : ∀ (u_ : Unit) (H : Heap) (locs : List Loc) (ls : Array Slot), lv_has ls 15 [(6, .int x42), (5, .int x41), (4, .int q4.2), (0, .ref a_1), (1, .ref qn), (2, .int i_3)] → (TW Γ a_1 M (nC Γ qn I :: X)) H → va_S (zA Γ) s.heap H locs → j69 () = some r5 → W p l e (headSpec wsL_holds rmL_holds).room s m args below meth c H locs (cv10 + 12) (sv11 + 72) (MQ below (GQ Γ (TW Γ a_1 M (nC Γ qn I :: X)) (some (.int y))) args s 17011 102066 (zA Γ)) (F0 m 196 ls []) := by
          intro u_ H locs ls hl hW hS hf
          rw [ej69] at hf
          refine lv_aload_n hx hb dL_holds_196 rfl (lv_at hl 3 rfl) ?_
          refine lv_iload hx hb dL_holds_197 (lv_at hl 2 rfl) ?_
          refine lv_iload hx hb dL_holds_199 (lv_at hl 1 rfl) ?_
          refine g_callW (As := [.ref a_1, .int q4.2, .int x41]) (rest := []) ⟨hx, hb, hml, hown, hts⟩ (aL_entry l hl0 Γ a_1 M (nC Γ qn I :: X) q4.2 x41) (vx_cwSW 3 hts gL_holds_L_entry rfl rfl rfl (by decide +kernel) ⟨Nat.le_of_ble_eq_true rfl, Nat.le_of_ble_eq_true rfl⟩) hKK hKX hKY hKN hW hS rfl hl.1 rfl (Nat.le_of_ble_eq_true rfl) dL_holds_201 ⟨(by show _ + _ ≤ 17011; omega), (by show _ + _ ≤ 102066; omega)⟩ (fun H locs hW hS => ?_)
          refine lv_ldc2 hx hb hown (hts (.constantLong RL 77 (-2000000001)) (List.mem_of_getElem? (i := 1) rfl)) dL_holds_204 ?_
          refine W.lcmp hx hb dL_holds_207 ?_
          refine lv_if_ne (tgt := 215) hx hb dL_holds_208 (by decide) (fun k208 => ?_) (fun k208 => ?_)
          · have hf := (op_if hf).2 k208
            refine W.widen (k := (cv10 + 13)) (n := (sv11 + 78)) (by omega) (by omega) ?_
            exact hj67 () H locs ls (lv_sub hl [0, 1, 2, 3, 4, 5] rfl) hW hS hf
          have hf := (op_if hf).1 k208
          refine lv_iconst (v := (1)) hx hb dL_holds_211 (by decide) ?_
          refine lv_goto (tgt := 216) hx hb dL_holds_212 (by decide) ?_
          refine W.widen (k := (cv10 + 13)) (n := (sv11 + 78)) (by omega) (by omega) ?_
          exact hj45 (1 : Int32) H locs ls (lv_sub hl [0, 1, 2, 3, 4, 5] rfl) hW hS hf
        refine lv_icmp_eq (tgt := 196) hx hb dL_holds_132 (by decide) (fun k132 => ?_) (fun k132 => ?_)
        · have hf := (op_if hf).1 k132
          refine W.widen (k := (cv10 + 12)) (n := (sv11 + 72)) (by omega) (by omega) ?_
          exact hj69 () H locs ls (lv_sub hl [1, 2, 3, 4, 5, 6] rfl) hW hS hf
        have hf := (op_if hf).2 k132
        refine lv_iload hx hb dL_holds_135 (lv_at hl 1 rfl) ?_
        refine lv_if_ne (tgt := 215) hx hb dL_holds_137 (by decide) (fun k137 => ?_) (fun k137 => ?_)
        · have hf := (op_if hf).2 k137
          refine W.widen (k := (cv10 + 13)) (n := (sv11 + 78)) (by omega) (by omega) ?_
          exact hj67 () H locs ls (lv_sub hl [1, 2, 3, 4, 5, 6] rfl) hW hS hf
        have hf := (op_if hf).1 k137
        refine lv_iload hx hb dL_holds_140 (lv_at hl 0 rfl) ?_
        refine lv_iload hx hb dL_holds_142 (lv_at hl 3 rfl) ?_
        refine lv_icmp_eq (tgt := 215) hx hb dL_holds_144 (by decide) (fun k144 => ?_) (fun k144 => ?_)
        · have hf := (op_if hf).1 k144
          refine W.widen (k := (cv10 + 13)) (n := (sv11 + 78)) (by omega) (by omega) ?_
          exact hj67 () H locs ls (lv_sub hl [1, 2, 3, 4, 5, 6] rfl) hW hS hf
        have hf := (op_if hf).2 k144
        refine lv_iload hx hb dL_holds_147 (lv_at hl 2 rfl) ?_
        refine lv_if_le (tgt := 215) hx hb dL_holds_149 (by decide) (fun k149 => ?_) (fun k149 => ?_)
        · have hf := (op_if hf).1 k149
          refine W.widen (k := (cv10 + 13)) (n := (sv11 + 78)) (by omega) (by omega) ?_
          exact hj67 () H locs ls (lv_sub hl [1, 2, 3, 4, 5, 6] rfl) hW hS hf
        have hf := (op_if hf).2 k149
        refine lv_aload_n hx hb dL_holds_152 rfl (lv_at hl 4 rfl) ?_
        refine lv_iload hx hb dL_holds_153 (lv_at hl 0 rfl) ?_
        refine g_callW (As := [.ref a_1, .int x43]) (rest := []) ⟨hx, hb, hml, hown, hts⟩ (aL_logged l hl0 Γ a_1 M (nC Γ qn I :: X) x43) (vx_cwSW 2 hts gL_holds_L_logged rfl rfl rfl (by decide +kernel) ⟨Nat.le_of_ble_eq_true rfl, Nat.le_of_ble_eq_true rfl⟩) hKK hKX hKY hKN hW hS rfl hl.1 rfl (Nat.le_of_ble_eq_true rfl) dL_holds_155 ⟨(by show _ + _ ≤ 17011; omega), (by show _ + _ ≤ 102066; omega)⟩ (fun H locs hW hS => ?_)
        refine lv_iload hx hb dL_holds_158 (lv_at hl 2 rfl) ?_
        refine lv_icmp_ne (tgt := 215) hx hb dL_holds_160 (by decide) (fun k160 => ?_) (fun k160 => ?_)
        · have hf := (op_if hf).2 k160
          refine W.widen (k := (cv10 + 13)) (n := (sv11 + 78)) (by omega) (by omega) ?_
          exact hj67 () H locs ls (lv_sub hl [1, 2, 3, 4, 5, 6] rfl) hW hS hf
        have hf := (op_if hf).1 k160
        refine lv_aload_n hx hb dL_holds_163 rfl (lv_at hl 4 rfl) ?_
        refine lv_iload hx hb dL_holds_164 (lv_at hl 0 rfl) ?_
        refine lv_iload hx hb dL_holds_166 (lv_at hl 2 rfl) ?_
        refine lv_iconst (v := (1)) hx hb dL_holds_168 (by decide) ?_
        refine lv_isub hx hb dL_holds_169 ?_
        refine g_callW (As := [.ref a_1, .int x43, .int (x41 - (1 : Int32))]) (rest := []) ⟨hx, hb, hml, hown, hts⟩ (aL_entry l hl0 Γ a_1 M (nC Γ qn I :: X) x43 (x41 - (1 : Int32))) (vx_cwSW 3 hts gL_holds_L_entry rfl rfl rfl (by decide +kernel) ⟨Nat.le_of_ble_eq_true rfl, Nat.le_of_ble_eq_true rfl⟩) hKK hKX hKY hKN hW hS rfl hl.1 rfl (Nat.le_of_ble_eq_true rfl) dL_holds_170 ⟨(by show _ + _ ≤ 17011; omega), (by show _ + _ ≤ 102066; omega)⟩ (fun H locs hW hS => ?_)
        refine lv_aload_n hx hb dL_holds_173 rfl (lv_at hl 4 rfl) ?_
        refine lv_iload hx hb dL_holds_174 (lv_at hl 3 rfl) ?_
        refine lv_iload hx hb dL_holds_176 (lv_at hl 2 rfl) ?_
        refine lv_iconst (v := (1)) hx hb dL_holds_178 (by decide) ?_
        refine lv_isub hx hb dL_holds_179 ?_
        refine g_callW (As := [.ref a_1, .int q4.2, .int (x41 - (1 : Int32))]) (rest := [.long (A_entry M x43 (x41 - (1 : Int32)))]) ⟨hx, hb, hml, hown, hts⟩ (aL_entry l hl0 Γ a_1 M (nC Γ qn I :: X) q4.2 (x41 - (1 : Int32))) (vx_cwSW 3 hts gL_holds_L_entry rfl rfl rfl (by decide +kernel) ⟨Nat.le_of_ble_eq_true rfl, Nat.le_of_ble_eq_true rfl⟩) hKK hKX hKY hKN hW hS rfl hl.1 rfl (Nat.le_of_ble_eq_true rfl) dL_holds_180 ⟨(by show _ + _ ≤ 17011; omega), (by show _ + _ ≤ 102066; omega)⟩ (fun H locs hW hS => ?_)
        refine W.lcmp hx hb dL_holds_183 ?_
        refine lv_if_ne (tgt := 215) hx hb dL_holds_184 (by decide) (fun k184 => ?_) (fun k184 => ?_)
        · have hf := (op_if hf).2 k184
          refine W.widen (k := (cv10 + 13)) (n := (sv11 + 78)) (by omega) (by omega) ?_
          exact hj67 () H locs ls (lv_sub hl [1, 2, 3, 4, 5, 6] rfl) hW hS hf
        have hf := (op_if hf).1 k184
        refine lv_aload_n hx hb dL_holds_187 rfl (lv_at hl 4 rfl) ?_
        refine lv_iload hx hb dL_holds_188 (lv_at hl 0 rfl) ?_
        refine g_callW (As := [.ref a_1, .int x43]) (rest := []) ⟨hx, hb, hml, hown, hts⟩ (aL_balls l hl0 Γ a_1 M (nC Γ qn I :: X) x43) (vx_cwSW 2 hts gL_holds_L_balls rfl rfl rfl (by decide +kernel) ⟨Nat.le_of_ble_eq_true rfl, Nat.le_of_ble_eq_true rfl⟩) hKK hKX hKY hKN hW hS rfl hl.1 rfl (Nat.le_of_ble_eq_true rfl) dL_holds_190 ⟨(by show _ + _ ≤ 17011; omega), (by show _ + _ ≤ 102066; omega)⟩ (fun H locs hW hS => ?_)
        refine lv_if_ne (tgt := 215) hx hb dL_holds_193 (by decide) (fun k193 => ?_) (fun k193 => ?_)
        · have hf := (op_if hf).2 k193
          refine W.widen (k := (cv10 + 13)) (n := (sv11 + 78)) (by omega) (by omega) ?_
          exact hj67 () H locs ls (lv_sub hl [1, 2, 3, 4, 5, 6] rfl) hW hS hf
        have hf := (op_if hf).1 k193
        refine W.widen (k := (cv10 + 12)) (n := (sv11 + 72)) (by omega) (by omega) ?_
        exact hj69 () H locs ls (lv_sub hl [1, 2, 3, 4, 5, 6] rfl) hW hS hf
      refine lv_icmp_lt (tgt := 117) hx hb dL_holds_100 (by decide) (fun k100 => ?_) (fun k100 => ?_)
      · have hf := (op_if hf).1 k100
        refine W.widen (k := (cv10 + 7)) (n := (sv11 + 42)) (by omega) (by omega) ?_
        exact hj68 () H locs ls (lv_sub hl [0, 1, 2, 3, 5, 6, 7] rfl) hW hS hf
      have hf := (op_if hf).2 k100
      refine lv_iload hx hb dL_holds_103 (lv_at hl 2 rfl) ?_
      refine lv_if_ne (tgt := 215) hx hb dL_holds_105 (by decide) (fun k105 => ?_) (fun k105 => ?_)
      · have hf := (op_if hf).2 k105
        refine W.widen (k := (cv10 + 13)) (n := (sv11 + 78)) (by omega) (by omega) ?_
        exact hj67 () H locs ls (lv_sub hl [1, 2, 3, 5, 6, 7] rfl) hW hS hf
      have hf := (op_if hf).1 k105
      refine lv_aload_n hx hb dL_holds_108 rfl (lv_at hl 5 rfl) ?_
      refine lv_iload hx hb dL_holds_109 (lv_at hl 3 rfl) ?_
      refine g_callW (As := [.ref a_1, .int q4.2]) (rest := []) ⟨hx, hb, hml, hown, hts⟩ (aL_score l hl0 Γ a_1 M (nC Γ qn I :: X) q4.2) (vx_cwSW 2 hts gL_holds_L_score rfl rfl rfl (by decide +kernel) ⟨Nat.le_of_ble_eq_true rfl, Nat.le_of_ble_eq_true rfl⟩) hKK hKX hKY hKN hW hS rfl hl.1 rfl (Nat.le_of_ble_eq_true rfl) dL_holds_111 ⟨(by show _ + _ ≤ 17011; omega), (by show _ + _ ≤ 102066; omega)⟩ (fun H locs hW hS => ?_)
      refine lv_if_ne (tgt := 215) hx hb dL_holds_114 (by decide) (fun k114 => ?_) (fun k114 => ?_)
      · have hf := (op_if hf).2 k114
        refine W.widen (k := (cv10 + 13)) (n := (sv11 + 78)) (by omega) (by omega) ?_
        exact hj67 () H locs ls (lv_sub hl [1, 2, 3, 5, 6, 7] rfl) hW hS hf
      have hf := (op_if hf).1 k114
      refine W.widen (k := (cv10 + 7)) (n := (sv11 + 42)) (by omega) (by omega) ?_
      exact hj68 () H locs ls (lv_sub hl [0, 1, 2, 3, 5, 6, 7] rfl) hW hS hf
  rw [eq40] at hf
  refine W.widen (k := 166) (n := 996) (by omega) (by omega) ?_
  exact hw6 41 (x2, x3) H locs ls 166 996 (by decide) (by decide) (lv_sub hl [0, 1, 2, 3, 4] rfl) hW hS hf
