/-! ends -/
abbrev rmL_ends : Room := { frames := 9, cells := 104371, slots := 626226, locals := 202 }
set_option maxHeartbeats 4000000 in
set_option maxRecDepth 100000 in
theorem cL_ends_ok (l : Launch) (hl0 : l.stackTraces = false) (Γ : zG) (a_1 : Nat) (qn : Nat) (M : zMs) (X : va_W) {I : Nat → Int32} {i_3 : Int32} {y : (Int32 × zMs)} (hf : fL_ends M I i_3 = some y) : Met l yL_ends wsL_ends rmL_ends (GP Γ (TW Γ a_1 M (nC Γ qn I :: X)) [.ref a_1, .ref qn, .int i_3]) (GQ Γ (TW Γ a_1 y.2 (nC Γ qn I :: X)) (some (.int y.1))) 104371 626226 (zA Γ) := by
  refine Met.ofW (cc := cL_ends) (maxL := 10) (ret := (some .boolean)) (by decide) rfl ?_
  intro p e s m args below meth c s₁ B hml hv
  obtain ⟨rfl, hW, hKK, hKX, hKY, hKN⟩ := hv
  have hx := B.exec
  have hb := B.bytes
  have hr := B.returns
  have hts := atoms_spec (ws := wsL_ends) B.pre
  have hown : s.vm.findClass RL = some m.cls := findClass_of_methodNamed B.named
  have hlocks := B.notSynchronized
  have hS : va_S (zA Γ) s.heap s.heap [] := va_S.rf
  have hl := lv_entry ([.ref a_1, .ref qn, .int i_3]) (n := 10) (Nat.le_of_ble_eq_true rfl)
  rw [lg_entry_eq]
  generalize (lg_sl ([.ref a_1, .ref qn, .int i_3]) ++ List.replicate (10 - (lg_sl ([.ref a_1, .ref qn, .int i_3])).length) Slot.unset).toArray = ls at hl ⊢
  have hl : lv_has ls 10 [(0, .ref a_1), (1, .ref qn), (2, .int i_3)] := hl
  generalize ([.ref a_1, .ref qn, .int i_3] : List Value).toArray = args at hts ⊢
  obtain ⟨H, hH0⟩ : ∃ H, H = s.heap := ⟨_, rfl⟩
  obtain ⟨locs, hlo0⟩ : ∃ L : List Loc, L = [] := ⟨_, rfl⟩
  have hS : va_S (zA Γ) s.heap H locs := by rw [hH0, hlo0]; exact hS
  have hW : (TW Γ a_1 M (nC Γ qn I :: X)) H := by rw [hH0]; exact hW
  rw [← hH0, ← hlo0]
  unfold fL_ends at hf
  refine lv_iconst (v := (1)) hx hb dL_ends_0 (by decide) ?_
  obtain ⟨x1, ex1, hf⟩ := op_st hf
  refine z_istn (lv' := [(3, .int x1), (0, .ref a_1), (1, .ref qn), (2, .int i_3)]) ex1 hx hb dL_ends_1 rfl hl (by decide) rfl (fun ls hl => ?_)
  refine lv_iconst (v := (0)) hx hb dL_ends_2 (by decide) ?_
  obtain ⟨x2, ex2, hf⟩ := op_st hf
  refine z_ist (lv' := [(4, .int x2), (3, .int x1), (0, .ref a_1), (1, .ref qn), (2, .int i_3)]) ex2 hx hb dL_ends_3 hl (by decide) rfl (fun ls hl => ?_)
  refine lv_iconst (v := (0)) hx hb dL_ends_5 (by decide) ?_
  obtain ⟨x3, ex3, hf⟩ := op_st hf
  refine z_ist (lv' := [(5, .int x3), (4, .int x2), (3, .int x1), (0, .ref a_1), (1, .ref qn), (2, .int i_3)]) ex3 hx hb dL_ends_6 hl (by decide) rfl (fun ls hl => ?_)
  obtain ⟨w6, q40, ew6, eq40, hf⟩ := op_lb hf
  have hw6 : ∀ n9 : Nat, ∀ (q4 : (Int32 × Int32 × zMs)) (H : Heap) (locs : List Loc) (ls : Array Slot) (cv10 sv11 : Nat), cv10 + n9 * 40 ≤ 280 → sv11 + n9 * 240 ≤ 1680 → lv_has ls 10 [(5, .int q4.2.1), (3, .int q4.1), (0, .ref a_1), (1, .ref qn), (2, .int i_3)] → (TW Γ a_1 q4.2.2 (nC Γ qn I :: X)) H → va_S (zA Γ) s.heap H locs → lp w6 n9 q4 = some y → W p l e (headSpec wsL_ends rmL_ends).room s m args below meth c H locs cv10 sv11 (MQ below (GQ Γ (TW Γ a_1 y.2 (nC Γ qn I :: X)) (some (.int y.1))) args s 104371 626226 (zA Γ)) (F0 m 8 ls []) := by
    intro n9
    induction n9 with
    | zero => intro q4 H locs ls cv10 sv11 hcv hsv hl hW hS hf; cases hf
    | succ n9 ih7 =>
      intro q4 H locs ls cv10 sv11 hcvcv10 hsvsv11 hl hW hS hf
      obtain ⟨n_, r5, hn_, hf, hr8⟩ := op_lq hf
      cases hn_
      rw [ew6] at hf
      refine lv_iload hx hb dL_ends_8 (lv_at hl 0 rfl) ?_
      refine lv_aload_n hx hb dL_ends_10 rfl (lv_at hl 2 rfl) ?_
      obtain ⟨fs_, hr_⟩ := (tw_r hW)
      refine g_callV (As := []) (rest := [.int q4.2.1]) ⟨hx, hb, hml, hown, hts⟩ (aX_tables l Γ a_1 q4.2.2 (nC Γ qn I :: X) ) (cwV 0 hts gL_ends_X9_tables rfl rfl rfl (by decide +kernel) ⟨Nat.le_of_ble_eq_true rfl, Nat.le_of_ble_eq_true rfl⟩) hr_ rfl hKK hKX hKY hKN hW hS rfl hl.1 rfl (Nat.le_of_ble_eq_true rfl) dL_ends_11 ⟨(by show _ + _ ≤ 104371; omega), (by show _ + _ ≤ 626226; omega)⟩ (fun H locs hW hS => ?_)
      obtain ⟨j12, ej12, hf⟩ := op_st hf
      have hj12 : ∀ (u_ : Unit) (H : Heap) (locs : List Loc) (ls : Array Slot), lv_has ls 10 [(3, .int q4.1), (0, .ref a_1), (1, .ref qn)] → (TW Γ a_1 q4.2.2 (nC Γ qn I :: X)) H → va_S (zA Γ) s.heap H locs → j12 () = some r5 → W p l e (headSpec wsL_ends rmL_ends).room s m args below meth c H locs 280 1680 (MQ below (GQ Γ (TW Γ a_1 y.2 (nC Γ qn I :: X)) (some (.int y.1))) args s 104371 626226 (zA Γ)) (F0 m 144 ls []) := by
        intro u_ H locs ls hl hW hS hf
        rw [ej12] at hf
        refine lv_iconst (v := (0)) hx hb dL_ends_144 (by decide) ?_
        obtain ⟨x13, ex13, hf⟩ := op_st hf
        refine z_ist (lv' := [(5, .int x13), (3, .int q4.1), (0, .ref a_1), (1, .ref qn)]) ex13 hx hb dL_ends_145 hl (by decide) rfl (fun ls hl => ?_)
        obtain ⟨w16, q140, ew16, eq140, hf⟩ := op_lb hf
        have hw16 : ∀ n19 : Nat, ∀ (q14 : (Int32 × Int32 × zMs)) (H : Heap) (locs : List Loc) (ls : Array Slot) (cv20 sv21 : Nat), cv20 + n19 * 33 ≤ 709 → sv21 + n19 * 198 ≤ 4254 → lv_has ls 10 [(5, .int q14.2.1), (3, .int q14.1), (0, .ref a_1), (1, .ref qn)] → (TW Γ a_1 q14.2.2 (nC Γ qn I :: X)) H → va_S (zA Γ) s.heap H locs → lp w16 n19 q14 = some r5 → W p l e (headSpec wsL_ends rmL_ends).room s m args below meth c H locs cv20 sv21 (MQ below (GQ Γ (TW Γ a_1 y.2 (nC Γ qn I :: X)) (some (.int y.1))) args s 104371 626226 (zA Γ)) (F0 m 147 ls []) := by
          intro n19
          induction n19 with
          | zero => intro q14 H locs ls cv20 sv21 hcv hsv hl hW hS hf; cases hf
          | succ n19 ih17 =>
            intro q14 H locs ls cv20 sv21 hcvcv20 hsvsv21 hl hW hS hf
            obtain ⟨n_, r15, hn_, hf, hr18⟩ := op_lq hf
            cases hn_
            rw [ew16] at hf
            refine lv_iload hx hb dL_ends_147 (lv_at hl 0 rfl) ?_
            refine lv_bipush (v := (12)) hx hb dL_ends_149 (by decide) ?_
            obtain ⟨j22, ej22, hf⟩ := op_st hf
            have hj22 : ∀ (u_ : Unit) (H : Heap) (locs : List Loc) (ls : Array Slot), lv_has ls 10 [(3, .int q14.1), (0, .ref a_1), (1, .ref qn)] → (TW Γ a_1 q14.2.2 (nC Γ qn I :: X)) H → va_S (zA Γ) s.heap H locs → j22 () = some r15 → W p l e (headSpec wsL_ends rmL_ends).room s m args below meth c H locs 709 4254 (MQ below (GQ Γ (TW Γ a_1 y.2 (nC Γ qn I :: X)) (some (.int y.1))) args s 104371 626226 (zA Γ)) (F0 m 293 ls []) := by
              intro u_ H locs ls hl hW hS hf
              rw [ej22] at hf
              refine lv_iconst (v := (0)) hx hb dL_ends_293 (by decide) ?_
              obtain ⟨x23, ex23, hf⟩ := op_st hf
              refine z_ist (lv' := [(5, .int x23), (3, .int q14.1), (0, .ref a_1), (1, .ref qn)]) ex23 hx hb dL_ends_294 hl (by decide) rfl (fun ls hl => ?_)
              obtain ⟨w26, q240, ew26, eq240, hf⟩ := op_lb hf
              have hw26 : ∀ n29 : Nat, ∀ (q24 : (Int32 × Int32)) (H : Heap) (locs : List Loc) (ls : Array Slot) (cv30 sv31 : Nat), cv30 + n29 * 19 ≤ 842 → sv31 + n29 * 114 ≤ 5052 → lv_has ls 10 [(5, .int q24.2), (3, .int q24.1), (0, .ref a_1), (1, .ref qn)] → (TW Γ a_1 q14.2.2 (nC Γ qn I :: X)) H → va_S (zA Γ) s.heap H locs → lp w26 n29 q24 = some r15 → W p l e (headSpec wsL_ends rmL_ends).room s m args below meth c H locs cv30 sv31 (MQ below (GQ Γ (TW Γ a_1 y.2 (nC Γ qn I :: X)) (some (.int y.1))) args s 104371 626226 (zA Γ)) (F0 m 296 ls []) := by
                intro n29
                induction n29 with
                | zero => intro q24 H locs ls cv30 sv31 hcv hsv hl hW hS hf; cases hf
                | succ n29 ih27 =>
                  intro q24 H locs ls cv30 sv31 hcvcv30 hsvsv31 hl hW hS hf
                  obtain ⟨n_, r25, hn_, hf, hr28⟩ := op_lq hf
                  cases hn_
                  rw [ew26] at hf
                  refine lv_iload hx hb dL_ends_296 (lv_at hl 0 rfl) ?_
                  refine lv_aload_n hx hb dL_ends_298 rfl (lv_at hl 2 rfl) ?_
                  obtain ⟨fs_, hr_⟩ := (tw_r hW)
                  refine g_callV (As := []) (rest := [.int q24.2]) ⟨hx, hb, hml, hown, hts⟩ (aX_tables l Γ a_1 q14.2.2 (nC Γ qn I :: X) ) (cwV 0 hts gL_ends_X9_tables rfl rfl rfl (by decide +kernel) ⟨Nat.le_of_ble_eq_true rfl, Nat.le_of_ble_eq_true rfl⟩) hr_ rfl hKK hKX hKY hKN hW hS rfl hl.1 rfl (Nat.le_of_ble_eq_true rfl) dL_ends_299 ⟨(by show _ + _ ≤ 104371; omega), (by show _ + _ ≤ 626226; omega)⟩ (fun H locs hW hS => ?_)
                  obtain ⟨j32, ej32, hf⟩ := op_st hf
                  have hj32 : ∀ (u_ : Unit) (H : Heap) (locs : List Loc) (ls : Array Slot), lv_has ls 10 [(3, .int q24.1), (0, .ref a_1)] → (TW Γ a_1 q14.2.2 (nC Γ qn I :: X)) H → va_S (zA Γ) s.heap H locs → j32 () = some r25 → W p l e (headSpec wsL_ends rmL_ends).room s m args below meth c H locs 842 5052 (MQ below (GQ Γ (TW Γ a_1 y.2 (nC Γ qn I :: X)) (some (.int y.1))) args s 104371 626226 (zA Γ)) (F0 m 384 ls []) := by
                    intro u_ H locs ls hl hW hS hf
                    rw [ej32] at hf
                    refine lv_iconst (v := (0)) hx hb dL_ends_384 (by decide) ?_
                    obtain ⟨x33, ex33, hf⟩ := op_st hf
                    refine z_ist (lv' := [(5, .int x33), (3, .int q24.1), (0, .ref a_1)]) ex33 hx hb dL_ends_385 hl (by decide) rfl (fun ls hl => ?_)
                    obtain ⟨w36, q340, ew36, eq340, hf⟩ := op_lb hf
                    have hw36 : ∀ n39 : Nat, ∀ (q34 : (Int32 × Int32)) (H : Heap) (locs : List Loc) (ls : Array Slot) (cv40 sv41 : Nat), cv40 + n39 * 2525 ≤ 104367 → sv41 + n39 * 15150 ≤ 626202 → lv_has ls 10 [(5, .int q34.2), (3, .int q34.1), (0, .ref a_1)] → (TW Γ a_1 q14.2.2 (nC Γ qn I :: X)) H → va_S (zA Γ) s.heap H locs → lp w36 n39 q34 = some r25 → W p l e (headSpec wsL_ends rmL_ends).room s m args below meth c H locs cv40 sv41 (MQ below (GQ Γ (TW Γ a_1 y.2 (nC Γ qn I :: X)) (some (.int y.1))) args s 104371 626226 (zA Γ)) (F0 m 387 ls []) := by
                      intro n39
                      induction n39 with
                      | zero => intro q34 H locs ls cv40 sv41 hcv hsv hl hW hS hf; cases hf
                      | succ n39 ih37 =>
                        intro q34 H locs ls cv40 sv41 hcvcv40 hsvsv41 hl hW hS hf
                        obtain ⟨n_, r35, hn_, hf, hr38⟩ := op_lq hf
                        cases hn_
                        rw [ew36] at hf
                        refine lv_iload hx hb dL_ends_387 (lv_at hl 0 rfl) ?_
                        refine lv_aload_n hx hb dL_ends_389 rfl (lv_at hl 2 rfl) ?_
                        obtain ⟨fs_, hr_⟩ := (tw_r hW)
                        refine g_callV (As := []) (rest := [.int q34.2]) ⟨hx, hb, hml, hown, hts⟩ (aX_games l Γ a_1 q14.2.2 (nC Γ qn I :: X) ) (cwV 0 hts gL_ends_X9_games rfl rfl rfl (by decide +kernel) ⟨Nat.le_of_ble_eq_true rfl, Nat.le_of_ble_eq_true rfl⟩) hr_ rfl hKK hKX hKY hKN hW hS rfl hl.1 rfl (Nat.le_of_ble_eq_true rfl) dL_ends_390 ⟨(by show _ + _ ≤ 104371; omega), (by show _ + _ ≤ 626226; omega)⟩ (fun H locs hW hS => ?_)
                        obtain ⟨j42, ej42, hf⟩ := op_st hf
                        have hj42 : ∀ (u_ : Unit) (H : Heap) (locs : List Loc) (ls : Array Slot), lv_has ls 10 [(3, .int q34.1), (0, .ref a_1)] → (TW Γ a_1 q14.2.2 (nC Γ qn I :: X)) H → va_S (zA Γ) s.heap H locs → j42 () = some r35 → W p l e (headSpec wsL_ends rmL_ends).room s m args below meth c H locs 104367 626202 (MQ below (GQ Γ (TW Γ a_1 y.2 (nC Γ qn I :: X)) (some (.int y.1))) args s 104371 626226 (zA Γ)) (F0 m 483 ls []) := by
                          intro u_ H locs ls hl hW hS hf
                          rw [ej42] at hf
                          refine lv_iload_n hx hb dL_ends_483 rfl (lv_at hl 0 rfl) ?_
                          obtain ⟨j44, ej44, hf⟩ := op_st hf
                          have hj44 : ∀ (M43 : zMs) (H : Heap) (locs : List Loc) (ls : Array Slot), lv_has ls 10 [] → (TW Γ a_1 M43 (nC Γ qn I :: X)) H → va_S (zA Γ) s.heap H locs → j44 M43 = some r35 → W p l e (headSpec wsL_ends rmL_ends).room s m args below meth c H locs 104371 626226 (MQ below (GQ Γ (TW Γ a_1 y.2 (nC Γ qn I :: X)) (some (.int y.1))) args s 104371 626226 (zA Γ)) (F0 m 527 ls []) := by
                            intro M43 H locs ls hl hW hS hf
                            rw [ej44] at hf
                            refine lv_iconst (v := (0)) hx hb dL_ends_527 (by decide) ?_
                            obtain ⟨hbp, hf⟩ := op_gd hf
                            have hf := zr_r hf hr38
                            have hf := congrArg some hf
                            have hf := zr_r hf hr28
                            have hf := congrArg some hf
                            have hf := zr_r hf hr18
                            have hf := congrArg some hf
                            have hf := zr_r hf hr8
                            rw [← hf]
                            exact g_iret hx hb hr hlocks (by omega) (by omega) (z_bb hbp) hW hS dL_ends_528
                          refine lv_if_eq (tgt := 527) hx hb dL_ends_484 (by decide) (fun k484 => ?_) (fun k484 => ?_)
                          · have hf := (op_if hf).1 k484
                            refine W.widen (k := 104371) (n := 626226) (by omega) (by omega) ?_
                            exact hj44 q14.2.2 H locs ls (lv_sub hl [] rfl) hW hS hf
                          have hf := (op_if hf).2 k484
                          refine lv_aload_n hx hb dL_ends_487 rfl (lv_at hl 1 rfl) ?_
                          refine lv_iconst (v := (0)) hx hb dL_ends_488 (by decide) ?_
                          refine g_callW (As := [.ref a_1, .int (0 : Int32)]) (rest := []) ⟨hx, hb, hml, hown, hts⟩ (aL_wanted l hl0 Γ a_1 q14.2.2 (nC Γ qn I :: X) (0 : Int32)) (vx_cwSW 2 hts gL_ends_L_wanted rfl rfl rfl (by decide +kernel) ⟨Nat.le_of_ble_eq_true rfl, Nat.le_of_ble_eq_true rfl⟩) hKK hKX hKY hKN hW hS rfl hl.1 rfl (Nat.le_of_ble_eq_true rfl) dL_ends_489 ⟨(by show _ + _ ≤ 104371; omega), (by show _ + _ ≤ 626226; omega)⟩ (fun H locs hW hS => ?_)
                          refine lv_if_ne (tgt := 527) hx hb dL_ends_492 (by decide) (fun k492 => ?_) (fun k492 => ?_)
                          · have hf := (op_if hf).2 k492
                            refine W.widen (k := 104371) (n := 626226) (by omega) (by omega) ?_
                            exact hj44 q14.2.2 H locs ls (lv_sub hl [] rfl) hW hS hf
                          have hf := (op_if hf).1 k492
                          refine lv_aload_n hx hb dL_ends_495 rfl (lv_at hl 1 rfl) ?_
                          refine lv_iconst (v := (1)) hx hb dL_ends_496 (by decide) ?_
                          refine g_callW (As := [.ref a_1, .int (1 : Int32)]) (rest := []) ⟨hx, hb, hml, hown, hts⟩ (aL_wanted l hl0 Γ a_1 q14.2.2 (nC Γ qn I :: X) (1 : Int32)) (vx_cwSW 2 hts gL_ends_L_wanted rfl rfl rfl (by decide +kernel) ⟨Nat.le_of_ble_eq_true rfl, Nat.le_of_ble_eq_true rfl⟩) hKK hKX hKY hKN hW hS rfl hl.1 rfl (Nat.le_of_ble_eq_true rfl) dL_ends_497 ⟨(by show _ + _ ≤ 104371; omega), (by show _ + _ ≤ 626226; omega)⟩ (fun H locs hW hS => ?_)
                          refine lv_if_ne (tgt := 527) hx hb dL_ends_500 (by decide) (fun k500 => ?_) (fun k500 => ?_)
                          · have hf := (op_if hf).2 k500
                            refine W.widen (k := 104371) (n := 626226) (by omega) (by omega) ?_
                            exact hj44 q14.2.2 H locs ls (lv_sub hl [] rfl) hW hS hf
                          have hf := (op_if hf).1 k500
                          refine lv_aload_n hx hb dL_ends_503 rfl (lv_at hl 1 rfl) ?_
                          refine lv_iconst (v := (0)) hx hb dL_ends_504 (by decide) ?_
                          obtain ⟨M45, eM45, hf⟩ := op_st hf
                          refine g_callW (As := [.ref a_1, .int (0 : Int32)]) (rest := []) ⟨hx, hb, hml, hown, hts⟩ (aL_go l hl0 Γ a_1 q14.2.2 (nC Γ qn I :: X) (0 : Int32)) (vx_cwSW 2 hts gL_ends_L_go rfl rfl rfl (by decide +kernel) ⟨Nat.le_of_ble_eq_true rfl, Nat.le_of_ble_eq_true rfl⟩) hKK hKX hKY hKN hW hS rfl hl.1 rfl (Nat.le_of_ble_eq_true rfl) dL_ends_505 ⟨(by show _ + _ ≤ 104371; omega), (by show _ + _ ≤ 626226; omega)⟩ (fun H locs hW hS => ?_)
                          rw [← eM45] at hW
                          refine lv_ldc hx hb hown (hts (.constant RL 18 (-2000000003)) (List.mem_of_getElem? (i := 2) rfl)) dL_ends_508 ?_
                          refine lv_icmp_ne (tgt := 527) hx hb dL_ends_510 (by decide) (fun k510 => ?_) (fun k510 => ?_)
                          · have hf := (op_if hf).2 k510
                            refine W.widen (k := 104371) (n := 626226) (by omega) (by omega) ?_
                            exact hj44 M45 H locs ls (lv_sub hl [] rfl) hW hS hf
                          have hf := (op_if hf).1 k510
                          refine lv_aload_n hx hb dL_ends_513 rfl (lv_at hl 1 rfl) ?_
                          refine lv_iconst (v := (1)) hx hb dL_ends_514 (by decide) ?_
                          obtain ⟨M46, eM46, hf⟩ := op_st hf
                          refine g_callW (As := [.ref a_1, .int (1 : Int32)]) (rest := []) ⟨hx, hb, hml, hown, hts⟩ (aL_go l hl0 Γ a_1 M45 (nC Γ qn I :: X) (1 : Int32)) (vx_cwSW 2 hts gL_ends_L_go rfl rfl rfl (by decide +kernel) ⟨Nat.le_of_ble_eq_true rfl, Nat.le_of_ble_eq_true rfl⟩) hKK hKX hKY hKN hW hS rfl hl.1 rfl (Nat.le_of_ble_eq_true rfl) dL_ends_515 ⟨(by show _ + _ ≤ 104371; omega), (by show _ + _ ≤ 626226; omega)⟩ (fun H locs hW hS => ?_)
                          rw [← eM46] at hW
                          refine lv_ldc hx hb hown (hts (.constant RL 18 (-2000000003)) (List.mem_of_getElem? (i := 2) rfl)) dL_ends_518 ?_
                          refine lv_icmp_ne (tgt := 527) hx hb dL_ends_520 (by decide) (fun k520 => ?_) (fun k520 => ?_)
                          · have hf := (op_if hf).2 k520
                            refine W.widen (k := 104371) (n := 626226) (by omega) (by omega) ?_
                            exact hj44 M46 H locs ls (lv_sub hl [] rfl) hW hS hf
                          have hf := (op_if hf).1 k520
                          refine lv_iconst (v := (1)) hx hb dL_ends_523 (by decide) ?_
                          refine lv_goto (tgt := 528) hx hb dL_ends_524 (by decide) ?_
                          obtain ⟨hbp, hf⟩ := op_gd hf
                          have hf := zr_r hf hr38
                          have hf := congrArg some hf
                          have hf := zr_r hf hr28
                          have hf := congrArg some hf
                          have hf := zr_r hf hr18
                          have hf := congrArg some hf
                          have hf := zr_r hf hr8
                          rw [← hf]
                          exact g_iret hx hb hr hlocks (by omega) (by omega) (z_bb hbp) hW hS dL_ends_528
                        refine lv_icmp_ge (tgt := 483) hx hb dL_ends_393 (by decide) (fun k393 => ?_) (fun k393 => ?_)
                        · have hf := (op_if hf).1 k393
                          refine W.widen (k := 104367) (n := 626202) (by omega) (by omega) ?_
                          refine W.widen (k := 104367) (n := 626202) (by omega) (by omega) ?_
                          exact hj42 () H locs ls (lv_sub hl [1, 2] rfl) hW hS hf
                        have hf := (op_if hf).2 k393
                        refine lv_iload_n hx hb dL_ends_396 rfl (lv_at hl 1 rfl) ?_
                        refine lv_if_eq (tgt := 483) hx hb dL_ends_397 (by decide) (fun k397 => ?_) (fun k397 => ?_)
                        · have hf := (op_if hf).1 k397
                          refine W.widen (k := 104367) (n := 626202) (by omega) (by omega) ?_
                          refine W.widen (k := 104367) (n := 626202) (by omega) (by omega) ?_
                          exact hj42 () H locs ls (lv_sub hl [1, 2] rfl) hW hS hf
                        have hf := (op_if hf).2 k397
                        refine lv_iconst (v := (1)) hx hb dL_ends_400 (by decide) ?_
                        obtain ⟨x47, ex47, hf⟩ := op_st hf
                        refine z_ist (lv' := [(6, .int x47), (5, .int q34.2), (3, .int q34.1), (0, .ref a_1)]) ex47 hx hb dL_ends_401 hl (by decide) rfl (fun ls hl => ?_)
                        refine lv_aload_n hx hb dL_ends_403 rfl (lv_at hl 3 rfl) ?_
                        refine lv_iload hx hb dL_ends_404 (lv_at hl 1 rfl) ?_
                        refine g_callW (As := [.ref a_1, .int q34.2]) (rest := []) ⟨hx, hb, hml, hown, hts⟩ (aL_logged l hl0 Γ a_1 q14.2.2 (nC Γ qn I :: X) q34.2) (vx_cwSW 2 hts gL_ends_L_logged rfl rfl rfl (by decide +kernel) ⟨Nat.le_of_ble_eq_true rfl, Nat.le_of_ble_eq_true rfl⟩) hKK hKX hKY hKN hW hS rfl hl.1 rfl (Nat.le_of_ble_eq_true rfl) dL_ends_406 ⟨(by show _ + _ ≤ 104371; omega), (by show _ + _ ≤ 626226; omega)⟩ (fun H locs hW hS => ?_)
                        refine lv_iconst (v := (1)) hx hb dL_ends_409 (by decide) ?_
                        refine lv_isub hx hb dL_ends_410 ?_
                        obtain ⟨x48, ex48, hf⟩ := op_st hf
                        refine z_ist (lv' := [(7, .int x48), (6, .int x47), (5, .int q34.2), (3, .int q34.1), (0, .ref a_1)]) ex48 hx hb dL_ends_411 hl (by decide) rfl (fun ls hl => ?_)
                        obtain ⟨w51, q490, ew51, eq490, hf⟩ := op_lb hf
                        have hw51 : ∀ n54 : Nat, ∀ (q49 : (Int32 × Int32)) (H : Heap) (locs : List Loc) (ls : Array Slot) (cv55 sv56 : Nat), cv55 + n54 * 1 ≤ (cv40 + 2523) → sv56 + n54 * 6 ≤ (sv41 + 15138) → lv_has ls 10 [(7, .int q49.2), (6, .int q49.1), (5, .int q34.2), (0, .ref a_1)] → (TW Γ a_1 q14.2.2 (nC Γ qn I :: X)) H → va_S (zA Γ) s.heap H locs → lp w51 n54 q49 = some r35 → W p l e (headSpec wsL_ends rmL_ends).room s m args below meth c H locs cv55 sv56 (MQ below (GQ Γ (TW Γ a_1 y.2 (nC Γ qn I :: X)) (some (.int y.1))) args s 104371 626226 (zA Γ)) (F0 m 413 ls []) := by
                          intro n54
                          induction n54 with
                          | zero => intro q49 H locs ls cv55 sv56 hcv hsv hl hW hS hf; cases hf
                          | succ n54 ih52 =>
                            intro q49 H locs ls cv55 sv56 hcvcv55 hsvsv56 hl hW hS hf
                            obtain ⟨n_, r50, hn_, hf, hr53⟩ := op_lq hf
                            cases hn_
                            rw [ew51] at hf
                            refine lv_iload hx hb dL_ends_413 (lv_at hl 0 rfl) ?_
                            obtain ⟨j57, ej57, hf⟩ := op_st hf
                            have hj57 : ∀ (u_ : Unit) (H : Heap) (locs : List Loc) (ls : Array Slot), lv_has ls 10 [(6, .int q49.1), (5, .int q34.2), (0, .ref a_1)] → (TW Γ a_1 q14.2.2 (nC Γ qn I :: X)) H → va_S (zA Γ) s.heap H locs → j57 () = some r50 → W p l e (headSpec wsL_ends rmL_ends).room s m args below meth c H locs (cv40 + 2523) (sv41 + 15138) (MQ below (GQ Γ (TW Γ a_1 y.2 (nC Γ qn I :: X)) (some (.int y.1))) args s 104371 626226 (zA Γ)) (F0 m 451 ls []) := by
                              intro u_ H locs ls hl hW hS hf
                              rw [ej57] at hf
                              refine lv_iload hx hb dL_ends_451 (lv_at hl 0 rfl) ?_
                              obtain ⟨j59, ej59, hf⟩ := op_st hf
                              have hj59 : ∀ (y58 : Int32) (H : Heap) (locs : List Loc) (ls : Array Slot), lv_has ls 10 [(5, .int q34.2), (0, .ref a_1)] → (TW Γ a_1 q14.2.2 (nC Γ qn I :: X)) H → va_S (zA Γ) s.heap H locs → j59 y58 = some r50 → W p l e (headSpec wsL_ends rmL_ends).room s m args below meth c H locs (cv40 + 2525) (sv41 + 15150) (MQ below (GQ Γ (TW Γ a_1 y.2 (nC Γ qn I :: X)) (some (.int y.1))) args s 104371 626226 (zA Γ)) (F0 m 476 ls [.int y58]) := by
                                intro y58 H locs ls hl hW hS hf
                                rw [ej59] at hf
                                obtain ⟨x60, ex60, hf⟩ := op_st hf
                                refine z_istn (lv' := [(3, .int x60), (5, .int q34.2), (0, .ref a_1)]) ex60 hx hb dL_ends_476 rfl hl (by decide) rfl (fun ls hl => ?_)
                                obtain ⟨x61, ex61, hf⟩ := op_st hf
                                refine lv_iinc (v := x61) (lv' := [(5, .int x61), (3, .int x60), (0, .ref a_1)]) hx hb dL_ends_477 hl (k := 1) rfl (by rw [ex61]; rfl) (by decide) rfl (fun ls hl => ?_)
                                refine lv_goto (tgt := 387) hx hb dL_ends_480 (by decide) ?_
                                have hf := congrArg some (zr_r hf hr53)
                                have hf := zr_l hf hr38
                                refine W.widen (k := cv40 + 2525) (n := sv41 + 15150) (by omega) (by omega) ?_
                                exact ih37 (x60, x61) H locs ls (cv40 + 2525) (sv41 + 15150) (by omega) (by omega) (lv_sub hl [0, 1, 2] rfl) hW hS hf
                              obtain ⟨j62, ej62, hf⟩ := op_st hf
                              have hj62 : ∀ (u_ : Unit) (H : Heap) (locs : List Loc) (ls : Array Slot), lv_has ls 10 [(5, .int q34.2), (0, .ref a_1)] → (TW Γ a_1 q14.2.2 (nC Γ qn I :: X)) H → va_S (zA Γ) s.heap H locs → j62 () = some r50 → W p l e (headSpec wsL_ends rmL_ends).room s m args below meth c H locs (cv40 + 2525) (sv41 + 15150) (MQ below (GQ Γ (TW Γ a_1 y.2 (nC Γ qn I :: X)) (some (.int y.1))) args s 104371 626226 (zA Γ)) (F0 m 471 ls []) := by
                                intro u_ H locs ls hl hW hS hf
                                rw [ej62] at hf
                                refine lv_iconst (v := (1)) hx hb dL_ends_471 (by decide) ?_
                                refine lv_goto (tgt := 476) hx hb dL_ends_472 (by decide) ?_
                                refine W.widen (k := (cv40 + 2525)) (n := (sv41 + 15150)) (by omega) (by omega) ?_
                                exact hj59 (1 : Int32) H locs ls (lv_sub hl [0, 1] rfl) hW hS hf
                              refine lv_if_eq (tgt := 471) hx hb dL_ends_453 (by decide) (fun k453 => ?_) (fun k453 => ?_)
                              · have hf := (op_if hf).1 k453
                                refine W.widen (k := (cv40 + 2525)) (n := (sv41 + 15150)) (by omega) (by omega) ?_
                                exact hj62 () H locs ls (lv_sub hl [1, 2] rfl) hW hS hf
                              have hf := (op_if hf).2 k453
                              refine lv_aload_n hx hb dL_ends_456 rfl (lv_at hl 2 rfl) ?_
                              refine lv_iload hx hb dL_ends_457 (lv_at hl 1 rfl) ?_
                              refine g_callW (As := [.ref a_1, .int q34.2]) (rest := []) ⟨hx, hb, hml, hown, hts⟩ (aL_valid l hl0 Γ a_1 q14.2.2 (nC Γ qn I :: X) q34.2) (vx_cwSW 2 hts gL_ends_L_valid rfl rfl rfl (by decide +kernel) ⟨Nat.le_of_ble_eq_true rfl, Nat.le_of_ble_eq_true rfl⟩) hKK hKX hKY hKN hW hS rfl hl.1 rfl (Nat.le_of_ble_eq_true rfl) dL_ends_459 ⟨(by show _ + _ ≤ 104371; omega), (by show _ + _ ≤ 626226; omega)⟩ (fun H locs hW hS => ?_)
                              refine lv_aload_n hx hb dL_ends_462 rfl (lv_at hl 2 rfl) ?_
                              refine lv_iload hx hb dL_ends_463 (lv_at hl 1 rfl) ?_
                              refine g_callW (As := [.ref a_1, .int q34.2]) (rest := [.int (A_valid q14.2.2 q34.2)]) ⟨hx, hb, hml, hown, hts⟩ (aL_score l hl0 Γ a_1 q14.2.2 (nC Γ qn I :: X) q34.2) (vx_cwSW 2 hts gL_ends_L_score rfl rfl rfl (by decide +kernel) ⟨Nat.le_of_ble_eq_true rfl, Nat.le_of_ble_eq_true rfl⟩) hKK hKX hKY hKN hW hS rfl hl.1 rfl (Nat.le_of_ble_eq_true rfl) dL_ends_465 ⟨(by show _ + _ ≤ 104371; omega), (by show _ + _ ≤ 626226; omega)⟩ (fun H locs hW hS => ?_)
                              refine lv_icmp_ne (tgt := 475) hx hb dL_ends_468 (by decide) (fun k468 => ?_) (fun k468 => ?_)
                              · have hf := (op_if hf).2 k468
                                refine lv_iconst (v := (0)) hx hb dL_ends_475 (by decide) ?_
                                refine W.widen (k := (cv40 + 2525)) (n := (sv41 + 15150)) (by omega) (by omega) ?_
                                exact hj59 (0 : Int32) H locs ls (lv_sub hl [1, 2] rfl) hW hS hf
                              have hf := (op_if hf).1 k468
                              refine W.widen (k := (cv40 + 2525)) (n := (sv41 + 15150)) (by omega) (by omega) ?_
                              exact hj62 () H locs ls (lv_sub hl [1, 2] rfl) hW hS hf
                            refine lv_if_lt (tgt := 451) hx hb dL_ends_415 (by decide) (fun k415 => ?_) (fun k415 => ?_)
                            · have hf := (op_if hf).1 k415
                              refine W.widen (k := (cv40 + 2523)) (n := (sv41 + 15138)) (by omega) (by omega) ?_
                              refine W.widen (k := (cv40 + 2523)) (n := (sv41 + 15138)) (by omega) (by omega) ?_
                              exact hj57 () H locs ls (lv_sub hl [1, 2, 3] rfl) hW hS hf
                            have hf := (op_if hf).2 k415
                            refine lv_iload hx hb dL_ends_418 (lv_at hl 1 rfl) ?_
                            refine lv_if_eq (tgt := 451) hx hb dL_ends_420 (by decide) (fun k420 => ?_) (fun k420 => ?_)
                            · have hf := (op_if hf).1 k420
                              refine W.widen (k := (cv40 + 2523)) (n := (sv41 + 15138)) (by omega) (by omega) ?_
                              refine W.widen (k := (cv40 + 2523)) (n := (sv41 + 15138)) (by omega) (by omega) ?_
                              exact hj57 () H locs ls (lv_sub hl [1, 2, 3] rfl) hW hS hf
                            have hf := (op_if hf).2 k420
                            refine lv_aload_n hx hb dL_ends_423 rfl (lv_at hl 3 rfl) ?_
                            refine lv_iload hx hb dL_ends_424 (lv_at hl 2 rfl) ?_
                            refine lv_iload hx hb dL_ends_426 (lv_at hl 0 rfl) ?_
                            refine g_callW (As := [.ref a_1, .int q34.2, .int q49.2]) (rest := []) ⟨hx, hb, hml, hown, hts⟩ (aL_entry l hl0 Γ a_1 q14.2.2 (nC Γ qn I :: X) q34.2 q49.2) (vx_cwSW 3 hts gL_ends_L_entry rfl rfl rfl (by decide +kernel) ⟨Nat.le_of_ble_eq_true rfl, Nat.le_of_ble_eq_true rfl⟩) hKK hKX hKY hKN hW hS rfl hl.1 rfl (Nat.le_of_ble_eq_true rfl) dL_ends_428 ⟨(by show _ + _ ≤ 104371; omega), (by show _ + _ ≤ 626226; omega)⟩ (fun H locs hW hS => ?_)
                            refine lv_ldc2 hx hb hown (hts (.constantLong RL 217 (1048576)) (List.mem_of_getElem? (i := 1) rfl)) dL_ends_431 ?_
                            refine W.lcmp hx hb dL_ends_434 ?_
                            obtain ⟨j64, ej64, hf⟩ := op_st hf
                            have hj64 : ∀ (y63 : Int32) (H : Heap) (locs : List Loc) (ls : Array Slot), lv_has ls 10 [(7, .int q49.2), (5, .int q34.2), (0, .ref a_1)] → (TW Γ a_1 q14.2.2 (nC Γ qn I :: X)) H → va_S (zA Γ) s.heap H locs → j64 y63 = some r50 → W p l e (headSpec wsL_ends rmL_ends).room s m args below meth c H locs (cv55 + 1) (sv56 + 6) (MQ below (GQ Γ (TW Γ a_1 y.2 (nC Γ qn I :: X)) (some (.int y.1))) args s 104371 626226 (zA Γ)) (F0 m 443 ls [.int y63]) := by
                              intro y63 H locs ls hl hW hS hf
                              rw [ej64] at hf
                              obtain ⟨x65, ex65, hf⟩ := op_st hf
                              refine z_ist (lv' := [(6, .int x65), (7, .int q49.2), (5, .int q34.2), (0, .ref a_1)]) ex65 hx hb dL_ends_443 hl (by decide) rfl (fun ls hl => ?_)
                              obtain ⟨x66, ex66, hf⟩ := op_st hf
                              refine lv_iinc (v := x66) (lv' := [(7, .int x66), (6, .int x65), (5, .int q34.2), (0, .ref a_1)]) hx hb dL_ends_445 hl (k := 1) rfl (by rw [ex66]; rfl) (by decide) rfl (fun ls hl => ?_)
                              refine lv_goto (tgt := 413) hx hb dL_ends_448 (by decide) ?_
                              have hf := zr_l hf hr53
                              refine W.widen (k := cv55 + 1) (n := sv56 + 6) (by omega) (by omega) ?_
                              exact ih52 (x65, x66) H locs ls (cv55 + 1) (sv56 + 6) (by omega) (by omega) (lv_sub hl [0, 1, 2, 3] rfl) hW hS hf
                            refine lv_if_ge (tgt := 442) hx hb dL_ends_435 (by decide) (fun k435 => ?_) (fun k435 => ?_)
                            · have hf := (op_if hf).1 k435
                              refine lv_iconst (v := (0)) hx hb dL_ends_442 (by decide) ?_
                              refine W.widen (k := (cv55 + 1)) (n := (sv56 + 6)) (by omega) (by omega) ?_
                              exact hj64 (0 : Int32) H locs ls (lv_sub hl [0, 2, 3] rfl) hW hS hf
                            have hf := (op_if hf).2 k435
                            refine lv_iconst (v := (1)) hx hb dL_ends_438 (by decide) ?_
                            refine lv_goto (tgt := 443) hx hb dL_ends_439 (by decide) ?_
                            refine W.widen (k := (cv55 + 1)) (n := (sv56 + 6)) (by omega) (by omega) ?_
                            exact hj64 (1 : Int32) H locs ls (lv_sub hl [0, 2, 3] rfl) hW hS hf
                        rw [eq490] at hf
                        refine W.widen (k := (cv40 + 1)) (n := (sv41 + 6)) (by omega) (by omega) ?_
                        exact hw51 2522 (x47, x48) H locs ls (cv40 + 1) (sv41 + 6) (lb2 (by decide)) (lb2 (by decide)) (lv_sub hl [0, 1, 2, 4] rfl) hW hS hf
                    rw [eq340] at hf
                    refine W.widen (k := 842) (n := 5052) (by omega) (by omega) ?_
                    exact hw36 41 (q24.1, x33) H locs ls 842 5052 (by decide) (by decide) (lv_sub hl [0, 1, 2] rfl) hW hS hf
                  refine lv_icmp_ge (tgt := 384) hx hb dL_ends_302 (by decide) (fun k302 => ?_) (fun k302 => ?_)
                  · have hf := (op_if hf).1 k302
                    refine W.widen (k := 842) (n := 5052) (by omega) (by omega) ?_
                    refine W.widen (k := 842) (n := 5052) (by omega) (by omega) ?_
                    exact hj32 () H locs ls (lv_sub hl [1, 2] rfl) hW hS hf
                  have hf := (op_if hf).2 k302
                  refine lv_iload_n hx hb dL_ends_305 rfl (lv_at hl 1 rfl) ?_
                  refine lv_if_eq (tgt := 384) hx hb dL_ends_306 (by decide) (fun k306 => ?_) (fun k306 => ?_)
                  · have hf := (op_if hf).1 k306
                    refine W.widen (k := 842) (n := 5052) (by omega) (by omega) ?_
                    refine W.widen (k := 842) (n := 5052) (by omega) (by omega) ?_
                    exact hj32 () H locs ls (lv_sub hl [1, 2] rfl) hW hS hf
                  have hf := (op_if hf).2 k306
                  refine lv_aload_n hx hb dL_ends_309 rfl (lv_at hl 2 rfl) ?_
                  refine lv_iload hx hb dL_ends_310 (lv_at hl 0 rfl) ?_
                  refine g_callW (As := [.ref a_1, .int q24.2]) (rest := []) ⟨hx, hb, hml, hown, hts⟩ (aL_box l hl0 Γ a_1 q14.2.2 (nC Γ qn I :: X) q24.2) (vx_cwSW 2 hts gL_ends_L_box rfl rfl rfl (by decide +kernel) ⟨Nat.le_of_ble_eq_true rfl, Nat.le_of_ble_eq_true rfl⟩) hKK hKX hKY hKN hW hS rfl hl.1 rfl (Nat.le_of_ble_eq_true rfl) dL_ends_312 ⟨(by show _ + _ ≤ 104371; omega), (by show _ + _ ≤ 626226; omega)⟩ (fun H locs hW hS => ?_)
                  refine lv_bipush (v := (20)) hx hb dL_ends_315 (by decide) ?_
                  obtain ⟨j68, ej68, hf⟩ := op_st hf
                  have hj68 : ∀ (y67 : Int32) (H : Heap) (locs : List Loc) (ls : Array Slot), lv_has ls 10 [(5, .int q24.2), (0, .ref a_1), (1, .ref qn)] → (TW Γ a_1 q14.2.2 (nC Γ qn I :: X)) H → va_S (zA Γ) s.heap H locs → j68 y67 = some r25 → W p l e (headSpec wsL_ends rmL_ends).room s m args below meth c H locs (cv30 + 1) (sv31 + 6) (MQ below (GQ Γ (TW Γ a_1 y.2 (nC Γ qn I :: X)) (some (.int y.1))) args s 104371 626226 (zA Γ)) (F0 m 325 ls [.int y67]) := by
                    intro y67 H locs ls hl hW hS hf
                    rw [ej68] at hf
                    obtain ⟨x69, ex69, hf⟩ := op_st hf
                    refine z_istn (lv' := [(3, .int x69), (5, .int q24.2), (0, .ref a_1), (1, .ref qn)]) ex69 hx hb dL_ends_325 rfl hl (by decide) rfl (fun ls hl => ?_)
                    refine lv_iconst (v := (0)) hx hb dL_ends_326 (by decide) ?_
                    obtain ⟨x70, ex70, hf⟩ := op_st hf
                    refine z_ist (lv' := [(6, .int x70), (3, .int x69), (5, .int q24.2), (0, .ref a_1), (1, .ref qn)]) ex70 hx hb dL_ends_327 hl (by decide) rfl (fun ls hl => ?_)
                    obtain ⟨w73, q710, ew73, eq710, hf⟩ := op_lb hf
                    have hw73 : ∀ n76 : Nat, ∀ (q71 : (Int32 × Int32)) (H : Heap) (locs : List Loc) (ls : Array Slot) (cv77 sv78 : Nat), cv77 + n76 * 2 ≤ (cv30 + 19) → sv78 + n76 * 12 ≤ (sv31 + 114) → lv_has ls 10 [(6, .int q71.2), (3, .int q71.1), (5, .int q24.2), (0, .ref a_1), (1, .ref qn)] → (TW Γ a_1 q14.2.2 (nC Γ qn I :: X)) H → va_S (zA Γ) s.heap H locs → lp w73 n76 q71 = some r25 → W p l e (headSpec wsL_ends rmL_ends).room s m args below meth c H locs cv77 sv78 (MQ below (GQ Γ (TW Γ a_1 y.2 (nC Γ qn I :: X)) (some (.int y.1))) args s 104371 626226 (zA Γ)) (F0 m 329 ls []) := by
                      intro n76
                      induction n76 with
                      | zero => intro q71 H locs ls cv77 sv78 hcv hsv hl hW hS hf; cases hf
                      | succ n76 ih74 =>
                        intro q71 H locs ls cv77 sv78 hcvcv77 hsvsv78 hl hW hS hf
                        obtain ⟨n_, r72, hn_, hf, hr75⟩ := op_lq hf
                        cases hn_
                        rw [ew73] at hf
                        refine lv_iload hx hb dL_ends_329 (lv_at hl 0 rfl) ?_
                        refine lv_aload_n hx hb dL_ends_331 rfl (lv_at hl 4 rfl) ?_
                        refine lv_iload hx hb dL_ends_332 (lv_at hl 2 rfl) ?_
                        obtain ⟨h334, hf⟩ := op_gd hf
                        refine va_iald hx hb hKK.1 (tw_n hW) 0 0 (n := 14) rfl rfl h334 dL_ends_334 ?_
                        obtain ⟨j79, ej79, hf⟩ := op_st hf
                        have hj79 : ∀ (u_ : Unit) (H : Heap) (locs : List Loc) (ls : Array Slot), lv_has ls 10 [(3, .int q71.1), (5, .int q24.2), (0, .ref a_1), (1, .ref qn)] → (TW Γ a_1 q14.2.2 (nC Γ qn I :: X)) H → va_S (zA Γ) s.heap H locs → j79 () = some r72 → W p l e (headSpec wsL_ends rmL_ends).room s m args below meth c H locs (cv30 + 19) (sv31 + 114) (MQ below (GQ Γ (TW Γ a_1 y.2 (nC Γ qn I :: X)) (some (.int y.1))) args s 104371 626226 (zA Γ)) (F0 m 378 ls []) := by
                          intro u_ H locs ls hl hW hS hf
                          rw [ej79] at hf
                          obtain ⟨x80, ex80, hf⟩ := op_st hf
                          refine lv_iinc (v := x80) (lv' := [(5, .int x80), (3, .int q71.1), (0, .ref a_1), (1, .ref qn)]) hx hb dL_ends_378 hl (k := 1) rfl (by rw [ex80]; rfl) (by decide) rfl (fun ls hl => ?_)
                          refine lv_goto (tgt := 296) hx hb dL_ends_381 (by decide) ?_
                          have hf := congrArg some (zr_r hf hr75)
                          have hf := zr_l hf hr28
                          refine W.widen (k := cv30 + 19) (n := sv31 + 114) (by omega) (by omega) ?_
                          exact ih27 (q71.1, x80) H locs ls (cv30 + 19) (sv31 + 114) (by omega) (by omega) (lv_sub hl [0, 1, 2, 3] rfl) hW hS hf
                        refine lv_icmp_ge (tgt := 378) hx hb dL_ends_335 (by decide) (fun k335 => ?_) (fun k335 => ?_)
                        · have hf := (op_if hf).1 k335
                          refine W.widen (k := (cv30 + 19)) (n := (sv31 + 114)) (by omega) (by omega) ?_
                          refine W.widen (k := (cv30 + 19)) (n := (sv31 + 114)) (by omega) (by omega) ?_
                          exact hj79 () H locs ls (lv_sub hl [1, 2, 3, 4] rfl) hW hS hf
                        have hf := (op_if hf).2 k335
                        refine lv_iload_n hx hb dL_ends_338 rfl (lv_at hl 1 rfl) ?_
                        refine lv_if_eq (tgt := 378) hx hb dL_ends_339 (by decide) (fun k339 => ?_) (fun k339 => ?_)
                        · have hf := (op_if hf).1 k339
                          refine W.widen (k := (cv30 + 19)) (n := (sv31 + 114)) (by omega) (by omega) ?_
                          refine W.widen (k := (cv30 + 19)) (n := (sv31 + 114)) (by omega) (by omega) ?_
                          exact hj79 () H locs ls (lv_sub hl [1, 2, 3, 4] rfl) hW hS hf
                        have hf := (op_if hf).2 k339
                        refine lv_aload_n hx hb dL_ends_342 rfl (lv_at hl 3 rfl) ?_
                        refine lv_iload hx hb dL_ends_343 (lv_at hl 2 rfl) ?_
                        refine lv_iload hx hb dL_ends_345 (lv_at hl 0 rfl) ?_
                        refine g_callW (As := [.ref a_1, .int q24.2, .int q71.2]) (rest := []) ⟨hx, hb, hml, hown, hts⟩ (aL_sticks l hl0 Γ a_1 q14.2.2 (nC Γ qn I :: X) q24.2 q71.2) (vx_cwSW 3 hts gL_ends_L_sticks rfl rfl rfl (by decide +kernel) ⟨Nat.le_of_ble_eq_true rfl, Nat.le_of_ble_eq_true rfl⟩) hKK hKX hKY hKN hW hS rfl hl.1 rfl (Nat.le_of_ble_eq_true rfl) dL_ends_347 ⟨(by show _ + _ ≤ 104371; omega), (by show _ + _ ≤ 626226; omega)⟩ (fun H locs hW hS => ?_)
                        obtain ⟨j82, ej82, hf⟩ := op_st hf
                        have hj82 : ∀ (y81 : Int32) (H : Heap) (locs : List Loc) (ls : Array Slot), lv_has ls 10 [(6, .int q71.2), (5, .int q24.2), (0, .ref a_1), (1, .ref qn)] → (TW Γ a_1 q14.2.2 (nC Γ qn I :: X)) H → va_S (zA Γ) s.heap H locs → j82 y81 = some r72 → W p l e (headSpec wsL_ends rmL_ends).room s m args below meth c H locs (cv77 + 2) (sv78 + 12) (MQ below (GQ Γ (TW Γ a_1 y.2 (nC Γ qn I :: X)) (some (.int y.1))) args s 104371 626226 (zA Γ)) (F0 m 371 ls [.int y81]) := by
                          intro y81 H locs ls hl hW hS hf
                          rw [ej82] at hf
                          obtain ⟨x83, ex83, hf⟩ := op_st hf
                          refine z_istn (lv' := [(3, .int x83), (6, .int q71.2), (5, .int q24.2), (0, .ref a_1), (1, .ref qn)]) ex83 hx hb dL_ends_371 rfl hl (by decide) rfl (fun ls hl => ?_)
                          obtain ⟨x84, ex84, hf⟩ := op_st hf
                          refine lv_iinc (v := x84) (lv' := [(6, .int x84), (3, .int x83), (5, .int q24.2), (0, .ref a_1), (1, .ref qn)]) hx hb dL_ends_372 hl (k := 1) rfl (by rw [ex84]; rfl) (by decide) rfl (fun ls hl => ?_)
                          refine lv_goto (tgt := 329) hx hb dL_ends_375 (by decide) ?_
                          have hf := zr_l hf hr75
                          refine W.widen (k := cv77 + 2) (n := sv78 + 12) (by omega) (by omega) ?_
                          exact ih74 (x83, x84) H locs ls (cv77 + 2) (sv78 + 12) (by omega) (by omega) (lv_sub hl [0, 1, 2, 3, 4] rfl) hW hS hf
                        obtain ⟨j85, ej85, hf⟩ := op_st hf
                        have hj85 : ∀ (u_ : Unit) (H : Heap) (locs : List Loc) (ls : Array Slot), lv_has ls 10 [(6, .int q71.2), (5, .int q24.2), (0, .ref a_1), (1, .ref qn)] → (TW Γ a_1 q14.2.2 (nC Γ qn I :: X)) H → va_S (zA Γ) s.heap H locs → j85 () = some r72 → W p l e (headSpec wsL_ends rmL_ends).room s m args below meth c H locs (cv77 + 2) (sv78 + 12) (MQ below (GQ Γ (TW Γ a_1 y.2 (nC Γ qn I :: X)) (some (.int y.1))) args s 104371 626226 (zA Γ)) (F0 m 370 ls []) := by
                          intro u_ H locs ls hl hW hS hf
                          rw [ej85] at hf
                          refine lv_iconst (v := (0)) hx hb dL_ends_370 (by decide) ?_
                          refine W.widen (k := (cv77 + 2)) (n := (sv78 + 12)) (by omega) (by omega) ?_
                          exact hj82 (0 : Int32) H locs ls (lv_sub hl [0, 1, 2, 3] rfl) hW hS hf
                        refine lv_if_ne (tgt := 370) hx hb dL_ends_350 (by decide) (fun k350 => ?_) (fun k350 => ?_)
                        · have hf := (op_if hf).2 k350
                          refine W.widen (k := (cv77 + 2)) (n := (sv78 + 12)) (by omega) (by omega) ?_
                          exact hj85 () H locs ls (lv_sub hl [0, 2, 3, 4] rfl) hW hS hf
                        have hf := (op_if hf).1 k350
                        refine lv_aload_n hx hb dL_ends_353 rfl (lv_at hl 3 rfl) ?_
                        refine lv_iload hx hb dL_ends_354 (lv_at hl 2 rfl) ?_
                        refine lv_iload hx hb dL_ends_356 (lv_at hl 0 rfl) ?_
                        refine g_callW (As := [.ref a_1, .int q24.2, .int q71.2]) (rest := []) ⟨hx, hb, hml, hown, hts⟩ (aL_wear l hl0 Γ a_1 q14.2.2 (nC Γ qn I :: X) q24.2 q71.2) (vx_cwSW 3 hts gL_ends_L_wear rfl rfl rfl (by decide +kernel) ⟨Nat.le_of_ble_eq_true rfl, Nat.le_of_ble_eq_true rfl⟩) hKK hKX hKY hKN hW hS rfl hl.1 rfl (Nat.le_of_ble_eq_true rfl) dL_ends_358 ⟨(by show _ + _ ≤ 104371; omega), (by show _ + _ ≤ 626226; omega)⟩ (fun H locs hW hS => ?_)
                        refine lv_bipush (v := (40)) hx hb dL_ends_361 (by decide) ?_
                        refine lv_icmp_ge (tgt := 370) hx hb dL_ends_363 (by decide) (fun k363 => ?_) (fun k363 => ?_)
                        · have hf := (op_if hf).1 k363
                          refine W.widen (k := (cv77 + 2)) (n := (sv78 + 12)) (by omega) (by omega) ?_
                          exact hj85 () H locs ls (lv_sub hl [0, 2, 3, 4] rfl) hW hS hf
                        have hf := (op_if hf).2 k363
                        refine lv_iconst (v := (1)) hx hb dL_ends_366 (by decide) ?_
                        refine lv_goto (tgt := 371) hx hb dL_ends_367 (by decide) ?_
                        refine W.widen (k := (cv77 + 2)) (n := (sv78 + 12)) (by omega) (by omega) ?_
                        exact hj82 (1 : Int32) H locs ls (lv_sub hl [0, 2, 3, 4] rfl) hW hS hf
                    rw [eq710] at hf
                    refine W.widen (k := (cv30 + 1)) (n := (sv31 + 6)) (by omega) (by omega) ?_
                    exact hw73 9 (x69, x70) H locs ls (cv30 + 1) (sv31 + 6) (lb2 (by decide)) (lb2 (by decide)) (lv_sub hl [0, 1, 2, 3, 4] rfl) hW hS hf
                  refine lv_icmp_ge (tgt := 324) hx hb dL_ends_317 (by decide) (fun k317 => ?_) (fun k317 => ?_)
                  · have hf := (op_if hf).1 k317
                    refine lv_iconst (v := (0)) hx hb dL_ends_324 (by decide) ?_
                    refine W.widen (k := (cv30 + 1)) (n := (sv31 + 6)) (by omega) (by omega) ?_
                    exact hj68 (0 : Int32) H locs ls (lv_sub hl [0, 2, 3] rfl) hW hS hf
                  have hf := (op_if hf).2 k317
                  refine lv_iconst (v := (1)) hx hb dL_ends_320 (by decide) ?_
                  refine lv_goto (tgt := 325) hx hb dL_ends_321 (by decide) ?_
                  refine W.widen (k := (cv30 + 1)) (n := (sv31 + 6)) (by omega) (by omega) ?_
                  exact hj68 (1 : Int32) H locs ls (lv_sub hl [0, 2, 3] rfl) hW hS hf
              rw [eq240] at hf
              refine W.widen (k := 709) (n := 4254) (by omega) (by omega) ?_
              exact hw26 7 (q14.1, x23) H locs ls 709 4254 (by decide) (by decide) (lv_sub hl [0, 1, 2, 3] rfl) hW hS hf
            refine lv_icmp_ge (tgt := 293) hx hb dL_ends_151 (by decide) (fun k151 => ?_) (fun k151 => ?_)
            · have hf := (op_if hf).1 k151
              refine W.widen (k := 709) (n := 4254) (by omega) (by omega) ?_
              refine W.widen (k := 709) (n := 4254) (by omega) (by omega) ?_
              exact hj22 () H locs ls (lv_sub hl [1, 2, 3] rfl) hW hS hf
            have hf := (op_if hf).2 k151
            refine lv_iload_n hx hb dL_ends_154 rfl (lv_at hl 1 rfl) ?_
            refine lv_if_eq (tgt := 293) hx hb dL_ends_155 (by decide) (fun k155 => ?_) (fun k155 => ?_)
            · have hf := (op_if hf).1 k155
              refine W.widen (k := 709) (n := 4254) (by omega) (by omega) ?_
              refine W.widen (k := 709) (n := 4254) (by omega) (by omega) ?_
              exact hj22 () H locs ls (lv_sub hl [1, 2, 3] rfl) hW hS hf
            have hf := (op_if hf).2 k155
            refine lv_aload_n hx hb dL_ends_158 rfl (lv_at hl 2 rfl) ?_
            refine lv_iconst (v := (0)) hx hb dL_ends_159 (by decide) ?_
            refine g_callW (As := [.ref a_1, .int (0 : Int32)]) (rest := []) ⟨hx, hb, hml, hown, hts⟩ (aL_way l hl0 Γ a_1 q14.2.2 (nC Γ qn I :: X) (0 : Int32)) (vx_cwSW 2 hts gL_ends_L_way rfl rfl rfl (by decide +kernel) ⟨Nat.le_of_ble_eq_true rfl, Nat.le_of_ble_eq_true rfl⟩) hKK hKX hKY hKN hW hS rfl hl.1 rfl (Nat.le_of_ble_eq_true rfl) dL_ends_160 ⟨(by show _ + _ ≤ 104371; omega), (by show _ + _ ≤ 626226; omega)⟩ (fun H locs hW hS => ?_)
            refine lv_aload_n hx hb dL_ends_163 rfl (lv_at hl 2 rfl) ?_
            refine lv_iconst (v := (0)) hx hb dL_ends_164 (by decide) ?_
            refine lv_iconst (v := (0)) hx hb dL_ends_165 (by decide) ?_
            refine g_callW (As := [.ref a_1, .int (0 : Int32), .int (0 : Int32)]) (rest := [.int (A_way q14.2.2 (0 : Int32))]) ⟨hx, hb, hml, hown, hts⟩ (aL_planned l hl0 Γ a_1 q14.2.2 (nC Γ qn I :: X) (0 : Int32) (0 : Int32)) (vx_cwSW 3 hts gL_ends_L_planned rfl rfl rfl (by decide +kernel) ⟨Nat.le_of_ble_eq_true rfl, Nat.le_of_ble_eq_true rfl⟩) hKK hKX hKY hKN hW hS rfl hl.1 rfl (Nat.le_of_ble_eq_true rfl) dL_ends_166 ⟨(by show _ + _ ≤ 104371; omega), (by show _ + _ ≤ 626226; omega)⟩ (fun H locs hW hS => ?_)
            refine lv_iadd hx hb dL_ends_169 ?_
            refine lv_if_lt (tgt := 293) hx hb dL_ends_170 (by decide) (fun k170 => ?_) (fun k170 => ?_)
            · have hf := (op_if hf).1 k170
              refine W.widen (k := 709) (n := 4254) (by omega) (by omega) ?_
              refine W.widen (k := 709) (n := 4254) (by omega) (by omega) ?_
              exact hj22 () H locs ls (lv_sub hl [1, 2, 3] rfl) hW hS hf
            have hf := (op_if hf).2 k170
            refine lv_iconst (v := (0)) hx hb dL_ends_173 (by decide) ?_
            obtain ⟨x86, ex86, hf⟩ := op_st hf
            refine z_ist (lv' := [(4, .int x86), (5, .int q14.2.1), (3, .int q14.1), (0, .ref a_1), (1, .ref qn)]) ex86 hx hb dL_ends_174 hl (by decide) rfl (fun ls hl => ?_)
            refine lv_iconst (v := (0)) hx hb dL_ends_176 (by decide) ?_
            obtain ⟨x87, ex87, hf⟩ := op_st hf
            refine z_ist (lv' := [(6, .int x87), (4, .int x86), (5, .int q14.2.1), (3, .int q14.1), (0, .ref a_1), (1, .ref qn)]) ex87 hx hb dL_ends_177 hl (by decide) rfl (fun ls hl => ?_)
            obtain ⟨w90, q880, ew90, eq880, hf⟩ := op_lb hf
            have hw90 : ∀ n93 : Nat, ∀ (q88 : (Int32 × Int32)) (H : Heap) (locs : List Loc) (ls : Array Slot) (cv94 sv95 : Nat), cv94 + n93 * 3 ≤ (cv20 + 26) → sv95 + n93 * 18 ≤ (sv21 + 156) → lv_has ls 10 [(6, .int q88.2), (4, .int q88.1), (5, .int q14.2.1), (3, .int q14.1), (0, .ref a_1), (1, .ref qn)] → (TW Γ a_1 q14.2.2 (nC Γ qn I :: X)) H → va_S (zA Γ) s.heap H locs → lp w90 n93 q88 = some r15 → W p l e (headSpec wsL_ends rmL_ends).room s m args below meth c H locs cv94 sv95 (MQ below (GQ Γ (TW Γ a_1 y.2 (nC Γ qn I :: X)) (some (.int y.1))) args s 104371 626226 (zA Γ)) (F0 m 179 ls []) := by
              intro n93
              induction n93 with
              | zero => intro q88 H locs ls cv94 sv95 hcv hsv hl hW hS hf; cases hf
              | succ n93 ih91 =>
                intro q88 H locs ls cv94 sv95 hcvcv94 hsvsv95 hl hW hS hf
                obtain ⟨n_, r89, hn_, hf, hr92⟩ := op_lq hf
                cases hn_
                rw [ew90] at hf
                refine lv_aload_n hx hb dL_ends_179 rfl (lv_at hl 4 rfl) ?_
                refine lv_iconst (v := (0)) hx hb dL_ends_180 (by decide) ?_
                refine lv_iload hx hb dL_ends_181 (lv_at hl 0 rfl) ?_
                refine g_callW (As := [.ref a_1, .int (0 : Int32), .int q88.2]) (rest := []) ⟨hx, hb, hml, hown, hts⟩ (aL_planned l hl0 Γ a_1 q14.2.2 (nC Γ qn I :: X) (0 : Int32) q88.2) (vx_cwSW 3 hts gL_ends_L_planned rfl rfl rfl (by decide +kernel) ⟨Nat.le_of_ble_eq_true rfl, Nat.le_of_ble_eq_true rfl⟩) hKK hKX hKY hKN hW hS rfl hl.1 rfl (Nat.le_of_ble_eq_true rfl) dL_ends_183 ⟨(by show _ + _ ≤ 104371; omega), (by show _ + _ ≤ 626226; omega)⟩ (fun H locs hW hS => ?_)
                refine lv_if_lt (tgt := 211) hx hb dL_ends_186 (by decide) (fun k186 => ?_) (fun k186 => ?_)
                · have hf := (op_if hf).1 k186
                  refine W.widen (k := (cv20 + 26)) (n := (sv21 + 156)) (by omega) (by omega) ?_
                  refine lv_iconst (v := (0)) hx hb dL_ends_211 (by decide) ?_
                  obtain ⟨x96, ex96, hf⟩ := op_st hf
                  refine z_ist (lv' := [(6, .int x96), (4, .int q88.1), (5, .int q14.2.1), (3, .int q14.1), (0, .ref a_1), (1, .ref qn)]) ex96 hx hb dL_ends_212 hl (by decide) rfl (fun ls hl => ?_)
                  obtain ⟨w99, q970, ew99, eq970, hf⟩ := op_lb hf
                  have hw99 : ∀ n102 : Nat, ∀ (q97 : (Int32 × Int32 × zMs)) (H : Heap) (locs : List Loc) (ls : Array Slot) (cv103 sv104 : Nat), cv103 + n102 * 2 ≤ (cv20 + 32) → sv104 + n102 * 12 ≤ (sv21 + 192) → lv_has ls 10 [(6, .int q97.2.1), (4, .int q88.1), (5, .int q14.2.1), (3, .int q97.1), (0, .ref a_1), (1, .ref qn)] → (TW Γ a_1 q97.2.2 (nC Γ qn I :: X)) H → va_S (zA Γ) s.heap H locs → lp w99 n102 q97 = some r89 → W p l e (headSpec wsL_ends rmL_ends).room s m args below meth c H locs cv103 sv104 (MQ below (GQ Γ (TW Γ a_1 y.2 (nC Γ qn I :: X)) (some (.int y.1))) args s 104371 626226 (zA Γ)) (F0 m 214 ls []) := by
                    intro n102
                    induction n102 with
                    | zero => intro q97 H locs ls cv103 sv104 hcv hsv hl hW hS hf; cases hf
                    | succ n102 ih100 =>
                      intro q97 H locs ls cv103 sv104 hcvcv103 hsvsv104 hl hW hS hf
                      obtain ⟨n_, r98, hn_, hf, hr101⟩ := op_lq hf
                      cases hn_
                      rw [ew99] at hf
                      refine lv_iload hx hb dL_ends_214 (lv_at hl 0 rfl) ?_
                      refine lv_iconst (v := (2)) hx hb dL_ends_216 (by decide) ?_
                      obtain ⟨j105, ej105, hf⟩ := op_st hf
                      have hj105 : ∀ (u_ : Unit) (H : Heap) (locs : List Loc) (ls : Array Slot), lv_has ls 10 [(4, .int q88.1), (5, .int q14.2.1), (3, .int q97.1), (0, .ref a_1), (1, .ref qn)] → (TW Γ a_1 q97.2.2 (nC Γ qn I :: X)) H → va_S (zA Γ) s.heap H locs → j105 () = some r98 → W p l e (headSpec wsL_ends rmL_ends).room s m args below meth c H locs (cv20 + 32) (sv21 + 192) (MQ below (GQ Γ (TW Γ a_1 y.2 (nC Γ qn I :: X)) (some (.int y.1))) args s 104371 626226 (zA Γ)) (F0 m 267 ls []) := by
                        intro u_ H locs ls hl hW hS hf
                        rw [ej105] at hf
                        refine lv_iload_n hx hb dL_ends_267 rfl (lv_at hl 2 rfl) ?_
                        obtain ⟨j108, ej108, hf⟩ := op_st hf
                        have hj108 : ∀ (y106 : Int32) (M107 : zMs) (H : Heap) (locs : List Loc) (ls : Array Slot), lv_has ls 10 [(5, .int q14.2.1), (0, .ref a_1), (1, .ref qn)] → (TW Γ a_1 M107 (nC Γ qn I :: X)) H → va_S (zA Γ) s.heap H locs → j108 y106 M107 = some r98 → W p l e (headSpec wsL_ends rmL_ends).room s m args below meth c H locs (cv20 + 33) (sv21 + 198) (MQ below (GQ Γ (TW Γ a_1 y.2 (nC Γ qn I :: X)) (some (.int y.1))) args s 104371 626226 (zA Γ)) (F0 m 286 ls [.int y106]) := by
                          intro y106 M107 H locs ls hl hW hS hf
                          rw [ej108] at hf
                          obtain ⟨x109, ex109, hf⟩ := op_st hf
                          refine z_istn (lv' := [(3, .int x109), (5, .int q14.2.1), (0, .ref a_1), (1, .ref qn)]) ex109 hx hb dL_ends_286 rfl hl (by decide) rfl (fun ls hl => ?_)
                          obtain ⟨x110, ex110, hf⟩ := op_st hf
                          refine lv_iinc (v := x110) (lv' := [(5, .int x110), (3, .int x109), (0, .ref a_1), (1, .ref qn)]) hx hb dL_ends_287 hl (k := 1) rfl (by rw [ex110]; rfl) (by decide) rfl (fun ls hl => ?_)
                          refine lv_goto (tgt := 147) hx hb dL_ends_290 (by decide) ?_
                          have hf := congrArg some (zr_r hf hr101)
                          have hf := congrArg some (zr_r hf hr92)
                          have hf := zr_l hf hr18
                          refine W.widen (k := cv20 + 33) (n := sv21 + 198) (by omega) (by omega) ?_
                          exact ih17 (x109, x110, M107) H locs ls (cv20 + 33) (sv21 + 198) (by omega) (by omega) (lv_sub hl [0, 1, 2, 3] rfl) hW hS hf
                        obtain ⟨j112, ej112, hf⟩ := op_st hf
                        have hj112 : ∀ (M111 : zMs) (H : Heap) (locs : List Loc) (ls : Array Slot), lv_has ls 10 [(5, .int q14.2.1), (0, .ref a_1), (1, .ref qn)] → (TW Γ a_1 M111 (nC Γ qn I :: X)) H → va_S (zA Γ) s.heap H locs → j112 M111 = some r98 → W p l e (headSpec wsL_ends rmL_ends).room s m args below meth c H locs (cv20 + 33) (sv21 + 198) (MQ below (GQ Γ (TW Γ a_1 y.2 (nC Γ qn I :: X)) (some (.int y.1))) args s 104371 626226 (zA Γ)) (F0 m 285 ls []) := by
                          intro M111 H locs ls hl hW hS hf
                          rw [ej112] at hf
                          refine lv_iconst (v := (0)) hx hb dL_ends_285 (by decide) ?_
                          refine W.widen (k := (cv20 + 33)) (n := (sv21 + 198)) (by omega) (by omega) ?_
                          exact hj108 (0 : Int32) M111 H locs ls (lv_sub hl [0, 1, 2] rfl) hW hS hf
                        refine lv_if_eq (tgt := 285) hx hb dL_ends_268 (by decide) (fun k268 => ?_) (fun k268 => ?_)
                        · have hf := (op_if hf).1 k268
                          refine W.widen (k := (cv20 + 33)) (n := (sv21 + 198)) (by omega) (by omega) ?_
                          exact hj112 q97.2.2 H locs ls (lv_sub hl [1, 3, 4] rfl) hW hS hf
                        have hf := (op_if hf).2 k268
                        refine lv_aload_n hx hb dL_ends_271 rfl (lv_at hl 3 rfl) ?_
                        refine lv_iconst (v := (0)) hx hb dL_ends_272 (by decide) ?_
                        obtain ⟨M113, eM113, hf⟩ := op_st hf
                        refine g_callW (As := [.ref a_1, .int (0 : Int32)]) (rest := []) ⟨hx, hb, hml, hown, hts⟩ (aL_go l hl0 Γ a_1 q97.2.2 (nC Γ qn I :: X) (0 : Int32)) (vx_cwSW 2 hts gL_ends_L_go rfl rfl rfl (by decide +kernel) ⟨Nat.le_of_ble_eq_true rfl, Nat.le_of_ble_eq_true rfl⟩) hKK hKX hKY hKN hW hS rfl hl.1 rfl (Nat.le_of_ble_eq_true rfl) dL_ends_273 ⟨(by show _ + _ ≤ 104371; omega), (by show _ + _ ≤ 626226; omega)⟩ (fun H locs hW hS => ?_)
                        rw [← eM113] at hW
                        refine lv_iload hx hb dL_ends_276 (lv_at hl 0 rfl) ?_
                        refine lv_icmp_ne (tgt := 285) hx hb dL_ends_278 (by decide) (fun k278 => ?_) (fun k278 => ?_)
                        · have hf := (op_if hf).2 k278
                          refine W.widen (k := (cv20 + 33)) (n := (sv21 + 198)) (by omega) (by omega) ?_
                          exact hj112 M113 H locs ls (lv_sub hl [1, 3, 4] rfl) hW hS hf
                        have hf := (op_if hf).1 k278
                        refine lv_iconst (v := (1)) hx hb dL_ends_281 (by decide) ?_
                        refine lv_goto (tgt := 286) hx hb dL_ends_282 (by decide) ?_
                        refine W.widen (k := (cv20 + 33)) (n := (sv21 + 198)) (by omega) (by omega) ?_
                        exact hj108 (1 : Int32) M113 H locs ls (lv_sub hl [1, 3, 4] rfl) hW hS hf
                      refine lv_icmp_ge (tgt := 267) hx hb dL_ends_217 (by decide) (fun k217 => ?_) (fun k217 => ?_)
                      · have hf := (op_if hf).1 k217
                        refine W.widen (k := (cv20 + 32)) (n := (sv21 + 192)) (by omega) (by omega) ?_
                        refine W.widen (k := (cv20 + 32)) (n := (sv21 + 192)) (by omega) (by omega) ?_
                        exact hj105 () H locs ls (lv_sub hl [1, 2, 3, 4, 5] rfl) hW hS hf
                      have hf := (op_if hf).2 k217
                      refine lv_iload_n hx hb dL_ends_220 rfl (lv_at hl 3 rfl) ?_
                      refine lv_if_eq (tgt := 267) hx hb dL_ends_221 (by decide) (fun k221 => ?_) (fun k221 => ?_)
                      · have hf := (op_if hf).1 k221
                        refine W.widen (k := (cv20 + 32)) (n := (sv21 + 192)) (by omega) (by omega) ?_
                        refine W.widen (k := (cv20 + 32)) (n := (sv21 + 192)) (by omega) (by omega) ?_
                        exact hj105 () H locs ls (lv_sub hl [1, 2, 3, 4, 5] rfl) hW hS hf
                      have hf := (op_if hf).2 k221
                      refine lv_bipush (v := (20)) hx hb dL_ends_224 (by decide) ?_
                      refine lv_aload_n hx hb dL_ends_226 rfl (lv_at hl 4 rfl) ?_
                      refine lv_iconst (v := (0)) hx hb dL_ends_227 (by decide) ?_
                      refine lv_iload hx hb dL_ends_228 (lv_at hl 0 rfl) ?_
                      refine g_callW (As := [.ref a_1, .int (0 : Int32), .int q97.2.1]) (rest := [.int (20 : Int32)]) ⟨hx, hb, hml, hown, hts⟩ (aL_parts l hl0 Γ a_1 q97.2.2 (nC Γ qn I :: X) (0 : Int32) q97.2.1) (vx_cwSW 3 hts gL_ends_L_parts rfl rfl rfl (by decide +kernel) ⟨Nat.le_of_ble_eq_true rfl, Nat.le_of_ble_eq_true rfl⟩) hKK hKX hKY hKN hW hS rfl hl.1 rfl (Nat.le_of_ble_eq_true rfl) dL_ends_230 ⟨(by show _ + _ ≤ 104371; omega), (by show _ + _ ≤ 626226; omega)⟩ (fun H locs hW hS => ?_)
                      refine lv_isub hx hb dL_ends_233 ?_
                      obtain ⟨x114, ex114, hf⟩ := op_st hf
                      refine z_ist (lv' := [(7, .int x114), (6, .int q97.2.1), (4, .int q88.1), (5, .int q14.2.1), (3, .int q97.1), (0, .ref a_1), (1, .ref qn)]) ex114 hx hb dL_ends_234 hl (by decide) rfl (fun ls hl => ?_)
                      refine lv_iload hx hb dL_ends_236 (lv_at hl 0 rfl) ?_
                      obtain ⟨j117, ej117, hf⟩ := op_st hf
                      have hj117 : ∀ (y115 : Int32) (M116 : zMs) (H : Heap) (locs : List Loc) (ls : Array Slot), lv_has ls 10 [(6, .int q97.2.1), (4, .int q88.1), (5, .int q14.2.1), (0, .ref a_1), (1, .ref qn)] → (TW Γ a_1 M116 (nC Γ qn I :: X)) H → va_S (zA Γ) s.heap H locs → j117 y115 M116 = some r98 → W p l e (headSpec wsL_ends rmL_ends).room s m args below meth c H locs (cv103 + 2) (sv104 + 12) (MQ below (GQ Γ (TW Γ a_1 y.2 (nC Γ qn I :: X)) (some (.int y.1))) args s 104371 626226 (zA Γ)) (F0 m 260 ls [.int y115]) := by
                        intro y115 M116 H locs ls hl hW hS hf
                        rw [ej117] at hf
                        obtain ⟨x118, ex118, hf⟩ := op_st hf
                        refine z_istn (lv' := [(3, .int x118), (6, .int q97.2.1), (4, .int q88.1), (5, .int q14.2.1), (0, .ref a_1), (1, .ref qn)]) ex118 hx hb dL_ends_260 rfl hl (by decide) rfl (fun ls hl => ?_)
                        obtain ⟨x119, ex119, hf⟩ := op_st hf
                        refine lv_iinc (v := x119) (lv' := [(6, .int x119), (3, .int x118), (4, .int q88.1), (5, .int q14.2.1), (0, .ref a_1), (1, .ref qn)]) hx hb dL_ends_261 hl (k := 1) rfl (by rw [ex119]; rfl) (by decide) rfl (fun ls hl => ?_)
                        refine lv_goto (tgt := 214) hx hb dL_ends_264 (by decide) ?_
                        have hf := zr_l hf hr101
                        refine W.widen (k := cv103 + 2) (n := sv104 + 12) (by omega) (by omega) ?_
                        exact ih100 (x118, x119, M116) H locs ls (cv103 + 2) (sv104 + 12) (by omega) (by omega) (lv_sub hl [0, 2, 3, 1, 4, 5] rfl) hW hS hf
                      obtain ⟨j121, ej121, hf⟩ := op_st hf
                      have hj121 : ∀ (M120 : zMs) (H : Heap) (locs : List Loc) (ls : Array Slot), lv_has ls 10 [(6, .int q97.2.1), (4, .int q88.1), (5, .int q14.2.1), (0, .ref a_1), (1, .ref qn)] → (TW Γ a_1 M120 (nC Γ qn I :: X)) H → va_S (zA Γ) s.heap H locs → j121 M120 = some r98 → W p l e (headSpec wsL_ends rmL_ends).room s m args below meth c H locs (cv103 + 2) (sv104 + 12) (MQ below (GQ Γ (TW Γ a_1 y.2 (nC Γ qn I :: X)) (some (.int y.1))) args s 104371 626226 (zA Γ)) (F0 m 255 ls []) := by
                        intro M120 H locs ls hl hW hS hf
                        rw [ej121] at hf
                        refine lv_iconst (v := (1)) hx hb dL_ends_255 (by decide) ?_
                        refine lv_goto (tgt := 260) hx hb dL_ends_256 (by decide) ?_
                        refine W.widen (k := (cv103 + 2)) (n := (sv104 + 12)) (by omega) (by omega) ?_
                        exact hj117 (1 : Int32) M120 H locs ls (lv_sub hl [0, 1, 2, 3, 4] rfl) hW hS hf
                      refine lv_if_eq (tgt := 255) hx hb dL_ends_238 (by decide) (fun k238 => ?_) (fun k238 => ?_)
                      · have hf := (op_if hf).1 k238
                        refine W.widen (k := (cv103 + 2)) (n := (sv104 + 12)) (by omega) (by omega) ?_
                        exact hj121 q97.2.2 H locs ls (lv_sub hl [1, 2, 3, 5, 6] rfl) hW hS hf
                      have hf := (op_if hf).2 k238
                      refine lv_aload_n hx hb dL_ends_241 rfl (lv_at hl 5 rfl) ?_
                      refine lv_iconst (v := (0)) hx hb dL_ends_242 (by decide) ?_
                      refine lv_iload hx hb dL_ends_243 (lv_at hl 1 rfl) ?_
                      refine lv_iload hx hb dL_ends_245 (lv_at hl 0 rfl) ?_
                      obtain ⟨M122, eM122, hf⟩ := op_st hf
                      refine g_callW (As := [.ref a_1, .int (0 : Int32), .int q97.2.1, .int x114]) (rest := []) ⟨hx, hb, hml, hown, hts⟩ (aL_load l hl0 Γ a_1 q97.2.2 (nC Γ qn I :: X) (0 : Int32) q97.2.1 x114) (vx_cwSW 4 hts gL_ends_L_load rfl rfl rfl (by decide +kernel) ⟨Nat.le_of_ble_eq_true rfl, Nat.le_of_ble_eq_true rfl⟩) hKK hKX hKY hKN hW hS rfl hl.1 rfl (Nat.le_of_ble_eq_true rfl) dL_ends_247 ⟨(by show _ + _ ≤ 104371; omega), (by show _ + _ ≤ 626226; omega)⟩ (fun H locs hW hS => ?_)
                      rw [← eM122] at hW
                      refine lv_bipush (v := (20)) hx hb dL_ends_250 (by decide) ?_
                      refine lv_icmp_ne (tgt := 259) hx hb dL_ends_252 (by decide) (fun k252 => ?_) (fun k252 => ?_)
                      · have hf := (op_if hf).2 k252
                        refine lv_iconst (v := (0)) hx hb dL_ends_259 (by decide) ?_
                        refine W.widen (k := (cv103 + 2)) (n := (sv104 + 12)) (by omega) (by omega) ?_
                        exact hj117 (0 : Int32) M122 H locs ls (lv_sub hl [1, 2, 3, 5, 6] rfl) hW hS hf
                      have hf := (op_if hf).1 k252
                      refine W.widen (k := (cv103 + 2)) (n := (sv104 + 12)) (by omega) (by omega) ?_
                      exact hj121 M122 H locs ls (lv_sub hl [1, 2, 3, 5, 6] rfl) hW hS hf
                  rw [eq970] at hf
                  refine W.widen (k := (cv20 + 26)) (n := (sv21 + 156)) (by omega) (by omega) ?_
                  exact hw99 3 (q14.1, x96, q14.2.2) H locs ls (cv20 + 26) (sv21 + 156) (lb2 (by decide)) (lb2 (by decide)) (lv_sub hl [0, 1, 2, 3, 4, 5] rfl) hW hS hf
                have hf := (op_if hf).2 k186
                refine lv_iload hx hb dL_ends_189 (lv_at hl 1 rfl) ?_
                refine lv_aload_n hx hb dL_ends_191 rfl (lv_at hl 4 rfl) ?_
                refine lv_aload_n hx hb dL_ends_192 rfl (lv_at hl 4 rfl) ?_
                refine lv_iconst (v := (0)) hx hb dL_ends_193 (by decide) ?_
                refine lv_iload hx hb dL_ends_194 (lv_at hl 0 rfl) ?_
                refine g_callW (As := [.ref a_1, .int (0 : Int32), .int q88.2]) (rest := [.ref a_1, .int q88.1]) ⟨hx, hb, hml, hown, hts⟩ (aL_planned l hl0 Γ a_1 q14.2.2 (nC Γ qn I :: X) (0 : Int32) q88.2) (vx_cwSW 3 hts gL_ends_L_planned rfl rfl rfl (by decide +kernel) ⟨Nat.le_of_ble_eq_true rfl, Nat.le_of_ble_eq_true rfl⟩) hKK hKX hKY hKN hW hS rfl hl.1 rfl (Nat.le_of_ble_eq_true rfl) dL_ends_196 ⟨(by show _ + _ ≤ 104371; omega), (by show _ + _ ≤ 626226; omega)⟩ (fun H locs hW hS => ?_)
                refine g_callW (As := [.ref a_1, .int (A_planned q14.2.2 (0 : Int32) q88.2)]) (rest := [.int q88.1]) ⟨hx, hb, hml, hown, hts⟩ (aL_box l hl0 Γ a_1 q14.2.2 (nC Γ qn I :: X) (A_planned q14.2.2 (0 : Int32) q88.2)) (vx_cwSW 2 hts gL_ends_L_box rfl rfl rfl (by decide +kernel) ⟨Nat.le_of_ble_eq_true rfl, Nat.le_of_ble_eq_true rfl⟩) hKK hKX hKY hKN hW hS rfl hl.1 rfl (Nat.le_of_ble_eq_true rfl) dL_ends_199 ⟨(by show _ + _ ≤ 104371; omega), (by show _ + _ ≤ 626226; omega)⟩ (fun H locs hW hS => ?_)
                refine lv_iadd hx hb dL_ends_202 ?_
                obtain ⟨x123, ex123, hf⟩ := op_st hf
                refine z_ist (lv' := [(4, .int x123), (6, .int q88.2), (5, .int q14.2.1), (3, .int q14.1), (0, .ref a_1), (1, .ref qn)]) ex123 hx hb dL_ends_203 hl (by decide) rfl (fun ls hl => ?_)
                obtain ⟨x124, ex124, hf⟩ := op_st hf
                refine lv_iinc (v := x124) (lv' := [(6, .int x124), (4, .int x123), (5, .int q14.2.1), (3, .int q14.1), (0, .ref a_1), (1, .ref qn)]) hx hb dL_ends_205 hl (k := 1) rfl (by rw [ex124]; rfl) (by decide) rfl (fun ls hl => ?_)
                refine lv_goto (tgt := 179) hx hb dL_ends_208 (by decide) ?_
                have hf := zr_l hf hr92
                refine W.widen (k := cv94 + 3) (n := sv95 + 18) (by omega) (by omega) ?_
                exact ih91 (x123, x124) H locs ls (cv94 + 3) (sv95 + 18) (by omega) (by omega) (lv_sub hl [0, 1, 2, 3, 4, 5] rfl) hW hS hf
            rw [eq880] at hf
            refine W.widen (k := (cv20 + 2)) (n := (sv21 + 12)) (by omega) (by omega) ?_
            exact hw90 8 (x86, x87) H locs ls (cv20 + 2) (sv21 + 12) (lb2 (by decide)) (lb2 (by decide)) (lv_sub hl [0, 1, 2, 3, 4, 5] rfl) hW hS hf
        rw [eq140] at hf
        refine W.widen (k := 280) (n := 1680) (by omega) (by omega) ?_
        exact hw16 13 (q4.1, x13, q4.2.2) H locs ls 280 1680 (by decide) (by decide) (lv_sub hl [0, 1, 2, 3] rfl) hW hS hf
      refine lv_icmp_ge (tgt := 144) hx hb dL_ends_14 (by decide) (fun k14 => ?_) (fun k14 => ?_)
      · have hf := (op_if hf).1 k14
        refine W.widen (k := 280) (n := 1680) (by omega) (by omega) ?_
        refine W.widen (k := 280) (n := 1680) (by omega) (by omega) ?_
        exact hj12 () H locs ls (lv_sub hl [1, 2, 3] rfl) hW hS hf
      have hf := (op_if hf).2 k14
      refine lv_iload_n hx hb dL_ends_17 rfl (lv_at hl 1 rfl) ?_
      refine lv_if_eq (tgt := 144) hx hb dL_ends_18 (by decide) (fun k18 => ?_) (fun k18 => ?_)
      · have hf := (op_if hf).1 k18
        refine W.widen (k := 280) (n := 1680) (by omega) (by omega) ?_
        refine W.widen (k := 280) (n := 1680) (by omega) (by omega) ?_
        exact hj12 () H locs ls (lv_sub hl [1, 2, 3] rfl) hW hS hf
      have hf := (op_if hf).2 k18
      obtain ⟨w127, q1250, ew127, eq1250, hf⟩ := op_lb hf
      have hw127 : ∀ n130 : Nat, ∀ (q125 : (Int32 × zMs)) (H : Heap) (locs : List Loc) (ls : Array Slot) (cv131 sv132 : Nat), cv131 + n130 * 8 ≤ (cv10 + 40) → sv132 + n130 * 48 ≤ (sv11 + 240) → lv_has ls 10 [(5, .int q4.2.1), (3, .int q125.1), (0, .ref a_1), (1, .ref qn), (2, .int i_3)] → (TW Γ a_1 q125.2 (nC Γ qn I :: X)) H → va_S (zA Γ) s.heap H locs → lp w127 n130 q125 = some r5 → W p l e (headSpec wsL_ends rmL_ends).room s m args below meth c H locs cv131 sv132 (MQ below (GQ Γ (TW Γ a_1 y.2 (nC Γ qn I :: X)) (some (.int y.1))) args s 104371 626226 (zA Γ)) (F0 m 21 ls []) := by
        intro n130
        induction n130 with
        | zero => intro q125 H locs ls cv131 sv132 hcv hsv hl hW hS hf; cases hf
        | succ n130 ih128 =>
          intro q125 H locs ls cv131 sv132 hcvcv131 hsvsv132 hl hW hS hf
          obtain ⟨n_, r126, hn_, hf, hr129⟩ := op_lq hf
          cases hn_
          rw [ew127] at hf
          refine lv_aload_n hx hb dL_ends_21 rfl (lv_at hl 2 rfl) ?_
          refine lv_iload hx hb dL_ends_22 (lv_at hl 0 rfl) ?_
          refine g_callW (As := [.ref a_1, .int q4.2.1]) (rest := []) ⟨hx, hb, hml, hown, hts⟩ (aL_gameAt l hl0 Γ a_1 q125.2 (nC Γ qn I :: X) q4.2.1) (vx_cwSW 2 hts gL_ends_L_gameAt rfl rfl rfl (by decide +kernel) ⟨Nat.le_of_ble_eq_true rfl, Nat.le_of_ble_eq_true rfl⟩) hKK hKX hKY hKN hW hS rfl hl.1 rfl (Nat.le_of_ble_eq_true rfl) dL_ends_24 ⟨(by show _ + _ ≤ 104371; omega), (by show _ + _ ≤ 626226; omega)⟩ (fun H locs hW hS => ?_)
          obtain ⟨j133, ej133, hf⟩ := op_st hf
          have hj133 : ∀ (u_ : Unit) (H : Heap) (locs : List Loc) (ls : Array Slot), lv_has ls 10 [(5, .int q4.2.1), (3, .int q125.1), (0, .ref a_1), (1, .ref qn), (2, .int i_3)] → (TW Γ a_1 q125.2 (nC Γ qn I :: X)) H → va_S (zA Γ) s.heap H locs → j133 () = some r126 → W p l e (headSpec wsL_ends rmL_ends).room s m args below meth c H locs (cv10 + 40) (sv11 + 240) (MQ below (GQ Γ (TW Γ a_1 y.2 (nC Γ qn I :: X)) (some (.int y.1))) args s 104371 626226 (zA Γ)) (F0 m 138 ls []) := by
            intro u_ H locs ls hl hW hS hf
            rw [ej133] at hf
            obtain ⟨x134, ex134, hf⟩ := op_st hf
            refine lv_iinc (v := x134) (lv' := [(5, .int x134), (3, .int q125.1), (0, .ref a_1), (1, .ref qn), (2, .int i_3)]) hx hb dL_ends_138 hl (k := 0) rfl (by rw [ex134]; rfl) (by decide) rfl (fun ls hl => ?_)
            refine lv_goto (tgt := 8) hx hb dL_ends_141 (by decide) ?_
            have hf := congrArg some (zr_r hf hr129)
            have hf := zr_l hf hr8
            refine W.widen (k := cv10 + 40) (n := sv11 + 240) (by omega) (by omega) ?_
            exact ih7 (q125.1, x134, q125.2) H locs ls (cv10 + 40) (sv11 + 240) (by omega) (by omega) (lv_sub hl [0, 1, 2, 3, 4] rfl) hW hS hf
          refine lv_if_lt (tgt := 138) hx hb dL_ends_27 (by decide) (fun k27 => ?_) (fun k27 => ?_)
          · have hf := (op_if hf).1 k27
            refine W.widen (k := (cv10 + 40)) (n := (sv11 + 240)) (by omega) (by omega) ?_
            refine W.widen (k := (cv10 + 40)) (n := (sv11 + 240)) (by omega) (by omega) ?_
            exact hj133 () H locs ls (lv_sub hl [0, 1, 2, 3, 4] rfl) hW hS hf
          have hf := (op_if hf).2 k27
          refine lv_iload_n hx hb dL_ends_30 rfl (lv_at hl 1 rfl) ?_
          refine lv_if_eq (tgt := 138) hx hb dL_ends_31 (by decide) (fun k31 => ?_) (fun k31 => ?_)
          · have hf := (op_if hf).1 k31
            refine W.widen (k := (cv10 + 40)) (n := (sv11 + 240)) (by omega) (by omega) ?_
            refine W.widen (k := (cv10 + 40)) (n := (sv11 + 240)) (by omega) (by omega) ?_
            exact hj133 () H locs ls (lv_sub hl [0, 1, 2, 3, 4] rfl) hW hS hf
          have hf := (op_if hf).2 k31
          refine lv_aload_n hx hb dL_ends_34 rfl (lv_at hl 2 rfl) ?_
          refine lv_iload hx hb dL_ends_35 (lv_at hl 0 rfl) ?_
          refine g_callW (As := [.ref a_1, .int q4.2.1]) (rest := []) ⟨hx, hb, hml, hown, hts⟩ (aL_gameAt l hl0 Γ a_1 q125.2 (nC Γ qn I :: X) q4.2.1) (vx_cwSW 2 hts gL_ends_L_gameAt rfl rfl rfl (by decide +kernel) ⟨Nat.le_of_ble_eq_true rfl, Nat.le_of_ble_eq_true rfl⟩) hKK hKX hKY hKN hW hS rfl hl.1 rfl (Nat.le_of_ble_eq_true rfl) dL_ends_37 ⟨(by show _ + _ ≤ 104371; omega), (by show _ + _ ≤ 626226; omega)⟩ (fun H locs hW hS => ?_)
          obtain ⟨x135, ex135, hf⟩ := op_st hf
          refine z_ist (lv' := [(6, .int x135), (5, .int q4.2.1), (3, .int q125.1), (0, .ref a_1), (1, .ref qn), (2, .int i_3)]) ex135 hx hb dL_ends_40 hl (by decide) rfl (fun ls hl => ?_)
          refine lv_aload_n hx hb dL_ends_42 rfl (lv_at hl 3 rfl) ?_
          refine lv_iload hx hb dL_ends_43 (lv_at hl 0 rfl) ?_
          refine g_callW (As := [.ref a_1, .int x135]) (rest := []) ⟨hx, hb, hml, hown, hts⟩ (aL_balls l hl0 Γ a_1 q125.2 (nC Γ qn I :: X) x135) (vx_cwSW 2 hts gL_ends_L_balls rfl rfl rfl (by decide +kernel) ⟨Nat.le_of_ble_eq_true rfl, Nat.le_of_ble_eq_true rfl⟩) hKK hKX hKY hKN hW hS rfl hl.1 rfl (Nat.le_of_ble_eq_true rfl) dL_ends_45 ⟨(by show _ + _ ≤ 104371; omega), (by show _ + _ ≤ 626226; omega)⟩ (fun H locs hW hS => ?_)
          obtain ⟨x136, ex136, hf⟩ := op_st hf
          refine z_ist (lv' := [(7, .int x136), (6, .int x135), (5, .int q4.2.1), (3, .int q125.1), (0, .ref a_1), (1, .ref qn), (2, .int i_3)]) ex136 hx hb dL_ends_48 hl (by decide) rfl (fun ls hl => ?_)
          refine lv_aload_n hx hb dL_ends_50 rfl (lv_at hl 4 rfl) ?_
          refine lv_iload hx hb dL_ends_51 (lv_at hl 1 rfl) ?_
          refine g_callW (As := [.ref a_1, .int x135]) (rest := []) ⟨hx, hb, hml, hown, hts⟩ (aL_score l hl0 Γ a_1 q125.2 (nC Γ qn I :: X) x135) (vx_cwSW 2 hts gL_ends_L_score rfl rfl rfl (by decide +kernel) ⟨Nat.le_of_ble_eq_true rfl, Nat.le_of_ble_eq_true rfl⟩) hKK hKX hKY hKN hW hS rfl hl.1 rfl (Nat.le_of_ble_eq_true rfl) dL_ends_53 ⟨(by show _ + _ ≤ 104371; omega), (by show _ + _ ≤ 626226; omega)⟩ (fun H locs hW hS => ?_)
          obtain ⟨x137, ex137, hf⟩ := op_st hf
          refine z_ist (lv' := [(8, .int x137), (7, .int x136), (6, .int x135), (5, .int q4.2.1), (3, .int q125.1), (0, .ref a_1), (1, .ref qn), (2, .int i_3)]) ex137 hx hb dL_ends_56 hl (by decide) rfl (fun ls hl => ?_)
          refine lv_aload_n hx hb dL_ends_58 rfl (lv_at hl 5 rfl) ?_
          refine lv_iload hx hb dL_ends_59 (lv_at hl 3 rfl) ?_
          refine lv_iload_n hx hb dL_ends_61 rfl (lv_at hl 7 rfl) ?_
          refine lv_sipush (v := (160)) hx hb dL_ends_62 (by decide) ?_
          refine lv_irem hx hb dL_ends_65 (by decide) ?_
          refine lv_iload_n hx hb dL_ends_66 rfl (lv_at hl 7 rfl) ?_
          refine lv_sipush (v := (160)) hx hb dL_ends_67 (by decide) ?_
          refine lv_idiv hx hb dL_ends_70 (by decide) ?_
          refine lv_bipush (v := (61)) hx hb dL_ends_71 (by decide) ?_
          refine lv_irem hx hb dL_ends_73 (by decide) ?_
          refine lv_bipush (v := (30)) hx hb dL_ends_74 (by decide) ?_
          refine lv_isub hx hb dL_ends_76 ?_
          refine lv_iconst (v := (0)) hx hb dL_ends_77 (by decide) ?_
          obtain ⟨M138, eM138, hf⟩ := op_st hf
          refine g_callW (As := [.ref a_1, .int q4.2.1, .int (i_3 - i_3 / (160 : Int32) * (160 : Int32)), .int (((i_3 / (160 : Int32)) - (i_3 / (160 : Int32)) / (61 : Int32) * (61 : Int32)) - (30 : Int32)), .int (0 : Int32)]) (rest := []) ⟨hx, hb, hml, hown, hts⟩ (aL_shoot l hl0 Γ a_1 q125.2 (nC Γ qn I :: X) q4.2.1 (i_3 - i_3 / (160 : Int32) * (160 : Int32)) (((i_3 / (160 : Int32)) - (i_3 / (160 : Int32)) / (61 : Int32) * (61 : Int32)) - (30 : Int32)) (0 : Int32)) (vx_cwSW 5 hts gL_ends_L_shoot rfl rfl rfl (by decide +kernel) ⟨Nat.le_of_ble_eq_true rfl, Nat.le_of_ble_eq_true rfl⟩) hKK hKX hKY hKN hW hS rfl hl.1 rfl (Nat.le_of_ble_eq_true rfl) dL_ends_78 ⟨(by show _ + _ ≤ 104371; omega), (by show _ + _ ≤ 626226; omega)⟩ (fun H locs hW hS => ?_)
          rw [← eM138] at hW
          obtain ⟨x139, ex139, hf⟩ := op_st hf
          refine z_ist (lv' := [(9, .int x139), (8, .int x137), (7, .int x136), (6, .int x135), (5, .int q4.2.1), (3, .int q125.1), (0, .ref a_1), (1, .ref qn), (2, .int i_3)]) ex139 hx hb dL_ends_81 hl (by decide) rfl (fun ls hl => ?_)
          refine lv_iload hx hb dL_ends_83 (lv_at hl 0 rfl) ?_
          obtain ⟨j142, ej142, hf⟩ := op_st hf
          have hj142 : ∀ (y140 : Int32) (M141 : zMs) (H : Heap) (locs : List Loc) (ls : Array Slot), lv_has ls 10 [(5, .int q4.2.1), (0, .ref a_1), (1, .ref qn), (2, .int i_3)] → (TW Γ a_1 M141 (nC Γ qn I :: X)) H → va_S (zA Γ) s.heap H locs → j142 y140 M141 = some r126 → W p l e (headSpec wsL_ends rmL_ends).room s m args below meth c H locs (cv131 + 8) (sv132 + 48) (MQ below (GQ Γ (TW Γ a_1 y.2 (nC Γ qn I :: X)) (some (.int y.1))) args s 104371 626226 (zA Γ)) (F0 m 134 ls [.int y140]) := by
            intro y140 M141 H locs ls hl hW hS hf
            rw [ej142] at hf
            obtain ⟨x143, ex143, hf⟩ := op_st hf
            refine z_istn (lv' := [(3, .int x143), (5, .int q4.2.1), (0, .ref a_1), (1, .ref qn), (2, .int i_3)]) ex143 hx hb dL_ends_134 rfl hl (by decide) rfl (fun ls hl => ?_)
            refine lv_goto (tgt := 21) hx hb dL_ends_135 (by decide) ?_
            have hf := zr_l hf hr129
            refine W.widen (k := cv131 + 8) (n := sv132 + 48) (by omega) (by omega) ?_
            exact ih128 (x143, M141) H locs ls (cv131 + 8) (sv132 + 48) (by omega) (by omega) (lv_sub hl [1, 0, 2, 3, 4] rfl) hW hS hf
          obtain ⟨j145, ej145, hf⟩ := op_st hf
          have hj145 : ∀ (M144 : zMs) (H : Heap) (locs : List Loc) (ls : Array Slot), lv_has ls 10 [(5, .int q4.2.1), (0, .ref a_1), (1, .ref qn), (2, .int i_3)] → (TW Γ a_1 M144 (nC Γ qn I :: X)) H → va_S (zA Γ) s.heap H locs → j145 M144 = some r126 → W p l e (headSpec wsL_ends rmL_ends).room s m args below meth c H locs (cv131 + 8) (sv132 + 48) (MQ below (GQ Γ (TW Γ a_1 y.2 (nC Γ qn I :: X)) (some (.int y.1))) args s 104371 626226 (zA Γ)) (F0 m 133 ls []) := by
            intro M144 H locs ls hl hW hS hf
            rw [ej145] at hf
            refine lv_iconst (v := (0)) hx hb dL_ends_133 (by decide) ?_
            refine W.widen (k := (cv131 + 8)) (n := (sv132 + 48)) (by omega) (by omega) ?_
            exact hj142 (0 : Int32) M144 H locs ls (lv_sub hl [0, 1, 2, 3] rfl) hW hS hf
          refine lv_if_lt (tgt := 133) hx hb dL_ends_85 (by decide) (fun k85 => ?_) (fun k85 => ?_)
          · have hf := (op_if hf).1 k85
            refine W.widen (k := (cv131 + 8)) (n := (sv132 + 48)) (by omega) (by omega) ?_
            exact hj145 M138 H locs ls (lv_sub hl [4, 6, 7, 8] rfl) hW hS hf
          have hf := (op_if hf).2 k85
          refine lv_aload_n hx hb dL_ends_88 rfl (lv_at hl 6 rfl) ?_
          refine lv_iload hx hb dL_ends_89 (lv_at hl 3 rfl) ?_
          refine g_callW (As := [.ref a_1, .int x135]) (rest := []) ⟨hx, hb, hml, hown, hts⟩ (aL_score l hl0 Γ a_1 M138 (nC Γ qn I :: X) x135) (vx_cwSW 2 hts gL_ends_L_score rfl rfl rfl (by decide +kernel) ⟨Nat.le_of_ble_eq_true rfl, Nat.le_of_ble_eq_true rfl⟩) hKK hKX hKY hKN hW hS rfl hl.1 rfl (Nat.le_of_ble_eq_true rfl) dL_ends_91 ⟨(by show _ + _ ≤ 104371; omega), (by show _ + _ ≤ 626226; omega)⟩ (fun H locs hW hS => ?_)
          refine lv_iload hx hb dL_ends_94 (lv_at hl 1 rfl) ?_
          refine lv_iload hx hb dL_ends_96 (lv_at hl 0 rfl) ?_
          refine lv_iadd hx hb dL_ends_98 ?_
          refine lv_icmp_ne (tgt := 133) hx hb dL_ends_99 (by decide) (fun k99 => ?_) (fun k99 => ?_)
          · have hf := (op_if hf).2 k99
            refine W.widen (k := (cv131 + 8)) (n := (sv132 + 48)) (by omega) (by omega) ?_
            exact hj145 M138 H locs ls (lv_sub hl [4, 6, 7, 8] rfl) hW hS hf
          have hf := (op_if hf).1 k99
          refine lv_aload_n hx hb dL_ends_102 rfl (lv_at hl 6 rfl) ?_
          refine lv_iload hx hb dL_ends_103 (lv_at hl 3 rfl) ?_
          refine g_callW (As := [.ref a_1, .int x135]) (rest := []) ⟨hx, hb, hml, hown, hts⟩ (aL_balls l hl0 Γ a_1 M138 (nC Γ qn I :: X) x135) (vx_cwSW 2 hts gL_ends_L_balls rfl rfl rfl (by decide +kernel) ⟨Nat.le_of_ble_eq_true rfl, Nat.le_of_ble_eq_true rfl⟩) hKK hKX hKY hKN hW hS rfl hl.1 rfl (Nat.le_of_ble_eq_true rfl) dL_ends_105 ⟨(by show _ + _ ≤ 104371; omega), (by show _ + _ ≤ 626226; omega)⟩ (fun H locs hW hS => ?_)
          refine lv_iload hx hb dL_ends_108 (lv_at hl 2 rfl) ?_
          refine lv_iconst (v := (1)) hx hb dL_ends_110 (by decide) ?_
          refine lv_isub hx hb dL_ends_111 ?_
          refine lv_icmp_ne (tgt := 133) hx hb dL_ends_112 (by decide) (fun k112 => ?_) (fun k112 => ?_)
          · have hf := (op_if hf).2 k112
            refine W.widen (k := (cv131 + 8)) (n := (sv132 + 48)) (by omega) (by omega) ?_
            exact hj145 M138 H locs ls (lv_sub hl [4, 6, 7, 8] rfl) hW hS hf
          have hf := (op_if hf).1 k112
          refine lv_aload_n hx hb dL_ends_115 rfl (lv_at hl 6 rfl) ?_
          refine lv_iload hx hb dL_ends_116 (lv_at hl 3 rfl) ?_
          refine g_callW (As := [.ref a_1, .int x135]) (rest := []) ⟨hx, hb, hml, hown, hts⟩ (aL_byLog l hl0 Γ a_1 M138 (nC Γ qn I :: X) x135) (vx_cwSW 2 hts gL_ends_L_byLog rfl rfl rfl (by decide +kernel) ⟨Nat.le_of_ble_eq_true rfl, Nat.le_of_ble_eq_true rfl⟩) hKK hKX hKY hKN hW hS rfl hl.1 rfl (Nat.le_of_ble_eq_true rfl) dL_ends_118 ⟨(by show _ + _ ≤ 104371; omega), (by show _ + _ ≤ 626226; omega)⟩ (fun H locs hW hS => ?_)
          refine lv_iload hx hb dL_ends_121 (lv_at hl 1 rfl) ?_
          refine lv_iload hx hb dL_ends_123 (lv_at hl 0 rfl) ?_
          refine lv_iadd hx hb dL_ends_125 ?_
          refine lv_icmp_ne (tgt := 133) hx hb dL_ends_126 (by decide) (fun k126 => ?_) (fun k126 => ?_)
          · have hf := (op_if hf).2 k126
            refine W.widen (k := (cv131 + 8)) (n := (sv132 + 48)) (by omega) (by omega) ?_
            exact hj145 M138 H locs ls (lv_sub hl [4, 6, 7, 8] rfl) hW hS hf
          have hf := (op_if hf).1 k126
          refine lv_iconst (v := (1)) hx hb dL_ends_129 (by decide) ?_
          refine lv_goto (tgt := 134) hx hb dL_ends_130 (by decide) ?_
          refine W.widen (k := (cv131 + 8)) (n := (sv132 + 48)) (by omega) (by omega) ?_
          exact hj142 (1 : Int32) M138 H locs ls (lv_sub hl [4, 6, 7, 8] rfl) hW hS hf
      rw [eq1250] at hf
      refine W.widen (k := (cv10 + 0)) (n := (sv11 + 0)) (by omega) (by omega) ?_
      exact hw127 5 (q4.1, q4.2.2) H locs ls (cv10 + 0) (sv11 + 0) (lb2 (by decide)) (lb2 (by decide)) (lv_sub hl [0, 1, 2, 3, 4] rfl) hW hS hf
  rw [eq40] at hf
  refine W.widen (k := 0) (n := 0) (by omega) (by omega) ?_
  exact hw6 7 (x1, x3, M) H locs ls 0 0 (by decide) (by decide) (lv_sub hl [0, 2, 3, 4, 5] rfl) hW hS hf
