abbrev rmL_alike : Room := { frames := 9, cells := 834, slots := 5004, locals := 200 }
set_option maxHeartbeats 4000000 in
set_option maxRecDepth 100000 in
theorem cL_alike_ok (l : Launch) (hl0 : l.stackTraces = false) (Γ : zG) (a_1 : Nat) (a_2 : Nat) (qn : Nat) (M : zMs) (X : va_W) {I : Nat → Int32} {i_4 : Int32} {y : Int32} (hf : fL_alike M I i_4 = some y) : Met l yL_alike wsL_alike rmL_alike (GP Γ (W2 Γ a_1 a_2 M M (nC Γ qn I :: X)) [.ref a_1, .ref a_2, .ref qn, .int i_4]) (GQ Γ (W2 Γ a_1 a_2 M M (nC Γ qn I :: X)) (some (.int y))) 834 5004 (zA Γ) := by
  refine Met.ofW (cc := cL_alike) (maxL := 7) (ret := (some .boolean)) (by decide) rfl ?_
  intro p e s m args below meth c s₁ B hml hv
  obtain ⟨rfl, hW, hKK, hKX, hKY, hKN⟩ := hv
  have hx := B.exec
  have hb := B.bytes
  have hr := B.returns
  have hts := atoms_spec (ws := wsL_alike) B.pre
  have hown : s.vm.findClass RL = some m.cls := findClass_of_methodNamed B.named
  have hlocks := B.notSynchronized
  have hS : va_S (zA Γ) s.heap s.heap [] := va_S.rf
  have hl := lv_entry ([.ref a_1, .ref a_2, .ref qn, .int i_4]) (n := 7) (Nat.le_of_ble_eq_true rfl)
  rw [lg_entry_eq]
  generalize (lg_sl ([.ref a_1, .ref a_2, .ref qn, .int i_4]) ++ List.replicate (7 - (lg_sl ([.ref a_1, .ref a_2, .ref qn, .int i_4])).length) Slot.unset).toArray = ls at hl ⊢
  have hl : lv_has ls 7 [(0, .ref a_1), (1, .ref a_2), (2, .ref qn), (3, .int i_4)] := hl
  generalize ([.ref a_1, .ref a_2, .ref qn, .int i_4] : List Value).toArray = args at hts ⊢
  obtain ⟨H, hH0⟩ : ∃ H, H = s.heap := ⟨_, rfl⟩
  obtain ⟨locs, hlo0⟩ : ∃ L : List Loc, L = [] := ⟨_, rfl⟩
  have hS : va_S (zA Γ) s.heap H locs := by rw [hH0, hlo0]; exact hS
  have hW : (W2 Γ a_1 a_2 M M (nC Γ qn I :: X)) H := by rw [hH0]; exact hW
  rw [← hH0, ← hlo0]
  unfold fL_alike at hf
  refine lv_aload_n hx hb dL_alike_0 rfl (lv_at hl 0 rfl) ?_
  obtain ⟨fs_, hr_⟩ := (w2_rl hW)
  refine g_callV (As := []) (rest := []) ⟨hx, hb, hml, hown, hts⟩ (g2l (fun X => (aX_tables l Γ a_1 M X ))) (cwV 0 hts gL_alike_X9_tables rfl rfl rfl (by decide +kernel) ⟨Nat.le_of_ble_eq_true rfl, Nat.le_of_ble_eq_true rfl⟩) hr_ rfl hKK hKX hKY hKN hW hS rfl hl.1 rfl (Nat.le_of_ble_eq_true rfl) dL_alike_1 ⟨(by show _ + _ ≤ 834; omega), (by show _ + _ ≤ 5004; omega)⟩ (fun H locs hW hS => ?_)
  refine lv_aload_n hx hb dL_alike_4 rfl (lv_at hl 1 rfl) ?_
  obtain ⟨fs_, hr_⟩ := (w2_rr hW)
  refine g_callV (As := []) (rest := [.int (M 1 0)]) ⟨hx, hb, hml, hown, hts⟩ (g2r (fun X => (aX_tables l Γ a_2 M X ))) (cwV 0 hts gL_alike_X9_tables rfl rfl rfl (by decide +kernel) ⟨Nat.le_of_ble_eq_true rfl, Nat.le_of_ble_eq_true rfl⟩) hr_ rfl hKK hKX hKY hKN hW hS rfl hl.1 rfl (Nat.le_of_ble_eq_true rfl) dL_alike_5 ⟨(by show _ + _ ≤ 834; omega), (by show _ + _ ≤ 5004; omega)⟩ (fun H locs hW hS => ?_)
  obtain ⟨j2, ej2, hf⟩ := op_st hf
  have hj2 : ∀ (y1 : Int32) (H : Heap) (locs : List Loc) (ls : Array Slot), lv_has ls 7 [(0, .ref a_1), (1, .ref a_2), (2, .ref qn), (3, .int i_4)] → (W2 Γ a_1 a_2 M M (nC Γ qn I :: X)) H → va_S (zA Γ) s.heap H locs → j2 y1 = some y → W p l e (headSpec wsL_alike rmL_alike).room s m args below meth c H locs 4 24 (MQ below (GQ Γ (W2 Γ a_1 a_2 M M (nC Γ qn I :: X)) (some (.int y))) args s 834 5004 (zA Γ)) (F0 m 53 ls [.int y1]) := by
    intro y1 H locs ls hl hW hS hf
    rw [ej2] at hf
    obtain ⟨x3, ex3, hf⟩ := op_st hf
    refine z_ist (lv' := [(4, .int x3), (0, .ref a_1), (1, .ref a_2), (2, .ref qn), (3, .int i_4)]) ex3 hx hb dL_alike_53 hl (by decide) rfl (fun ls hl => ?_)
    refine lv_iconst (v := (0)) hx hb dL_alike_55 (by decide) ?_
    obtain ⟨x4, ex4, hf⟩ := op_st hf
    refine z_ist (lv' := [(5, .int x4), (4, .int x3), (0, .ref a_1), (1, .ref a_2), (2, .ref qn), (3, .int i_4)]) ex4 hx hb dL_alike_56 hl (by decide) rfl (fun ls hl => ?_)
    obtain ⟨w7, q50, ew7, eq50, hf⟩ := op_lb hf
    have hw7 : ∀ n10 : Nat, ∀ (q5 : (Int32 × Int32)) (H : Heap) (locs : List Loc) (ls : Array Slot) (cv11 sv12 : Nat), cv11 + n10 * 44 ≤ 312 → sv12 + n10 * 264 ≤ 1872 → lv_has ls 7 [(5, .int q5.2), (4, .int q5.1), (0, .ref a_1), (1, .ref a_2), (2, .ref qn), (3, .int i_4)] → (W2 Γ a_1 a_2 M M (nC Γ qn I :: X)) H → va_S (zA Γ) s.heap H locs → lp w7 n10 q5 = some y → W p l e (headSpec wsL_alike rmL_alike).room s m args below meth c H locs cv11 sv12 (MQ below (GQ Γ (W2 Γ a_1 a_2 M M (nC Γ qn I :: X)) (some (.int y))) args s 834 5004 (zA Γ)) (F0 m 58 ls []) := by
      intro n10
      induction n10 with
      | zero => intro q5 H locs ls cv11 sv12 hcv hsv hl hW hS hf; cases hf
      | succ n10 ih8 =>
        intro q5 H locs ls cv11 sv12 hcvcv11 hsvsv12 hl hW hS hf
        obtain ⟨n_, r6, hn_, hf, hr9⟩ := op_lq hf
        cases hn_
        rw [ew7] at hf
        refine lv_iload hx hb dL_alike_58 (lv_at hl 0 rfl) ?_
        refine lv_aload_n hx hb dL_alike_60 rfl (lv_at hl 2 rfl) ?_
        obtain ⟨fs_, hr_⟩ := (w2_rl hW)
        refine g_callV (As := []) (rest := [.int q5.2]) ⟨hx, hb, hml, hown, hts⟩ (g2l (fun X => (aX_tables l Γ a_1 M X ))) (cwV 0 hts gL_alike_X9_tables rfl rfl rfl (by decide +kernel) ⟨Nat.le_of_ble_eq_true rfl, Nat.le_of_ble_eq_true rfl⟩) hr_ rfl hKK hKX hKY hKN hW hS rfl hl.1 rfl (Nat.le_of_ble_eq_true rfl) dL_alike_61 ⟨(by show _ + _ ≤ 834; omega), (by show _ + _ ≤ 5004; omega)⟩ (fun H locs hW hS => ?_)
        obtain ⟨j13, ej13, hf⟩ := op_st hf
        have hj13 : ∀ (u_ : Unit) (H : Heap) (locs : List Loc) (ls : Array Slot), lv_has ls 7 [(4, .int q5.1), (0, .ref a_1), (1, .ref a_2), (3, .int i_4)] → (W2 Γ a_1 a_2 M M (nC Γ qn I :: X)) H → va_S (zA Γ) s.heap H locs → j13 () = some r6 → W p l e (headSpec wsL_alike rmL_alike).room s m args below meth c H locs 312 1872 (MQ below (GQ Γ (W2 Γ a_1 a_2 M M (nC Γ qn I :: X)) (some (.int y))) args s 834 5004 (zA Γ)) (F0 m 219 ls []) := by
          intro u_ H locs ls hl hW hS hf
          rw [ej13] at hf
          refine lv_iconst (v := (0)) hx hb dL_alike_219 (by decide) ?_
          obtain ⟨x14, ex14, hf⟩ := op_st hf
          refine z_ist (lv' := [(5, .int x14), (4, .int q5.1), (0, .ref a_1), (1, .ref a_2), (3, .int i_4)]) ex14 hx hb dL_alike_220 hl (by decide) rfl (fun ls hl => ?_)
          obtain ⟨w17, q150, ew17, eq150, hf⟩ := op_lb hf
          have hw17 : ∀ n20 : Nat, ∀ (q15 : (Int32 × Int32)) (H : Heap) (locs : List Loc) (ls : Array Slot) (cv21 sv22 : Nat), cv21 + n20 * 12 ≤ 804 → sv22 + n20 * 72 ≤ 4824 → lv_has ls 7 [(5, .int q15.2), (4, .int q15.1), (0, .ref a_1), (1, .ref a_2), (3, .int i_4)] → (W2 Γ a_1 a_2 M M (nC Γ qn I :: X)) H → va_S (zA Γ) s.heap H locs → lp w17 n20 q15 = some r6 → W p l e (headSpec wsL_alike rmL_alike).room s m args below meth c H locs cv21 sv22 (MQ below (GQ Γ (W2 Γ a_1 a_2 M M (nC Γ qn I :: X)) (some (.int y))) args s 834 5004 (zA Γ)) (F0 m 222 ls []) := by
            intro n20
            induction n20 with
            | zero => intro q15 H locs ls cv21 sv22 hcv hsv hl hW hS hf; cases hf
            | succ n20 ih18 =>
              intro q15 H locs ls cv21 sv22 hcvcv21 hsvsv22 hl hW hS hf
              obtain ⟨n_, r16, hn_, hf, hr19⟩ := op_lq hf
              cases hn_
              rw [ew17] at hf
              refine lv_iload hx hb dL_alike_222 (lv_at hl 0 rfl) ?_
              refine lv_aload_n hx hb dL_alike_224 rfl (lv_at hl 2 rfl) ?_
              obtain ⟨fs_, hr_⟩ := (w2_rl hW)
              refine g_callV (As := []) (rest := [.int q15.2]) ⟨hx, hb, hml, hown, hts⟩ (g2l (fun X => (aX_games l Γ a_1 M X ))) (cwV 0 hts gL_alike_X9_games rfl rfl rfl (by decide +kernel) ⟨Nat.le_of_ble_eq_true rfl, Nat.le_of_ble_eq_true rfl⟩) hr_ rfl hKK hKX hKY hKN hW hS rfl hl.1 rfl (Nat.le_of_ble_eq_true rfl) dL_alike_225 ⟨(by show _ + _ ≤ 834; omega), (by show _ + _ ≤ 5004; omega)⟩ (fun H locs hW hS => ?_)
              obtain ⟨j23, ej23, hf⟩ := op_st hf
              have hj23 : ∀ (u_ : Unit) (H : Heap) (locs : List Loc) (ls : Array Slot), lv_has ls 7 [(4, .int q15.1), (0, .ref a_1), (1, .ref a_2), (3, .int i_4)] → (W2 Γ a_1 a_2 M M (nC Γ qn I :: X)) H → va_S (zA Γ) s.heap H locs → j23 () = some r16 → W p l e (headSpec wsL_alike rmL_alike).room s m args below meth c H locs 804 4824 (MQ below (GQ Γ (W2 Γ a_1 a_2 M M (nC Γ qn I :: X)) (some (.int y))) args s 834 5004 (zA Γ)) (F0 m 358 ls []) := by
                intro u_ H locs ls hl hW hS hf
                rw [ej23] at hf
                refine lv_iconst (v := (0)) hx hb dL_alike_358 (by decide) ?_
                obtain ⟨x24, ex24, hf⟩ := op_st hf
                refine z_ist (lv' := [(5, .int x24), (4, .int q15.1), (0, .ref a_1), (1, .ref a_2), (3, .int i_4)]) ex24 hx hb dL_alike_359 hl (by decide) rfl (fun ls hl => ?_)
                obtain ⟨w27, q250, ew27, eq250, hf⟩ := op_lb hf
                have hw27 : ∀ n30 : Nat, ∀ (q25 : (Int32 × Int32)) (H : Heap) (locs : List Loc) (ls : Array Slot) (cv31 sv32 : Nat), cv31 + n30 * 10 ≤ 834 → sv32 + n30 * 60 ≤ 5004 → lv_has ls 7 [(5, .int q25.2), (4, .int q25.1), (0, .ref a_1), (1, .ref a_2), (3, .int i_4)] → (W2 Γ a_1 a_2 M M (nC Γ qn I :: X)) H → va_S (zA Γ) s.heap H locs → lp w27 n30 q25 = some r16 → W p l e (headSpec wsL_alike rmL_alike).room s m args below meth c H locs cv31 sv32 (MQ below (GQ Γ (W2 Γ a_1 a_2 M M (nC Γ qn I :: X)) (some (.int y))) args s 834 5004 (zA Γ)) (F0 m 361 ls []) := by
                  intro n30
                  induction n30 with
                  | zero => intro q25 H locs ls cv31 sv32 hcv hsv hl hW hS hf; cases hf
                  | succ n30 ih28 =>
                    intro q25 H locs ls cv31 sv32 hcvcv31 hsvsv32 hl hW hS hf
                    obtain ⟨n_, r26, hn_, hf, hr29⟩ := op_lq hf
                    cases hn_
                    rw [ew27] at hf
                    refine lv_iload hx hb dL_alike_361 (lv_at hl 0 rfl) ?_
                    refine lv_iconst (v := (2)) hx hb dL_alike_363 (by decide) ?_
                    refine lv_icmp_ge (tgt := 470) hx hb dL_alike_364 (by decide) (fun k364 => ?_) (fun k364 => ?_)
                    · have hf := (op_if hf).1 k364
                      refine W.widen (k := 834) (n := 5004) (by omega) (by omega) ?_
                      refine lv_iload hx hb dL_alike_470 (lv_at hl 1 rfl) ?_
                      obtain ⟨hbp, hf⟩ := op_gd hf
                      have hf := zr_r hf hr29
                      have hf := congrArg some hf
                      have hf := zr_r hf hr19
                      have hf := congrArg some hf
                      have hf := zr_r hf hr9
                      rw [← hf]
                      exact g_iret hx hb hr hlocks (by omega) (by omega) (z_bb hbp) hW hS dL_alike_472
                    have hf := (op_if hf).2 k364
                    refine lv_iload hx hb dL_alike_367 (lv_at hl 1 rfl) ?_
                    refine lv_if_eq (tgt := 470) hx hb dL_alike_369 (by decide) (fun k369 => ?_) (fun k369 => ?_)
                    · have hf := (op_if hf).1 k369
                      refine W.widen (k := 834) (n := 5004) (by omega) (by omega) ?_
                      refine lv_iload hx hb dL_alike_470 (lv_at hl 1 rfl) ?_
                      obtain ⟨hbp, hf⟩ := op_gd hf
                      have hf := zr_r hf hr29
                      have hf := congrArg some hf
                      have hf := zr_r hf hr19
                      have hf := congrArg some hf
                      have hf := zr_r hf hr9
                      rw [← hf]
                      exact g_iret hx hb hr hlocks (by omega) (by omega) (z_bb hbp) hW hS dL_alike_472
                    have hf := (op_if hf).2 k369
                    refine lv_aload_n hx hb dL_alike_372 rfl (lv_at hl 2 rfl) ?_
                    refine lv_iload hx hb dL_alike_373 (lv_at hl 0 rfl) ?_
                    refine g_callW (As := [.ref a_1, .int q25.2]) (rest := []) ⟨hx, hb, hml, hown, hts⟩ (g2l (fun X => (aL_vanAt l hl0 Γ a_1 M X q25.2))) (vx_cwSW 2 hts gL_alike_L_vanAt rfl rfl rfl (by decide +kernel) ⟨Nat.le_of_ble_eq_true rfl, Nat.le_of_ble_eq_true rfl⟩) hKK hKX hKY hKN hW hS rfl hl.1 rfl (Nat.le_of_ble_eq_true rfl) dL_alike_375 ⟨(by show _ + _ ≤ 834; omega), (by show _ + _ ≤ 5004; omega)⟩ (fun H locs hW hS => ?_)
                    refine lv_aload_n hx hb dL_alike_378 rfl (lv_at hl 3 rfl) ?_
                    refine lv_iload hx hb dL_alike_379 (lv_at hl 0 rfl) ?_
                    refine g_callW (As := [.ref a_2, .int q25.2]) (rest := [.int (A_vanAt M q25.2)]) ⟨hx, hb, hml, hown, hts⟩ (g2r (fun X => (aL_vanAt l hl0 Γ a_2 M X q25.2))) (vx_cwSW 2 hts gL_alike_L_vanAt rfl rfl rfl (by decide +kernel) ⟨Nat.le_of_ble_eq_true rfl, Nat.le_of_ble_eq_true rfl⟩) hKK hKX hKY hKN hW hS rfl hl.1 rfl (Nat.le_of_ble_eq_true rfl) dL_alike_381 ⟨(by show _ + _ ≤ 834; omega), (by show _ + _ ≤ 5004; omega)⟩ (fun H locs hW hS => ?_)
                    obtain ⟨j34, ej34, hf⟩ := op_st hf
                    have hj34 : ∀ (y33 : Int32) (H : Heap) (locs : List Loc) (ls : Array Slot), lv_has ls 7 [(5, .int q25.2), (0, .ref a_1), (1, .ref a_2), (3, .int i_4)] → (W2 Γ a_1 a_2 M M (nC Γ qn I :: X)) H → va_S (zA Γ) s.heap H locs → j34 y33 = some r26 → W p l e (headSpec wsL_alike rmL_alike).room s m args below meth c H locs (cv31 + 10) (sv32 + 60) (MQ below (GQ Γ (W2 Γ a_1 a_2 M M (nC Γ qn I :: X)) (some (.int y))) args s 834 5004 (zA Γ)) (F0 m 462 ls [.int y33]) := by
                      intro y33 H locs ls hl hW hS hf
                      rw [ej34] at hf
                      obtain ⟨x35, ex35, hf⟩ := op_st hf
                      refine z_ist (lv' := [(4, .int x35), (5, .int q25.2), (0, .ref a_1), (1, .ref a_2), (3, .int i_4)]) ex35 hx hb dL_alike_462 hl (by decide) rfl (fun ls hl => ?_)
                      obtain ⟨x36, ex36, hf⟩ := op_st hf
                      refine lv_iinc (v := x36) (lv' := [(5, .int x36), (4, .int x35), (0, .ref a_1), (1, .ref a_2), (3, .int i_4)]) hx hb dL_alike_464 hl (k := 1) rfl (by rw [ex36]; rfl) (by decide) rfl (fun ls hl => ?_)
                      refine lv_goto (tgt := 361) hx hb dL_alike_467 (by decide) ?_
                      have hf := zr_l hf hr29
                      refine W.widen (k := cv31 + 10) (n := sv32 + 60) (by omega) (by omega) ?_
                      exact ih28 (x35, x36) H locs ls (cv31 + 10) (sv32 + 60) (by omega) (by omega) (lv_sub hl [0, 1, 2, 3, 4] rfl) hW hS hf
                    obtain ⟨j37, ej37, hf⟩ := op_st hf
                    have hj37 : ∀ (u_ : Unit) (H : Heap) (locs : List Loc) (ls : Array Slot), lv_has ls 7 [(5, .int q25.2), (0, .ref a_1), (1, .ref a_2), (3, .int i_4)] → (W2 Γ a_1 a_2 M M (nC Γ qn I :: X)) H → va_S (zA Γ) s.heap H locs → j37 () = some r26 → W p l e (headSpec wsL_alike rmL_alike).room s m args below meth c H locs (cv31 + 10) (sv32 + 60) (MQ below (GQ Γ (W2 Γ a_1 a_2 M M (nC Γ qn I :: X)) (some (.int y))) args s 834 5004 (zA Γ)) (F0 m 461 ls []) := by
                      intro u_ H locs ls hl hW hS hf
                      rw [ej37] at hf
                      refine lv_iconst (v := (0)) hx hb dL_alike_461 (by decide) ?_
                      refine W.widen (k := (cv31 + 10)) (n := (sv32 + 60)) (by omega) (by omega) ?_
                      exact hj34 (0 : Int32) H locs ls (lv_sub hl [0, 1, 2, 3] rfl) hW hS hf
                    refine lv_icmp_ne (tgt := 461) hx hb dL_alike_384 (by decide) (fun k384 => ?_) (fun k384 => ?_)
                    · have hf := (op_if hf).2 k384
                      refine W.widen (k := (cv31 + 10)) (n := (sv32 + 60)) (by omega) (by omega) ?_
                      exact hj37 () H locs ls (lv_sub hl [0, 2, 3, 4] rfl) hW hS hf
                    have hf := (op_if hf).1 k384
                    refine lv_aload_n hx hb dL_alike_387 rfl (lv_at hl 2 rfl) ?_
                    refine lv_iload hx hb dL_alike_388 (lv_at hl 0 rfl) ?_
                    refine lv_iconst (v := (0)) hx hb dL_alike_390 (by decide) ?_
                    refine g_callW (As := [.ref a_1, .int q25.2, .int (0 : Int32)]) (rest := []) ⟨hx, hb, hml, hown, hts⟩ (g2l (fun X => (aL_parts l hl0 Γ a_1 M X q25.2 (0 : Int32)))) (vx_cwSW 3 hts gL_alike_L_parts rfl rfl rfl (by decide +kernel) ⟨Nat.le_of_ble_eq_true rfl, Nat.le_of_ble_eq_true rfl⟩) hKK hKX hKY hKN hW hS rfl hl.1 rfl (Nat.le_of_ble_eq_true rfl) dL_alike_391 ⟨(by show _ + _ ≤ 834; omega), (by show _ + _ ≤ 5004; omega)⟩ (fun H locs hW hS => ?_)
                    refine lv_aload_n hx hb dL_alike_394 rfl (lv_at hl 3 rfl) ?_
                    refine lv_iload hx hb dL_alike_395 (lv_at hl 0 rfl) ?_
                    refine lv_iconst (v := (0)) hx hb dL_alike_397 (by decide) ?_
                    refine g_callW (As := [.ref a_2, .int q25.2, .int (0 : Int32)]) (rest := [.int (A_parts M q25.2 (0 : Int32))]) ⟨hx, hb, hml, hown, hts⟩ (g2r (fun X => (aL_parts l hl0 Γ a_2 M X q25.2 (0 : Int32)))) (vx_cwSW 3 hts gL_alike_L_parts rfl rfl rfl (by decide +kernel) ⟨Nat.le_of_ble_eq_true rfl, Nat.le_of_ble_eq_true rfl⟩) hKK hKX hKY hKN hW hS rfl hl.1 rfl (Nat.le_of_ble_eq_true rfl) dL_alike_398 ⟨(by show _ + _ ≤ 834; omega), (by show _ + _ ≤ 5004; omega)⟩ (fun H locs hW hS => ?_)
                    refine lv_icmp_ne (tgt := 461) hx hb dL_alike_401 (by decide) (fun k401 => ?_) (fun k401 => ?_)
                    · have hf := (op_if hf).2 k401
                      refine W.widen (k := (cv31 + 10)) (n := (sv32 + 60)) (by omega) (by omega) ?_
                      exact hj37 () H locs ls (lv_sub hl [0, 2, 3, 4] rfl) hW hS hf
                    have hf := (op_if hf).1 k401
                    refine lv_aload_n hx hb dL_alike_404 rfl (lv_at hl 2 rfl) ?_
                    refine lv_iload hx hb dL_alike_405 (lv_at hl 0 rfl) ?_
                    refine lv_iconst (v := (1)) hx hb dL_alike_407 (by decide) ?_
                    refine g_callW (As := [.ref a_1, .int q25.2, .int (1 : Int32)]) (rest := []) ⟨hx, hb, hml, hown, hts⟩ (g2l (fun X => (aL_parts l hl0 Γ a_1 M X q25.2 (1 : Int32)))) (vx_cwSW 3 hts gL_alike_L_parts rfl rfl rfl (by decide +kernel) ⟨Nat.le_of_ble_eq_true rfl, Nat.le_of_ble_eq_true rfl⟩) hKK hKX hKY hKN hW hS rfl hl.1 rfl (Nat.le_of_ble_eq_true rfl) dL_alike_408 ⟨(by show _ + _ ≤ 834; omega), (by show _ + _ ≤ 5004; omega)⟩ (fun H locs hW hS => ?_)
                    refine lv_aload_n hx hb dL_alike_411 rfl (lv_at hl 3 rfl) ?_
                    refine lv_iload hx hb dL_alike_412 (lv_at hl 0 rfl) ?_
                    refine lv_iconst (v := (1)) hx hb dL_alike_414 (by decide) ?_
                    refine g_callW (As := [.ref a_2, .int q25.2, .int (1 : Int32)]) (rest := [.int (A_parts M q25.2 (1 : Int32))]) ⟨hx, hb, hml, hown, hts⟩ (g2r (fun X => (aL_parts l hl0 Γ a_2 M X q25.2 (1 : Int32)))) (vx_cwSW 3 hts gL_alike_L_parts rfl rfl rfl (by decide +kernel) ⟨Nat.le_of_ble_eq_true rfl, Nat.le_of_ble_eq_true rfl⟩) hKK hKX hKY hKN hW hS rfl hl.1 rfl (Nat.le_of_ble_eq_true rfl) dL_alike_415 ⟨(by show _ + _ ≤ 834; omega), (by show _ + _ ≤ 5004; omega)⟩ (fun H locs hW hS => ?_)
                    refine lv_icmp_ne (tgt := 461) hx hb dL_alike_418 (by decide) (fun k418 => ?_) (fun k418 => ?_)
                    · have hf := (op_if hf).2 k418
                      refine W.widen (k := (cv31 + 10)) (n := (sv32 + 60)) (by omega) (by omega) ?_
                      exact hj37 () H locs ls (lv_sub hl [0, 2, 3, 4] rfl) hW hS hf
                    have hf := (op_if hf).1 k418
                    refine lv_aload_n hx hb dL_alike_421 rfl (lv_at hl 2 rfl) ?_
                    refine lv_iload hx hb dL_alike_422 (lv_at hl 0 rfl) ?_
                    refine g_callW (As := [.ref a_1, .int q25.2]) (rest := []) ⟨hx, hb, hml, hown, hts⟩ (g2l (fun X => (aL_way l hl0 Γ a_1 M X q25.2))) (vx_cwSW 2 hts gL_alike_L_way rfl rfl rfl (by decide +kernel) ⟨Nat.le_of_ble_eq_true rfl, Nat.le_of_ble_eq_true rfl⟩) hKK hKX hKY hKN hW hS rfl hl.1 rfl (Nat.le_of_ble_eq_true rfl) dL_alike_424 ⟨(by show _ + _ ≤ 834; omega), (by show _ + _ ≤ 5004; omega)⟩ (fun H locs hW hS => ?_)
                    refine lv_aload_n hx hb dL_alike_427 rfl (lv_at hl 3 rfl) ?_
                    refine lv_iload hx hb dL_alike_428 (lv_at hl 0 rfl) ?_
                    refine g_callW (As := [.ref a_2, .int q25.2]) (rest := [.int (A_way M q25.2)]) ⟨hx, hb, hml, hown, hts⟩ (g2r (fun X => (aL_way l hl0 Γ a_2 M X q25.2))) (vx_cwSW 2 hts gL_alike_L_way rfl rfl rfl (by decide +kernel) ⟨Nat.le_of_ble_eq_true rfl, Nat.le_of_ble_eq_true rfl⟩) hKK hKX hKY hKN hW hS rfl hl.1 rfl (Nat.le_of_ble_eq_true rfl) dL_alike_430 ⟨(by show _ + _ ≤ 834; omega), (by show _ + _ ≤ 5004; omega)⟩ (fun H locs hW hS => ?_)
                    refine lv_icmp_ne (tgt := 461) hx hb dL_alike_433 (by decide) (fun k433 => ?_) (fun k433 => ?_)
                    · have hf := (op_if hf).2 k433
                      refine W.widen (k := (cv31 + 10)) (n := (sv32 + 60)) (by omega) (by omega) ?_
                      exact hj37 () H locs ls (lv_sub hl [0, 2, 3, 4] rfl) hW hS hf
                    have hf := (op_if hf).1 k433
                    refine lv_aload_n hx hb dL_alike_436 rfl (lv_at hl 2 rfl) ?_
                    refine lv_iload hx hb dL_alike_437 (lv_at hl 0 rfl) ?_
                    refine lv_iload_n hx hb dL_alike_439 rfl (lv_at hl 4 rfl) ?_
                    refine lv_iconst (v := (3)) hx hb dL_alike_440 (by decide) ?_
                    refine lv_irem hx hb dL_alike_441 (by decide) ?_
                    refine g_callW (As := [.ref a_1, .int q25.2, .int (i_4 - i_4 / (3 : Int32) * (3 : Int32))]) (rest := []) ⟨hx, hb, hml, hown, hts⟩ (g2l (fun X => (aL_planned l hl0 Γ a_1 M X q25.2 (i_4 - i_4 / (3 : Int32) * (3 : Int32))))) (vx_cwSW 3 hts gL_alike_L_planned rfl rfl rfl (by decide +kernel) ⟨Nat.le_of_ble_eq_true rfl, Nat.le_of_ble_eq_true rfl⟩) hKK hKX hKY hKN hW hS rfl hl.1 rfl (Nat.le_of_ble_eq_true rfl) dL_alike_442 ⟨(by show _ + _ ≤ 834; omega), (by show _ + _ ≤ 5004; omega)⟩ (fun H locs hW hS => ?_)
                    refine lv_aload_n hx hb dL_alike_445 rfl (lv_at hl 3 rfl) ?_
                    refine lv_iload hx hb dL_alike_446 (lv_at hl 0 rfl) ?_
                    refine lv_iload_n hx hb dL_alike_448 rfl (lv_at hl 4 rfl) ?_
                    refine lv_iconst (v := (3)) hx hb dL_alike_449 (by decide) ?_
                    refine lv_irem hx hb dL_alike_450 (by decide) ?_
                    refine g_callW (As := [.ref a_2, .int q25.2, .int (i_4 - i_4 / (3 : Int32) * (3 : Int32))]) (rest := [.int (A_planned M q25.2 (i_4 - i_4 / (3 : Int32) * (3 : Int32)))]) ⟨hx, hb, hml, hown, hts⟩ (g2r (fun X => (aL_planned l hl0 Γ a_2 M X q25.2 (i_4 - i_4 / (3 : Int32) * (3 : Int32))))) (vx_cwSW 3 hts gL_alike_L_planned rfl rfl rfl (by decide +kernel) ⟨Nat.le_of_ble_eq_true rfl, Nat.le_of_ble_eq_true rfl⟩) hKK hKX hKY hKN hW hS rfl hl.1 rfl (Nat.le_of_ble_eq_true rfl) dL_alike_451 ⟨(by show _ + _ ≤ 834; omega), (by show _ + _ ≤ 5004; omega)⟩ (fun H locs hW hS => ?_)
                    refine lv_icmp_ne (tgt := 461) hx hb dL_alike_454 (by decide) (fun k454 => ?_) (fun k454 => ?_)
                    · have hf := (op_if hf).2 k454
                      refine W.widen (k := (cv31 + 10)) (n := (sv32 + 60)) (by omega) (by omega) ?_
                      exact hj37 () H locs ls (lv_sub hl [0, 2, 3, 4] rfl) hW hS hf
                    have hf := (op_if hf).1 k454
                    refine lv_iconst (v := (1)) hx hb dL_alike_457 (by decide) ?_
                    refine lv_goto (tgt := 462) hx hb dL_alike_458 (by decide) ?_
                    refine W.widen (k := (cv31 + 10)) (n := (sv32 + 60)) (by omega) (by omega) ?_
                    exact hj34 (1 : Int32) H locs ls (lv_sub hl [0, 2, 3, 4] rfl) hW hS hf
                rw [eq250] at hf
                refine W.widen (k := 804) (n := 4824) (by omega) (by omega) ?_
                exact hw27 3 (q15.1, x24) H locs ls 804 4824 (by omega) (by omega) (lv_sub hl [0, 1, 2, 3, 4] rfl) hW hS hf
              refine lv_icmp_ge (tgt := 358) hx hb dL_alike_228 (by decide) (fun k228 => ?_) (fun k228 => ?_)
              · have hf := (op_if hf).1 k228
                refine W.widen (k := 804) (n := 4824) (by omega) (by omega) ?_
                refine W.widen (k := 804) (n := 4824) (by omega) (by omega) ?_
                exact hj23 () H locs ls (lv_sub hl [1, 2, 3, 4] rfl) hW hS hf
              have hf := (op_if hf).2 k228
              refine lv_iload hx hb dL_alike_231 (lv_at hl 1 rfl) ?_
              refine lv_if_eq (tgt := 358) hx hb dL_alike_233 (by decide) (fun k233 => ?_) (fun k233 => ?_)
              · have hf := (op_if hf).1 k233
                refine W.widen (k := 804) (n := 4824) (by omega) (by omega) ?_
                refine W.widen (k := 804) (n := 4824) (by omega) (by omega) ?_
                exact hj23 () H locs ls (lv_sub hl [1, 2, 3, 4] rfl) hW hS hf
              have hf := (op_if hf).2 k233
              refine lv_aload_n hx hb dL_alike_236 rfl (lv_at hl 2 rfl) ?_
              refine lv_iload hx hb dL_alike_237 (lv_at hl 0 rfl) ?_
              refine g_callW (As := [.ref a_1, .int q15.2]) (rest := []) ⟨hx, hb, hml, hown, hts⟩ (g2l (fun X => (aL_score l hl0 Γ a_1 M X q15.2))) (vx_cwSW 2 hts gL_alike_L_score rfl rfl rfl (by decide +kernel) ⟨Nat.le_of_ble_eq_true rfl, Nat.le_of_ble_eq_true rfl⟩) hKK hKX hKY hKN hW hS rfl hl.1 rfl (Nat.le_of_ble_eq_true rfl) dL_alike_239 ⟨(by show _ + _ ≤ 834; omega), (by show _ + _ ≤ 5004; omega)⟩ (fun H locs hW hS => ?_)
              refine lv_aload_n hx hb dL_alike_242 rfl (lv_at hl 3 rfl) ?_
              refine lv_iload hx hb dL_alike_243 (lv_at hl 0 rfl) ?_
              refine g_callW (As := [.ref a_2, .int q15.2]) (rest := [.int (A_score M q15.2)]) ⟨hx, hb, hml, hown, hts⟩ (g2r (fun X => (aL_score l hl0 Γ a_2 M X q15.2))) (vx_cwSW 2 hts gL_alike_L_score rfl rfl rfl (by decide +kernel) ⟨Nat.le_of_ble_eq_true rfl, Nat.le_of_ble_eq_true rfl⟩) hKK hKX hKY hKN hW hS rfl hl.1 rfl (Nat.le_of_ble_eq_true rfl) dL_alike_245 ⟨(by show _ + _ ≤ 834; omega), (by show _ + _ ≤ 5004; omega)⟩ (fun H locs hW hS => ?_)
              obtain ⟨j39, ej39, hf⟩ := op_st hf
              have hj39 : ∀ (y38 : Int32) (H : Heap) (locs : List Loc) (ls : Array Slot), lv_has ls 7 [(5, .int q15.2), (0, .ref a_1), (1, .ref a_2), (3, .int i_4)] → (W2 Γ a_1 a_2 M M (nC Γ qn I :: X)) H → va_S (zA Γ) s.heap H locs → j39 y38 = some r16 → W p l e (headSpec wsL_alike rmL_alike).room s m args below meth c H locs (cv21 + 12) (sv22 + 72) (MQ below (GQ Γ (W2 Γ a_1 a_2 M M (nC Γ qn I :: X)) (some (.int y))) args s 834 5004 (zA Γ)) (F0 m 350 ls [.int y38]) := by
                intro y38 H locs ls hl hW hS hf
                rw [ej39] at hf
                obtain ⟨x40, ex40, hf⟩ := op_st hf
                refine z_ist (lv' := [(4, .int x40), (5, .int q15.2), (0, .ref a_1), (1, .ref a_2), (3, .int i_4)]) ex40 hx hb dL_alike_350 hl (by decide) rfl (fun ls hl => ?_)
                obtain ⟨x41, ex41, hf⟩ := op_st hf
                refine lv_iinc (v := x41) (lv' := [(5, .int x41), (4, .int x40), (0, .ref a_1), (1, .ref a_2), (3, .int i_4)]) hx hb dL_alike_352 hl (k := 1) rfl (by rw [ex41]; rfl) (by decide) rfl (fun ls hl => ?_)
                refine lv_goto (tgt := 222) hx hb dL_alike_355 (by decide) ?_
                have hf := zr_l hf hr19
                refine W.widen (k := cv21 + 12) (n := sv22 + 72) (by omega) (by omega) ?_
                exact ih18 (x40, x41) H locs ls (cv21 + 12) (sv22 + 72) (by omega) (by omega) (lv_sub hl [0, 1, 2, 3, 4] rfl) hW hS hf
              obtain ⟨j42, ej42, hf⟩ := op_st hf
              have hj42 : ∀ (u_ : Unit) (H : Heap) (locs : List Loc) (ls : Array Slot), lv_has ls 7 [(5, .int q15.2), (0, .ref a_1), (1, .ref a_2), (3, .int i_4)] → (W2 Γ a_1 a_2 M M (nC Γ qn I :: X)) H → va_S (zA Γ) s.heap H locs → j42 () = some r16 → W p l e (headSpec wsL_alike rmL_alike).room s m args below meth c H locs (cv21 + 12) (sv22 + 72) (MQ below (GQ Γ (W2 Γ a_1 a_2 M M (nC Γ qn I :: X)) (some (.int y))) args s 834 5004 (zA Γ)) (F0 m 349 ls []) := by
                intro u_ H locs ls hl hW hS hf
                rw [ej42] at hf
                refine lv_iconst (v := (0)) hx hb dL_alike_349 (by decide) ?_
                refine W.widen (k := (cv21 + 12)) (n := (sv22 + 72)) (by omega) (by omega) ?_
                exact hj39 (0 : Int32) H locs ls (lv_sub hl [0, 1, 2, 3] rfl) hW hS hf
              refine lv_icmp_ne (tgt := 349) hx hb dL_alike_248 (by decide) (fun k248 => ?_) (fun k248 => ?_)
              · have hf := (op_if hf).2 k248
                refine W.widen (k := (cv21 + 12)) (n := (sv22 + 72)) (by omega) (by omega) ?_
                exact hj42 () H locs ls (lv_sub hl [0, 2, 3, 4] rfl) hW hS hf
              have hf := (op_if hf).1 k248
              refine lv_aload_n hx hb dL_alike_251 rfl (lv_at hl 2 rfl) ?_
              refine lv_iload hx hb dL_alike_252 (lv_at hl 0 rfl) ?_
              refine g_callW (As := [.ref a_1, .int q15.2]) (rest := []) ⟨hx, hb, hml, hown, hts⟩ (g2l (fun X => (aL_balls l hl0 Γ a_1 M X q15.2))) (vx_cwSW 2 hts gL_alike_L_balls rfl rfl rfl (by decide +kernel) ⟨Nat.le_of_ble_eq_true rfl, Nat.le_of_ble_eq_true rfl⟩) hKK hKX hKY hKN hW hS rfl hl.1 rfl (Nat.le_of_ble_eq_true rfl) dL_alike_254 ⟨(by show _ + _ ≤ 834; omega), (by show _ + _ ≤ 5004; omega)⟩ (fun H locs hW hS => ?_)
              refine lv_aload_n hx hb dL_alike_257 rfl (lv_at hl 3 rfl) ?_
              refine lv_iload hx hb dL_alike_258 (lv_at hl 0 rfl) ?_
              refine g_callW (As := [.ref a_2, .int q15.2]) (rest := [.int (A_balls M q15.2)]) ⟨hx, hb, hml, hown, hts⟩ (g2r (fun X => (aL_balls l hl0 Γ a_2 M X q15.2))) (vx_cwSW 2 hts gL_alike_L_balls rfl rfl rfl (by decide +kernel) ⟨Nat.le_of_ble_eq_true rfl, Nat.le_of_ble_eq_true rfl⟩) hKK hKX hKY hKN hW hS rfl hl.1 rfl (Nat.le_of_ble_eq_true rfl) dL_alike_260 ⟨(by show _ + _ ≤ 834; omega), (by show _ + _ ≤ 5004; omega)⟩ (fun H locs hW hS => ?_)
              refine lv_icmp_ne (tgt := 349) hx hb dL_alike_263 (by decide) (fun k263 => ?_) (fun k263 => ?_)
              · have hf := (op_if hf).2 k263
                refine W.widen (k := (cv21 + 12)) (n := (sv22 + 72)) (by omega) (by omega) ?_
                exact hj42 () H locs ls (lv_sub hl [0, 2, 3, 4] rfl) hW hS hf
              have hf := (op_if hf).1 k263
              refine lv_aload_n hx hb dL_alike_266 rfl (lv_at hl 2 rfl) ?_
              refine lv_iload hx hb dL_alike_267 (lv_at hl 0 rfl) ?_
              refine g_callW (As := [.ref a_1, .int q15.2]) (rest := []) ⟨hx, hb, hml, hown, hts⟩ (g2l (fun X => (aL_stack l hl0 Γ a_1 M X q15.2))) (vx_cwSW 2 hts gL_alike_L_stack rfl rfl rfl (by decide +kernel) ⟨Nat.le_of_ble_eq_true rfl, Nat.le_of_ble_eq_true rfl⟩) hKK hKX hKY hKN hW hS rfl hl.1 rfl (Nat.le_of_ble_eq_true rfl) dL_alike_269 ⟨(by show _ + _ ≤ 834; omega), (by show _ + _ ≤ 5004; omega)⟩ (fun H locs hW hS => ?_)
              refine lv_aload_n hx hb dL_alike_272 rfl (lv_at hl 3 rfl) ?_
              refine lv_iload hx hb dL_alike_273 (lv_at hl 0 rfl) ?_
              refine g_callW (As := [.ref a_2, .int q15.2]) (rest := [.int (A_stack M q15.2)]) ⟨hx, hb, hml, hown, hts⟩ (g2r (fun X => (aL_stack l hl0 Γ a_2 M X q15.2))) (vx_cwSW 2 hts gL_alike_L_stack rfl rfl rfl (by decide +kernel) ⟨Nat.le_of_ble_eq_true rfl, Nat.le_of_ble_eq_true rfl⟩) hKK hKX hKY hKN hW hS rfl hl.1 rfl (Nat.le_of_ble_eq_true rfl) dL_alike_275 ⟨(by show _ + _ ≤ 834; omega), (by show _ + _ ≤ 5004; omega)⟩ (fun H locs hW hS => ?_)
              refine lv_icmp_ne (tgt := 349) hx hb dL_alike_278 (by decide) (fun k278 => ?_) (fun k278 => ?_)
              · have hf := (op_if hf).2 k278
                refine W.widen (k := (cv21 + 12)) (n := (sv22 + 72)) (by omega) (by omega) ?_
                exact hj42 () H locs ls (lv_sub hl [0, 2, 3, 4] rfl) hW hS hf
              have hf := (op_if hf).1 k278
              refine lv_iload hx hb dL_alike_281 (lv_at hl 0 rfl) ?_
              refine lv_iconst (v := (4)) hx hb dL_alike_283 (by decide) ?_
              refine lv_irem hx hb dL_alike_284 (by decide) ?_
              refine lv_iload_n hx hb dL_alike_285 rfl (lv_at hl 4 rfl) ?_
              refine lv_iconst (v := (4)) hx hb dL_alike_286 (by decide) ?_
              refine lv_irem hx hb dL_alike_287 (by decide) ?_
              obtain ⟨j43, ej43, hf⟩ := op_st hf
              have hj43 : ∀ (u_ : Unit) (H : Heap) (locs : List Loc) (ls : Array Slot), lv_has ls 7 [(5, .int q15.2), (0, .ref a_1), (1, .ref a_2), (3, .int i_4)] → (W2 Γ a_1 a_2 M M (nC Γ qn I :: X)) H → va_S (zA Γ) s.heap H locs → j43 () = some r16 → W p l e (headSpec wsL_alike rmL_alike).room s m args below meth c H locs (cv21 + 12) (sv22 + 72) (MQ below (GQ Γ (W2 Γ a_1 a_2 M M (nC Γ qn I :: X)) (some (.int y))) args s 834 5004 (zA Γ)) (F0 m 345 ls []) := by
                intro u_ H locs ls hl hW hS hf
                rw [ej43] at hf
                refine lv_iconst (v := (1)) hx hb dL_alike_345 (by decide) ?_
                refine lv_goto (tgt := 350) hx hb dL_alike_346 (by decide) ?_
                refine W.widen (k := (cv21 + 12)) (n := (sv22 + 72)) (by omega) (by omega) ?_
                exact hj39 (1 : Int32) H locs ls (lv_sub hl [0, 1, 2, 3] rfl) hW hS hf
              refine lv_icmp_ne (tgt := 345) hx hb dL_alike_288 (by decide) (fun k288 => ?_) (fun k288 => ?_)
              · have hf := (op_if hf).2 k288
                refine W.widen (k := (cv21 + 12)) (n := (sv22 + 72)) (by omega) (by omega) ?_
                exact hj43 () H locs ls (lv_sub hl [0, 2, 3, 4] rfl) hW hS hf
              have hf := (op_if hf).1 k288
              refine lv_aload_n hx hb dL_alike_291 rfl (lv_at hl 2 rfl) ?_
              refine lv_iload hx hb dL_alike_292 (lv_at hl 0 rfl) ?_
              refine g_callW (As := [.ref a_1, .int q15.2]) (rest := []) ⟨hx, hb, hml, hown, hts⟩ (g2l (fun X => (aL_logged l hl0 Γ a_1 M X q15.2))) (vx_cwSW 2 hts gL_alike_L_logged rfl rfl rfl (by decide +kernel) ⟨Nat.le_of_ble_eq_true rfl, Nat.le_of_ble_eq_true rfl⟩) hKK hKX hKY hKN hW hS rfl hl.1 rfl (Nat.le_of_ble_eq_true rfl) dL_alike_294 ⟨(by show _ + _ ≤ 834; omega), (by show _ + _ ≤ 5004; omega)⟩ (fun H locs hW hS => ?_)
              refine lv_aload_n hx hb dL_alike_297 rfl (lv_at hl 3 rfl) ?_
              refine lv_iload hx hb dL_alike_298 (lv_at hl 0 rfl) ?_
              refine g_callW (As := [.ref a_2, .int q15.2]) (rest := [.int (A_logged M q15.2)]) ⟨hx, hb, hml, hown, hts⟩ (g2r (fun X => (aL_logged l hl0 Γ a_2 M X q15.2))) (vx_cwSW 2 hts gL_alike_L_logged rfl rfl rfl (by decide +kernel) ⟨Nat.le_of_ble_eq_true rfl, Nat.le_of_ble_eq_true rfl⟩) hKK hKX hKY hKN hW hS rfl hl.1 rfl (Nat.le_of_ble_eq_true rfl) dL_alike_300 ⟨(by show _ + _ ≤ 834; omega), (by show _ + _ ≤ 5004; omega)⟩ (fun H locs hW hS => ?_)
              refine lv_icmp_ne (tgt := 349) hx hb dL_alike_303 (by decide) (fun k303 => ?_) (fun k303 => ?_)
              · have hf := (op_if hf).2 k303
                refine W.widen (k := (cv21 + 12)) (n := (sv22 + 72)) (by omega) (by omega) ?_
                exact hj42 () H locs ls (lv_sub hl [0, 2, 3, 4] rfl) hW hS hf
              have hf := (op_if hf).1 k303
              refine lv_aload_n hx hb dL_alike_306 rfl (lv_at hl 2 rfl) ?_
              refine lv_iload hx hb dL_alike_307 (lv_at hl 0 rfl) ?_
              refine lv_iload_n hx hb dL_alike_309 rfl (lv_at hl 4 rfl) ?_
              refine lv_bipush (v := (50)) hx hb dL_alike_310 (by decide) ?_
              refine lv_irem hx hb dL_alike_312 (by decide) ?_
              refine g_callW (As := [.ref a_1, .int q15.2, .int (i_4 - i_4 / (50 : Int32) * (50 : Int32))]) (rest := []) ⟨hx, hb, hml, hown, hts⟩ (g2l (fun X => (aL_entry l hl0 Γ a_1 M X q15.2 (i_4 - i_4 / (50 : Int32) * (50 : Int32))))) (vx_cwSW 3 hts gL_alike_L_entry rfl rfl rfl (by decide +kernel) ⟨Nat.le_of_ble_eq_true rfl, Nat.le_of_ble_eq_true rfl⟩) hKK hKX hKY hKN hW hS rfl hl.1 rfl (Nat.le_of_ble_eq_true rfl) dL_alike_313 ⟨(by show _ + _ ≤ 834; omega), (by show _ + _ ≤ 5004; omega)⟩ (fun H locs hW hS => ?_)
              refine lv_aload_n hx hb dL_alike_316 rfl (lv_at hl 3 rfl) ?_
              refine lv_iload hx hb dL_alike_317 (lv_at hl 0 rfl) ?_
              refine lv_iload_n hx hb dL_alike_319 rfl (lv_at hl 4 rfl) ?_
              refine lv_bipush (v := (50)) hx hb dL_alike_320 (by decide) ?_
              refine lv_irem hx hb dL_alike_322 (by decide) ?_
              refine g_callW (As := [.ref a_2, .int q15.2, .int (i_4 - i_4 / (50 : Int32) * (50 : Int32))]) (rest := [.long (A_entry M q15.2 (i_4 - i_4 / (50 : Int32) * (50 : Int32)))]) ⟨hx, hb, hml, hown, hts⟩ (g2r (fun X => (aL_entry l hl0 Γ a_2 M X q15.2 (i_4 - i_4 / (50 : Int32) * (50 : Int32))))) (vx_cwSW 3 hts gL_alike_L_entry rfl rfl rfl (by decide +kernel) ⟨Nat.le_of_ble_eq_true rfl, Nat.le_of_ble_eq_true rfl⟩) hKK hKX hKY hKN hW hS rfl hl.1 rfl (Nat.le_of_ble_eq_true rfl) dL_alike_323 ⟨(by show _ + _ ≤ 834; omega), (by show _ + _ ≤ 5004; omega)⟩ (fun H locs hW hS => ?_)
              refine W.lcmp hx hb dL_alike_326 ?_
              refine lv_if_ne (tgt := 349) hx hb dL_alike_327 (by decide) (fun k327 => ?_) (fun k327 => ?_)
              · have hf := (op_if hf).2 k327
                refine W.widen (k := (cv21 + 12)) (n := (sv22 + 72)) (by omega) (by omega) ?_
                exact hj42 () H locs ls (lv_sub hl [0, 2, 3, 4] rfl) hW hS hf
              have hf := (op_if hf).1 k327
              refine lv_aload_n hx hb dL_alike_330 rfl (lv_at hl 2 rfl) ?_
              refine lv_iload hx hb dL_alike_331 (lv_at hl 0 rfl) ?_
              refine g_callW (As := [.ref a_1, .int q15.2]) (rest := []) ⟨hx, hb, hml, hown, hts⟩ (g2l (fun X => (aL_valid l hl0 Γ a_1 M X q15.2))) (vx_cwSW 2 hts gL_alike_L_valid rfl rfl rfl (by decide +kernel) ⟨Nat.le_of_ble_eq_true rfl, Nat.le_of_ble_eq_true rfl⟩) hKK hKX hKY hKN hW hS rfl hl.1 rfl (Nat.le_of_ble_eq_true rfl) dL_alike_333 ⟨(by show _ + _ ≤ 834; omega), (by show _ + _ ≤ 5004; omega)⟩ (fun H locs hW hS => ?_)
              refine lv_aload_n hx hb dL_alike_336 rfl (lv_at hl 3 rfl) ?_
              refine lv_iload hx hb dL_alike_337 (lv_at hl 0 rfl) ?_
              refine g_callW (As := [.ref a_2, .int q15.2]) (rest := [.int (A_valid M q15.2)]) ⟨hx, hb, hml, hown, hts⟩ (g2r (fun X => (aL_valid l hl0 Γ a_2 M X q15.2))) (vx_cwSW 2 hts gL_alike_L_valid rfl rfl rfl (by decide +kernel) ⟨Nat.le_of_ble_eq_true rfl, Nat.le_of_ble_eq_true rfl⟩) hKK hKX hKY hKN hW hS rfl hl.1 rfl (Nat.le_of_ble_eq_true rfl) dL_alike_339 ⟨(by show _ + _ ≤ 834; omega), (by show _ + _ ≤ 5004; omega)⟩ (fun H locs hW hS => ?_)
              refine lv_icmp_ne (tgt := 349) hx hb dL_alike_342 (by decide) (fun k342 => ?_) (fun k342 => ?_)
              · have hf := (op_if hf).2 k342
                refine W.widen (k := (cv21 + 12)) (n := (sv22 + 72)) (by omega) (by omega) ?_
                exact hj42 () H locs ls (lv_sub hl [0, 2, 3, 4] rfl) hW hS hf
              have hf := (op_if hf).1 k342
              refine W.widen (k := (cv21 + 12)) (n := (sv22 + 72)) (by omega) (by omega) ?_
              exact hj43 () H locs ls (lv_sub hl [0, 2, 3, 4] rfl) hW hS hf
          rw [eq150] at hf
          refine W.widen (k := 312) (n := 1872) (by omega) (by omega) ?_
          exact hw17 41 (q5.1, x14) H locs ls 312 1872 (by omega) (by omega) (lv_sub hl [0, 1, 2, 3, 4] rfl) hW hS hf
        refine lv_icmp_ge (tgt := 219) hx hb dL_alike_64 (by decide) (fun k64 => ?_) (fun k64 => ?_)
        · have hf := (op_if hf).1 k64
          refine W.widen (k := 312) (n := 1872) (by omega) (by omega) ?_
          refine W.widen (k := 312) (n := 1872) (by omega) (by omega) ?_
          exact hj13 () H locs ls (lv_sub hl [1, 2, 3, 5] rfl) hW hS hf
        have hf := (op_if hf).2 k64
        refine lv_iload hx hb dL_alike_67 (lv_at hl 1 rfl) ?_
        refine lv_if_eq (tgt := 219) hx hb dL_alike_69 (by decide) (fun k69 => ?_) (fun k69 => ?_)
        · have hf := (op_if hf).1 k69
          refine W.widen (k := 312) (n := 1872) (by omega) (by omega) ?_
          refine W.widen (k := 312) (n := 1872) (by omega) (by omega) ?_
          exact hj13 () H locs ls (lv_sub hl [1, 2, 3, 5] rfl) hW hS hf
        have hf := (op_if hf).2 k69
        refine lv_aload_n hx hb dL_alike_72 rfl (lv_at hl 2 rfl) ?_
        refine lv_iload hx hb dL_alike_73 (lv_at hl 0 rfl) ?_
        refine g_callW (As := [.ref a_1, .int q5.2]) (rest := []) ⟨hx, hb, hml, hown, hts⟩ (g2l (fun X => (aL_gameAt l hl0 Γ a_1 M X q5.2))) (vx_cwSW 2 hts gL_alike_L_gameAt rfl rfl rfl (by decide +kernel) ⟨Nat.le_of_ble_eq_true rfl, Nat.le_of_ble_eq_true rfl⟩) hKK hKX hKY hKN hW hS rfl hl.1 rfl (Nat.le_of_ble_eq_true rfl) dL_alike_75 ⟨(by show _ + _ ≤ 834; omega), (by show _ + _ ≤ 5004; omega)⟩ (fun H locs hW hS => ?_)
        refine lv_aload_n hx hb dL_alike_78 rfl (lv_at hl 3 rfl) ?_
        refine lv_iload hx hb dL_alike_79 (lv_at hl 0 rfl) ?_
        refine g_callW (As := [.ref a_2, .int q5.2]) (rest := [.int (A_gameAt M q5.2)]) ⟨hx, hb, hml, hown, hts⟩ (g2r (fun X => (aL_gameAt l hl0 Γ a_2 M X q5.2))) (vx_cwSW 2 hts gL_alike_L_gameAt rfl rfl rfl (by decide +kernel) ⟨Nat.le_of_ble_eq_true rfl, Nat.le_of_ble_eq_true rfl⟩) hKK hKX hKY hKN hW hS rfl hl.1 rfl (Nat.le_of_ble_eq_true rfl) dL_alike_81 ⟨(by show _ + _ ≤ 834; omega), (by show _ + _ ≤ 5004; omega)⟩ (fun H locs hW hS => ?_)
        obtain ⟨j45, ej45, hf⟩ := op_st hf
        have hj45 : ∀ (y44 : Int32) (H : Heap) (locs : List Loc) (ls : Array Slot), lv_has ls 7 [(5, .int q5.2), (0, .ref a_1), (1, .ref a_2), (2, .ref qn), (3, .int i_4)] → (W2 Γ a_1 a_2 M M (nC Γ qn I :: X)) H → va_S (zA Γ) s.heap H locs → j45 y44 = some r6 → W p l e (headSpec wsL_alike rmL_alike).room s m args below meth c H locs (cv11 + 8) (sv12 + 48) (MQ below (GQ Γ (W2 Γ a_1 a_2 M M (nC Γ qn I :: X)) (some (.int y))) args s 834 5004 (zA Γ)) (F0 m 143 ls [.int y44]) := by
          intro y44 H locs ls hl hW hS hf
          rw [ej45] at hf
          obtain ⟨x46, ex46, hf⟩ := op_st hf
          refine z_ist (lv' := [(4, .int x46), (5, .int q5.2), (0, .ref a_1), (1, .ref a_2), (2, .ref qn), (3, .int i_4)]) ex46 hx hb dL_alike_143 hl (by decide) rfl (fun ls hl => ?_)
          refine lv_iconst (v := (0)) hx hb dL_alike_145 (by decide) ?_
          obtain ⟨x47, ex47, hf⟩ := op_st hf
          refine z_ist (lv' := [(6, .int x47), (4, .int x46), (5, .int q5.2), (0, .ref a_1), (1, .ref a_2), (2, .ref qn), (3, .int i_4)]) ex47 hx hb dL_alike_146 hl (by decide) rfl (fun ls hl => ?_)
          obtain ⟨w50, q480, ew50, eq480, hf⟩ := op_lb hf
          have hw50 : ∀ n53 : Nat, ∀ (q48 : (Int32 × Int32)) (H : Heap) (locs : List Loc) (ls : Array Slot) (cv54 sv55 : Nat), cv54 + n53 * 4 ≤ (cv11 + 44) → sv55 + n53 * 24 ≤ (sv12 + 264) → lv_has ls 7 [(6, .int q48.2), (4, .int q48.1), (5, .int q5.2), (0, .ref a_1), (1, .ref a_2), (2, .ref qn), (3, .int i_4)] → (W2 Γ a_1 a_2 M M (nC Γ qn I :: X)) H → va_S (zA Γ) s.heap H locs → lp w50 n53 q48 = some r6 → W p l e (headSpec wsL_alike rmL_alike).room s m args below meth c H locs cv54 sv55 (MQ below (GQ Γ (W2 Γ a_1 a_2 M M (nC Γ qn I :: X)) (some (.int y))) args s 834 5004 (zA Γ)) (F0 m 148 ls []) := by
            intro n53
            induction n53 with
            | zero => intro q48 H locs ls cv54 sv55 hcv hsv hl hW hS hf; cases hf
            | succ n53 ih51 =>
              intro q48 H locs ls cv54 sv55 hcvcv54 hsvsv55 hl hW hS hf
              obtain ⟨n_, r49, hn_, hf, hr52⟩ := op_lq hf
              cases hn_
              rw [ew50] at hf
              refine lv_iload hx hb dL_alike_148 (lv_at hl 0 rfl) ?_
              refine lv_aload_n hx hb dL_alike_150 rfl (lv_at hl 5 rfl) ?_
              refine lv_iload hx hb dL_alike_151 (lv_at hl 2 rfl) ?_
              obtain ⟨h153, hf⟩ := op_gd hf
              refine va_iald hx hb hKK.1 (w2_n hW) 0 0 (n := 14) rfl rfl h153 dL_alike_153 ?_
              obtain ⟨j56, ej56, hf⟩ := op_st hf
              have hj56 : ∀ (u_ : Unit) (H : Heap) (locs : List Loc) (ls : Array Slot), lv_has ls 7 [(4, .int q48.1), (5, .int q5.2), (0, .ref a_1), (1, .ref a_2), (2, .ref qn), (3, .int i_4)] → (W2 Γ a_1 a_2 M M (nC Γ qn I :: X)) H → va_S (zA Γ) s.heap H locs → j56 () = some r49 → W p l e (headSpec wsL_alike rmL_alike).room s m args below meth c H locs (cv11 + 44) (sv12 + 264) (MQ below (GQ Γ (W2 Γ a_1 a_2 M M (nC Γ qn I :: X)) (some (.int y))) args s 834 5004 (zA Γ)) (F0 m 213 ls []) := by
                intro u_ H locs ls hl hW hS hf
                rw [ej56] at hf
                obtain ⟨x57, ex57, hf⟩ := op_st hf
                refine lv_iinc (v := x57) (lv' := [(5, .int x57), (4, .int q48.1), (0, .ref a_1), (1, .ref a_2), (2, .ref qn), (3, .int i_4)]) hx hb dL_alike_213 hl (k := 1) rfl (by rw [ex57]; rfl) (by decide) rfl (fun ls hl => ?_)
                refine lv_goto (tgt := 58) hx hb dL_alike_216 (by decide) ?_
                have hf := congrArg some (zr_r hf hr52)
                have hf := zr_l hf hr9
                refine W.widen (k := cv11 + 44) (n := sv12 + 264) (by omega) (by omega) ?_
                exact ih8 (q48.1, x57) H locs ls (cv11 + 44) (sv12 + 264) (by omega) (by omega) (lv_sub hl [0, 1, 2, 3, 4, 5] rfl) hW hS hf
              refine lv_icmp_ge (tgt := 213) hx hb dL_alike_154 (by decide) (fun k154 => ?_) (fun k154 => ?_)
              · have hf := (op_if hf).1 k154
                refine W.widen (k := (cv11 + 44)) (n := (sv12 + 264)) (by omega) (by omega) ?_
                refine W.widen (k := (cv11 + 44)) (n := (sv12 + 264)) (by omega) (by omega) ?_
                exact hj56 () H locs ls (lv_sub hl [1, 2, 3, 4, 5, 6] rfl) hW hS hf
              have hf := (op_if hf).2 k154
              refine lv_iload hx hb dL_alike_157 (lv_at hl 1 rfl) ?_
              refine lv_if_eq (tgt := 213) hx hb dL_alike_159 (by decide) (fun k159 => ?_) (fun k159 => ?_)
              · have hf := (op_if hf).1 k159
                refine W.widen (k := (cv11 + 44)) (n := (sv12 + 264)) (by omega) (by omega) ?_
                refine W.widen (k := (cv11 + 44)) (n := (sv12 + 264)) (by omega) (by omega) ?_
                exact hj56 () H locs ls (lv_sub hl [1, 2, 3, 4, 5, 6] rfl) hW hS hf
              have hf := (op_if hf).2 k159
              refine lv_aload_n hx hb dL_alike_162 rfl (lv_at hl 3 rfl) ?_
              refine lv_iload hx hb dL_alike_163 (lv_at hl 2 rfl) ?_
              refine lv_iload hx hb dL_alike_165 (lv_at hl 0 rfl) ?_
              refine g_callW (As := [.ref a_1, .int q5.2, .int q48.2]) (rest := []) ⟨hx, hb, hml, hown, hts⟩ (g2l (fun X => (aL_wear l hl0 Γ a_1 M X q5.2 q48.2))) (vx_cwSW 3 hts gL_alike_L_wear rfl rfl rfl (by decide +kernel) ⟨Nat.le_of_ble_eq_true rfl, Nat.le_of_ble_eq_true rfl⟩) hKK hKX hKY hKN hW hS rfl hl.1 rfl (Nat.le_of_ble_eq_true rfl) dL_alike_167 ⟨(by show _ + _ ≤ 834; omega), (by show _ + _ ≤ 5004; omega)⟩ (fun H locs hW hS => ?_)
              refine lv_aload_n hx hb dL_alike_170 rfl (lv_at hl 4 rfl) ?_
              refine lv_iload hx hb dL_alike_171 (lv_at hl 2 rfl) ?_
              refine lv_iload hx hb dL_alike_173 (lv_at hl 0 rfl) ?_
              refine g_callW (As := [.ref a_2, .int q5.2, .int q48.2]) (rest := [.int (A_wear M q5.2 q48.2)]) ⟨hx, hb, hml, hown, hts⟩ (g2r (fun X => (aL_wear l hl0 Γ a_2 M X q5.2 q48.2))) (vx_cwSW 3 hts gL_alike_L_wear rfl rfl rfl (by decide +kernel) ⟨Nat.le_of_ble_eq_true rfl, Nat.le_of_ble_eq_true rfl⟩) hKK hKX hKY hKN hW hS rfl hl.1 rfl (Nat.le_of_ble_eq_true rfl) dL_alike_175 ⟨(by show _ + _ ≤ 834; omega), (by show _ + _ ≤ 5004; omega)⟩ (fun H locs hW hS => ?_)
              obtain ⟨j59, ej59, hf⟩ := op_st hf
              have hj59 : ∀ (y58 : Int32) (H : Heap) (locs : List Loc) (ls : Array Slot), lv_has ls 7 [(6, .int q48.2), (5, .int q5.2), (0, .ref a_1), (1, .ref a_2), (2, .ref qn), (3, .int i_4)] → (W2 Γ a_1 a_2 M M (nC Γ qn I :: X)) H → va_S (zA Γ) s.heap H locs → j59 y58 = some r49 → W p l e (headSpec wsL_alike rmL_alike).room s m args below meth c H locs (cv54 + 4) (sv55 + 24) (MQ below (GQ Γ (W2 Γ a_1 a_2 M M (nC Γ qn I :: X)) (some (.int y))) args s 834 5004 (zA Γ)) (F0 m 205 ls [.int y58]) := by
                intro y58 H locs ls hl hW hS hf
                rw [ej59] at hf
                obtain ⟨x60, ex60, hf⟩ := op_st hf
                refine z_ist (lv' := [(4, .int x60), (6, .int q48.2), (5, .int q5.2), (0, .ref a_1), (1, .ref a_2), (2, .ref qn), (3, .int i_4)]) ex60 hx hb dL_alike_205 hl (by decide) rfl (fun ls hl => ?_)
                obtain ⟨x61, ex61, hf⟩ := op_st hf
                refine lv_iinc (v := x61) (lv' := [(6, .int x61), (4, .int x60), (5, .int q5.2), (0, .ref a_1), (1, .ref a_2), (2, .ref qn), (3, .int i_4)]) hx hb dL_alike_207 hl (k := 1) rfl (by rw [ex61]; rfl) (by decide) rfl (fun ls hl => ?_)
                refine lv_goto (tgt := 148) hx hb dL_alike_210 (by decide) ?_
                have hf := zr_l hf hr52
                refine W.widen (k := cv54 + 4) (n := sv55 + 24) (by omega) (by omega) ?_
                exact ih51 (x60, x61) H locs ls (cv54 + 4) (sv55 + 24) (by omega) (by omega) (lv_sub hl [0, 1, 2, 3, 4, 5, 6] rfl) hW hS hf
              obtain ⟨j62, ej62, hf⟩ := op_st hf
              have hj62 : ∀ (u_ : Unit) (H : Heap) (locs : List Loc) (ls : Array Slot), lv_has ls 7 [(6, .int q48.2), (5, .int q5.2), (0, .ref a_1), (1, .ref a_2), (2, .ref qn), (3, .int i_4)] → (W2 Γ a_1 a_2 M M (nC Γ qn I :: X)) H → va_S (zA Γ) s.heap H locs → j62 () = some r49 → W p l e (headSpec wsL_alike rmL_alike).room s m args below meth c H locs (cv54 + 4) (sv55 + 24) (MQ below (GQ Γ (W2 Γ a_1 a_2 M M (nC Γ qn I :: X)) (some (.int y))) args s 834 5004 (zA Γ)) (F0 m 204 ls []) := by
                intro u_ H locs ls hl hW hS hf
                rw [ej62] at hf
                refine lv_iconst (v := (0)) hx hb dL_alike_204 (by decide) ?_
                refine W.widen (k := (cv54 + 4)) (n := (sv55 + 24)) (by omega) (by omega) ?_
                exact hj59 (0 : Int32) H locs ls (lv_sub hl [0, 1, 2, 3, 4, 5] rfl) hW hS hf
              refine lv_icmp_ne (tgt := 204) hx hb dL_alike_178 (by decide) (fun k178 => ?_) (fun k178 => ?_)
              · have hf := (op_if hf).2 k178
                refine W.widen (k := (cv54 + 4)) (n := (sv55 + 24)) (by omega) (by omega) ?_
                exact hj62 () H locs ls (lv_sub hl [0, 2, 3, 4, 5, 6] rfl) hW hS hf
              have hf := (op_if hf).1 k178
              refine lv_aload_n hx hb dL_alike_181 rfl (lv_at hl 3 rfl) ?_
              refine lv_iload hx hb dL_alike_182 (lv_at hl 2 rfl) ?_
              refine lv_iload hx hb dL_alike_184 (lv_at hl 0 rfl) ?_
              refine g_callW (As := [.ref a_1, .int q5.2, .int q48.2]) (rest := []) ⟨hx, hb, hml, hown, hts⟩ (g2l (fun X => (aL_sticks l hl0 Γ a_1 M X q5.2 q48.2))) (vx_cwSW 3 hts gL_alike_L_sticks rfl rfl rfl (by decide +kernel) ⟨Nat.le_of_ble_eq_true rfl, Nat.le_of_ble_eq_true rfl⟩) hKK hKX hKY hKN hW hS rfl hl.1 rfl (Nat.le_of_ble_eq_true rfl) dL_alike_186 ⟨(by show _ + _ ≤ 834; omega), (by show _ + _ ≤ 5004; omega)⟩ (fun H locs hW hS => ?_)
              refine lv_aload_n hx hb dL_alike_189 rfl (lv_at hl 4 rfl) ?_
              refine lv_iload hx hb dL_alike_190 (lv_at hl 2 rfl) ?_
              refine lv_iload hx hb dL_alike_192 (lv_at hl 0 rfl) ?_
              refine g_callW (As := [.ref a_2, .int q5.2, .int q48.2]) (rest := [.int (A_sticks M q5.2 q48.2)]) ⟨hx, hb, hml, hown, hts⟩ (g2r (fun X => (aL_sticks l hl0 Γ a_2 M X q5.2 q48.2))) (vx_cwSW 3 hts gL_alike_L_sticks rfl rfl rfl (by decide +kernel) ⟨Nat.le_of_ble_eq_true rfl, Nat.le_of_ble_eq_true rfl⟩) hKK hKX hKY hKN hW hS rfl hl.1 rfl (Nat.le_of_ble_eq_true rfl) dL_alike_194 ⟨(by show _ + _ ≤ 834; omega), (by show _ + _ ≤ 5004; omega)⟩ (fun H locs hW hS => ?_)
              refine lv_icmp_ne (tgt := 204) hx hb dL_alike_197 (by decide) (fun k197 => ?_) (fun k197 => ?_)
              · have hf := (op_if hf).2 k197
                refine W.widen (k := (cv54 + 4)) (n := (sv55 + 24)) (by omega) (by omega) ?_
                exact hj62 () H locs ls (lv_sub hl [0, 2, 3, 4, 5, 6] rfl) hW hS hf
              have hf := (op_if hf).1 k197
              refine lv_iconst (v := (1)) hx hb dL_alike_200 (by decide) ?_
              refine lv_goto (tgt := 205) hx hb dL_alike_201 (by decide) ?_
              refine W.widen (k := (cv54 + 4)) (n := (sv55 + 24)) (by omega) (by omega) ?_
              exact hj59 (1 : Int32) H locs ls (lv_sub hl [0, 2, 3, 4, 5, 6] rfl) hW hS hf
          rw [eq480] at hf
          refine W.widen (k := (cv11 + 8)) (n := (sv12 + 48)) (by omega) (by omega) ?_
          exact hw50 9 (x46, x47) H locs ls (cv11 + 8) (sv12 + 48) (by omega) (by omega) (lv_sub hl [0, 1, 2, 3, 4, 5, 6] rfl) hW hS hf
        obtain ⟨j63, ej63, hf⟩ := op_st hf
        have hj63 : ∀ (u_ : Unit) (H : Heap) (locs : List Loc) (ls : Array Slot), lv_has ls 7 [(5, .int q5.2), (0, .ref a_1), (1, .ref a_2), (2, .ref qn), (3, .int i_4)] → (W2 Γ a_1 a_2 M M (nC Γ qn I :: X)) H → va_S (zA Γ) s.heap H locs → j63 () = some r6 → W p l e (headSpec wsL_alike rmL_alike).room s m args below meth c H locs (cv11 + 8) (sv12 + 48) (MQ below (GQ Γ (W2 Γ a_1 a_2 M M (nC Γ qn I :: X)) (some (.int y))) args s 834 5004 (zA Γ)) (F0 m 142 ls []) := by
          intro u_ H locs ls hl hW hS hf
          rw [ej63] at hf
          refine lv_iconst (v := (0)) hx hb dL_alike_142 (by decide) ?_
          refine W.widen (k := (cv11 + 8)) (n := (sv12 + 48)) (by omega) (by omega) ?_
          exact hj45 (0 : Int32) H locs ls (lv_sub hl [0, 1, 2, 3, 4] rfl) hW hS hf
        refine lv_icmp_ne (tgt := 142) hx hb dL_alike_84 (by decide) (fun k84 => ?_) (fun k84 => ?_)
        · have hf := (op_if hf).2 k84
          refine W.widen (k := (cv11 + 8)) (n := (sv12 + 48)) (by omega) (by omega) ?_
          exact hj63 () H locs ls (lv_sub hl [0, 2, 3, 4, 5] rfl) hW hS hf
        have hf := (op_if hf).1 k84
        refine lv_aload_n hx hb dL_alike_87 rfl (lv_at hl 2 rfl) ?_
        refine lv_iload hx hb dL_alike_88 (lv_at hl 0 rfl) ?_
        refine g_callW (As := [.ref a_1, .int q5.2]) (rest := []) ⟨hx, hb, hml, hown, hts⟩ (g2l (fun X => (aL_box l hl0 Γ a_1 M X q5.2))) (vx_cwSW 2 hts gL_alike_L_box rfl rfl rfl (by decide +kernel) ⟨Nat.le_of_ble_eq_true rfl, Nat.le_of_ble_eq_true rfl⟩) hKK hKX hKY hKN hW hS rfl hl.1 rfl (Nat.le_of_ble_eq_true rfl) dL_alike_90 ⟨(by show _ + _ ≤ 834; omega), (by show _ + _ ≤ 5004; omega)⟩ (fun H locs hW hS => ?_)
        refine lv_aload_n hx hb dL_alike_93 rfl (lv_at hl 3 rfl) ?_
        refine lv_iload hx hb dL_alike_94 (lv_at hl 0 rfl) ?_
        refine g_callW (As := [.ref a_2, .int q5.2]) (rest := [.int (A_box M q5.2)]) ⟨hx, hb, hml, hown, hts⟩ (g2r (fun X => (aL_box l hl0 Γ a_2 M X q5.2))) (vx_cwSW 2 hts gL_alike_L_box rfl rfl rfl (by decide +kernel) ⟨Nat.le_of_ble_eq_true rfl, Nat.le_of_ble_eq_true rfl⟩) hKK hKX hKY hKN hW hS rfl hl.1 rfl (Nat.le_of_ble_eq_true rfl) dL_alike_96 ⟨(by show _ + _ ≤ 834; omega), (by show _ + _ ≤ 5004; omega)⟩ (fun H locs hW hS => ?_)
        refine lv_icmp_ne (tgt := 142) hx hb dL_alike_99 (by decide) (fun k99 => ?_) (fun k99 => ?_)
        · have hf := (op_if hf).2 k99
          refine W.widen (k := (cv11 + 8)) (n := (sv12 + 48)) (by omega) (by omega) ?_
          exact hj63 () H locs ls (lv_sub hl [0, 2, 3, 4, 5] rfl) hW hS hf
        have hf := (op_if hf).1 k99
        refine lv_aload_n hx hb dL_alike_102 rfl (lv_at hl 2 rfl) ?_
        refine lv_iload hx hb dL_alike_103 (lv_at hl 0 rfl) ?_
        refine g_callW (As := [.ref a_1, .int q5.2]) (rest := []) ⟨hx, hb, hml, hown, hts⟩ (g2l (fun X => (aL_missing l hl0 Γ a_1 M X q5.2))) (vx_cwSW 2 hts gL_alike_L_missing rfl rfl rfl (by decide +kernel) ⟨Nat.le_of_ble_eq_true rfl, Nat.le_of_ble_eq_true rfl⟩) hKK hKX hKY hKN hW hS rfl hl.1 rfl (Nat.le_of_ble_eq_true rfl) dL_alike_105 ⟨(by show _ + _ ≤ 834; omega), (by show _ + _ ≤ 5004; omega)⟩ (fun H locs hW hS => ?_)
        refine lv_aload_n hx hb dL_alike_108 rfl (lv_at hl 3 rfl) ?_
        refine lv_iload hx hb dL_alike_109 (lv_at hl 0 rfl) ?_
        refine g_callW (As := [.ref a_2, .int q5.2]) (rest := [.int (A_missing M q5.2)]) ⟨hx, hb, hml, hown, hts⟩ (g2r (fun X => (aL_missing l hl0 Γ a_2 M X q5.2))) (vx_cwSW 2 hts gL_alike_L_missing rfl rfl rfl (by decide +kernel) ⟨Nat.le_of_ble_eq_true rfl, Nat.le_of_ble_eq_true rfl⟩) hKK hKX hKY hKN hW hS rfl hl.1 rfl (Nat.le_of_ble_eq_true rfl) dL_alike_111 ⟨(by show _ + _ ≤ 834; omega), (by show _ + _ ≤ 5004; omega)⟩ (fun H locs hW hS => ?_)
        refine lv_icmp_ne (tgt := 142) hx hb dL_alike_114 (by decide) (fun k114 => ?_) (fun k114 => ?_)
        · have hf := (op_if hf).2 k114
          refine W.widen (k := (cv11 + 8)) (n := (sv12 + 48)) (by omega) (by omega) ?_
          exact hj63 () H locs ls (lv_sub hl [0, 2, 3, 4, 5] rfl) hW hS hf
        have hf := (op_if hf).1 k114
        refine lv_aload_n hx hb dL_alike_117 rfl (lv_at hl 2 rfl) ?_
        refine lv_iload hx hb dL_alike_118 (lv_at hl 0 rfl) ?_
        refine lv_iload_n hx hb dL_alike_120 rfl (lv_at hl 5 rfl) ?_
        refine lv_iconst (v := (3)) hx hb dL_alike_121 (by decide) ?_
        refine lv_irem hx hb dL_alike_122 (by decide) ?_
        refine g_callW (As := [.ref a_1, .int q5.2, .int (i_4 - i_4 / (3 : Int32) * (3 : Int32))]) (rest := []) ⟨hx, hb, hml, hown, hts⟩ (g2l (fun X => (aL_high l hl0 Γ a_1 M X q5.2 (i_4 - i_4 / (3 : Int32) * (3 : Int32))))) (vx_cwSW 3 hts gL_alike_L_high rfl rfl rfl (by decide +kernel) ⟨Nat.le_of_ble_eq_true rfl, Nat.le_of_ble_eq_true rfl⟩) hKK hKX hKY hKN hW hS rfl hl.1 rfl (Nat.le_of_ble_eq_true rfl) dL_alike_123 ⟨(by show _ + _ ≤ 834; omega), (by show _ + _ ≤ 5004; omega)⟩ (fun H locs hW hS => ?_)
        refine lv_aload_n hx hb dL_alike_126 rfl (lv_at hl 3 rfl) ?_
        refine lv_iload hx hb dL_alike_127 (lv_at hl 0 rfl) ?_
        refine lv_iload_n hx hb dL_alike_129 rfl (lv_at hl 5 rfl) ?_
        refine lv_iconst (v := (3)) hx hb dL_alike_130 (by decide) ?_
        refine lv_irem hx hb dL_alike_131 (by decide) ?_
        refine g_callW (As := [.ref a_2, .int q5.2, .int (i_4 - i_4 / (3 : Int32) * (3 : Int32))]) (rest := [.int (A_high M q5.2 (i_4 - i_4 / (3 : Int32) * (3 : Int32)))]) ⟨hx, hb, hml, hown, hts⟩ (g2r (fun X => (aL_high l hl0 Γ a_2 M X q5.2 (i_4 - i_4 / (3 : Int32) * (3 : Int32))))) (vx_cwSW 3 hts gL_alike_L_high rfl rfl rfl (by decide +kernel) ⟨Nat.le_of_ble_eq_true rfl, Nat.le_of_ble_eq_true rfl⟩) hKK hKX hKY hKN hW hS rfl hl.1 rfl (Nat.le_of_ble_eq_true rfl) dL_alike_132 ⟨(by show _ + _ ≤ 834; omega), (by show _ + _ ≤ 5004; omega)⟩ (fun H locs hW hS => ?_)
        refine lv_icmp_ne (tgt := 142) hx hb dL_alike_135 (by decide) (fun k135 => ?_) (fun k135 => ?_)
        · have hf := (op_if hf).2 k135
          refine W.widen (k := (cv11 + 8)) (n := (sv12 + 48)) (by omega) (by omega) ?_
          exact hj63 () H locs ls (lv_sub hl [0, 2, 3, 4, 5] rfl) hW hS hf
        have hf := (op_if hf).1 k135
        refine lv_iconst (v := (1)) hx hb dL_alike_138 (by decide) ?_
        refine lv_goto (tgt := 143) hx hb dL_alike_139 (by decide) ?_
        refine W.widen (k := (cv11 + 8)) (n := (sv12 + 48)) (by omega) (by omega) ?_
        exact hj45 (1 : Int32) H locs ls (lv_sub hl [0, 2, 3, 4, 5] rfl) hW hS hf
    rw [eq50] at hf
    refine W.widen (k := 4) (n := 24) (by omega) (by omega) ?_
    exact hw7 7 (x3, x4) H locs ls 4 24 (by omega) (by omega) (lv_sub hl [0, 1, 2, 3, 4, 5] rfl) hW hS hf
  obtain ⟨j64, ej64, hf⟩ := op_st hf
  have hj64 : ∀ (u_ : Unit) (H : Heap) (locs : List Loc) (ls : Array Slot), lv_has ls 7 [(0, .ref a_1), (1, .ref a_2), (2, .ref qn), (3, .int i_4)] → (W2 Γ a_1 a_2 M M (nC Γ qn I :: X)) H → va_S (zA Γ) s.heap H locs → j64 () = some y → W p l e (headSpec wsL_alike rmL_alike).room s m args below meth c H locs 4 24 (MQ below (GQ Γ (W2 Γ a_1 a_2 M M (nC Γ qn I :: X)) (some (.int y))) args s 834 5004 (zA Γ)) (F0 m 52 ls []) := by
    intro u_ H locs ls hl hW hS hf
    rw [ej64] at hf
    refine lv_iconst (v := (0)) hx hb dL_alike_52 (by decide) ?_
    refine W.widen (k := 4) (n := 24) (by omega) (by omega) ?_
    exact hj2 (0 : Int32) H locs ls (lv_sub hl [0, 1, 2, 3] rfl) hW hS hf
  refine lv_icmp_ne (tgt := 52) hx hb dL_alike_8 (by decide) (fun k8 => ?_) (fun k8 => ?_)
  · have hf := (op_if hf).2 k8
    refine W.widen (k := 4) (n := 24) (by omega) (by omega) ?_
    exact hj64 () H locs ls (lv_sub hl [0, 1, 2, 3] rfl) hW hS hf
  have hf := (op_if hf).1 k8
  refine lv_aload_n hx hb dL_alike_11 rfl (lv_at hl 0 rfl) ?_
  obtain ⟨fs_, hr_⟩ := (w2_rl hW)
  refine g_callV (As := []) (rest := []) ⟨hx, hb, hml, hown, hts⟩ (g2l (fun X => (aX_games l Γ a_1 M X ))) (cwV 0 hts gL_alike_X9_games rfl rfl rfl (by decide +kernel) ⟨Nat.le_of_ble_eq_true rfl, Nat.le_of_ble_eq_true rfl⟩) hr_ rfl hKK hKX hKY hKN hW hS rfl hl.1 rfl (Nat.le_of_ble_eq_true rfl) dL_alike_12 ⟨(by show _ + _ ≤ 834; omega), (by show _ + _ ≤ 5004; omega)⟩ (fun H locs hW hS => ?_)
  refine lv_aload_n hx hb dL_alike_15 rfl (lv_at hl 1 rfl) ?_
  obtain ⟨fs_, hr_⟩ := (w2_rr hW)
  refine g_callV (As := []) (rest := [.int (M 24 0)]) ⟨hx, hb, hml, hown, hts⟩ (g2r (fun X => (aX_games l Γ a_2 M X ))) (cwV 0 hts gL_alike_X9_games rfl rfl rfl (by decide +kernel) ⟨Nat.le_of_ble_eq_true rfl, Nat.le_of_ble_eq_true rfl⟩) hr_ rfl hKK hKX hKY hKN hW hS rfl hl.1 rfl (Nat.le_of_ble_eq_true rfl) dL_alike_16 ⟨(by show _ + _ ≤ 834; omega), (by show _ + _ ≤ 5004; omega)⟩ (fun H locs hW hS => ?_)
  refine lv_icmp_ne (tgt := 52) hx hb dL_alike_19 (by decide) (fun k19 => ?_) (fun k19 => ?_)
  · have hf := (op_if hf).2 k19
    refine W.widen (k := 4) (n := 24) (by omega) (by omega) ?_
    exact hj64 () H locs ls (lv_sub hl [0, 1, 2, 3] rfl) hW hS hf
  have hf := (op_if hf).1 k19
  refine lv_aload_n hx hb dL_alike_22 rfl (lv_at hl 0 rfl) ?_
  refine lv_iconst (v := (0)) hx hb dL_alike_23 (by decide) ?_
  refine g_callW (As := [.ref a_1, .int (0 : Int32)]) (rest := []) ⟨hx, hb, hml, hown, hts⟩ (g2l (fun X => (aL_wanted l hl0 Γ a_1 M X (0 : Int32)))) (vx_cwSW 2 hts gL_alike_L_wanted rfl rfl rfl (by decide +kernel) ⟨Nat.le_of_ble_eq_true rfl, Nat.le_of_ble_eq_true rfl⟩) hKK hKX hKY hKN hW hS rfl hl.1 rfl (Nat.le_of_ble_eq_true rfl) dL_alike_24 ⟨(by show _ + _ ≤ 834; omega), (by show _ + _ ≤ 5004; omega)⟩ (fun H locs hW hS => ?_)
  refine lv_aload_n hx hb dL_alike_27 rfl (lv_at hl 1 rfl) ?_
  refine lv_iconst (v := (0)) hx hb dL_alike_28 (by decide) ?_
  refine g_callW (As := [.ref a_2, .int (0 : Int32)]) (rest := [.int (A_wanted M (0 : Int32))]) ⟨hx, hb, hml, hown, hts⟩ (g2r (fun X => (aL_wanted l hl0 Γ a_2 M X (0 : Int32)))) (vx_cwSW 2 hts gL_alike_L_wanted rfl rfl rfl (by decide +kernel) ⟨Nat.le_of_ble_eq_true rfl, Nat.le_of_ble_eq_true rfl⟩) hKK hKX hKY hKN hW hS rfl hl.1 rfl (Nat.le_of_ble_eq_true rfl) dL_alike_29 ⟨(by show _ + _ ≤ 834; omega), (by show _ + _ ≤ 5004; omega)⟩ (fun H locs hW hS => ?_)
  refine lv_icmp_ne (tgt := 52) hx hb dL_alike_32 (by decide) (fun k32 => ?_) (fun k32 => ?_)
  · have hf := (op_if hf).2 k32
    refine W.widen (k := 4) (n := 24) (by omega) (by omega) ?_
    exact hj64 () H locs ls (lv_sub hl [0, 1, 2, 3] rfl) hW hS hf
  have hf := (op_if hf).1 k32
  refine lv_aload_n hx hb dL_alike_35 rfl (lv_at hl 0 rfl) ?_
  refine lv_iconst (v := (1)) hx hb dL_alike_36 (by decide) ?_
  refine g_callW (As := [.ref a_1, .int (1 : Int32)]) (rest := []) ⟨hx, hb, hml, hown, hts⟩ (g2l (fun X => (aL_wanted l hl0 Γ a_1 M X (1 : Int32)))) (vx_cwSW 2 hts gL_alike_L_wanted rfl rfl rfl (by decide +kernel) ⟨Nat.le_of_ble_eq_true rfl, Nat.le_of_ble_eq_true rfl⟩) hKK hKX hKY hKN hW hS rfl hl.1 rfl (Nat.le_of_ble_eq_true rfl) dL_alike_37 ⟨(by show _ + _ ≤ 834; omega), (by show _ + _ ≤ 5004; omega)⟩ (fun H locs hW hS => ?_)
  refine lv_aload_n hx hb dL_alike_40 rfl (lv_at hl 1 rfl) ?_
  refine lv_iconst (v := (1)) hx hb dL_alike_41 (by decide) ?_
  refine g_callW (As := [.ref a_2, .int (1 : Int32)]) (rest := [.int (A_wanted M (1 : Int32))]) ⟨hx, hb, hml, hown, hts⟩ (g2r (fun X => (aL_wanted l hl0 Γ a_2 M X (1 : Int32)))) (vx_cwSW 2 hts gL_alike_L_wanted rfl rfl rfl (by decide +kernel) ⟨Nat.le_of_ble_eq_true rfl, Nat.le_of_ble_eq_true rfl⟩) hKK hKX hKY hKN hW hS rfl hl.1 rfl (Nat.le_of_ble_eq_true rfl) dL_alike_42 ⟨(by show _ + _ ≤ 834; omega), (by show _ + _ ≤ 5004; omega)⟩ (fun H locs hW hS => ?_)
  refine lv_icmp_ne (tgt := 52) hx hb dL_alike_45 (by decide) (fun k45 => ?_) (fun k45 => ?_)
  · have hf := (op_if hf).2 k45
    refine W.widen (k := 4) (n := 24) (by omega) (by omega) ?_
    exact hj64 () H locs ls (lv_sub hl [0, 1, 2, 3] rfl) hW hS hf
  have hf := (op_if hf).1 k45
  refine lv_iconst (v := (1)) hx hb dL_alike_48 (by decide) ?_
  refine lv_goto (tgt := 53) hx hb dL_alike_49 (by decide) ?_
  refine W.widen (k := 4) (n := 24) (by omega) (by omega) ?_
  exact hj2 (1 : Int32) H locs ls (lv_sub hl [0, 1, 2, 3] rfl) hW hS hf
