abbrev rmL_plans : Room := { frames := 9, cells := 166, slots := 996, locals := 200 }
set_option maxHeartbeats 4000000 in
set_option maxRecDepth 100000 in
theorem cL_plans_ok (l : Launch) (hl0 : l.stackTraces = false) (Γ : zG) (a_1 : Nat) (qn : Nat) (M : zMs) (X : va_W) {I : Nat → Int32} {i_3 : Int32} {y : Int32} (hf : fL_plans M I i_3 = some y) : Met l yL_plans wsL_plans rmL_plans (GP Γ (TW Γ a_1 M (nC Γ qn I :: X)) [.ref a_1, .ref qn, .int i_3]) (GQ Γ (TW Γ a_1 M (nC Γ qn I :: X)) (some (.int y))) 166 996 (zA Γ) := by
  refine Met.ofW (cc := cL_plans) (maxL := 11) (ret := (some .boolean)) (by decide) rfl ?_
  intro p e s m args below meth c s₁ B hml hv
  obtain ⟨rfl, hW, hKK, hKX, hKY, hKN⟩ := hv
  have hx := B.exec
  have hb := B.bytes
  have hr := B.returns
  have hts := atoms_spec (ws := wsL_plans) B.pre
  have hown : s.vm.findClass RL = some m.cls := findClass_of_methodNamed B.named
  have hlocks := B.notSynchronized
  have hS : va_S (zA Γ) s.heap s.heap [] := va_S.rf
  have hl := lv_entry ([.ref a_1, .ref qn, .int i_3]) (n := 11) (Nat.le_of_ble_eq_true rfl)
  rw [lg_entry_eq]
  generalize (lg_sl ([.ref a_1, .ref qn, .int i_3]) ++ List.replicate (11 - (lg_sl ([.ref a_1, .ref qn, .int i_3])).length) Slot.unset).toArray = ls at hl ⊢
  have hl : lv_has ls 11 [(0, .ref a_1), (1, .ref qn), (2, .int i_3)] := hl
  generalize ([.ref a_1, .ref qn, .int i_3] : List Value).toArray = args at hts ⊢
  obtain ⟨H, hH0⟩ : ∃ H, H = s.heap := ⟨_, rfl⟩
  obtain ⟨locs, hlo0⟩ : ∃ L : List Loc, L = [] := ⟨_, rfl⟩
  have hS : va_S (zA Γ) s.heap H locs := by rw [hH0, hlo0]; exact hS
  have hW : (TW Γ a_1 M (nC Γ qn I :: X)) H := by rw [hH0]; exact hW
  rw [← hH0, ← hlo0]
  unfold fL_plans at hf
  refine lv_iconst (v := (0)) hx hb dL_plans_0 (by decide) ?_
  obtain ⟨x1, ex1, hf⟩ := op_st hf
  refine z_istn (lv' := [(3, .int x1), (0, .ref a_1), (1, .ref qn), (2, .int i_3)]) ex1 hx hb dL_plans_1 rfl hl (by decide) rfl (fun ls hl => ?_)
  refine lv_iconst (v := (0)) hx hb dL_plans_2 (by decide) ?_
  obtain ⟨x2, ex2, hf⟩ := op_st hf
  refine z_ist (lv' := [(4, .int x2), (3, .int x1), (0, .ref a_1), (1, .ref qn), (2, .int i_3)]) ex2 hx hb dL_plans_3 hl (by decide) rfl (fun ls hl => ?_)
  refine lv_aload_n hx hb dL_plans_5 rfl (lv_at hl 2 rfl) ?_
  refine lv_iload_n hx hb dL_plans_6 rfl (lv_at hl 4 rfl) ?_
  refine g_callW (As := [.ref a_1, .int i_3]) (rest := []) ⟨hx, hb, hml, hown, hts⟩ (aL_vanAt l hl0 Γ a_1 M (nC Γ qn I :: X) i_3) (vx_cwSW 2 hts gL_plans_L_vanAt rfl rfl rfl (by decide +kernel) ⟨Nat.le_of_ble_eq_true rfl, Nat.le_of_ble_eq_true rfl⟩) hKK hKX hKY hKN hW hS rfl hl.1 rfl (Nat.le_of_ble_eq_true rfl) dL_plans_7 ⟨(by show _ + _ ≤ 166; omega), (by show _ + _ ≤ 996; omega)⟩ (fun H locs hW hS => ?_)
  obtain ⟨x3, ex3, hf⟩ := op_st hf
  refine z_ist (lv' := [(5, .int x3), (4, .int x2), (3, .int x1), (0, .ref a_1), (1, .ref qn), (2, .int i_3)]) ex3 hx hb dL_plans_10 hl (by decide) rfl (fun ls hl => ?_)
  refine lv_iconst (v := (0)) hx hb dL_plans_12 (by decide) ?_
  obtain ⟨x4, ex4, hf⟩ := op_st hf
  refine z_ist (lv' := [(6, .int x4), (5, .int x3), (4, .int x2), (3, .int x1), (0, .ref a_1), (1, .ref qn), (2, .int i_3)]) ex4 hx hb dL_plans_13 hl (by decide) rfl (fun ls hl => ?_)
  refine lv_iconst (v := (1)) hx hb dL_plans_15 (by decide) ?_
  obtain ⟨x5, ex5, hf⟩ := op_st hf
  refine z_ist (lv' := [(7, .int x5), (6, .int x4), (5, .int x3), (4, .int x2), (3, .int x1), (0, .ref a_1), (1, .ref qn), (2, .int i_3)]) ex5 hx hb dL_plans_16 hl (by decide) rfl (fun ls hl => ?_)
  obtain ⟨w8, q60, ew8, eq60, hf⟩ := op_lb hf
  have hw8 : ∀ n11 : Nat, ∀ (q6 : (Int32 × Int32 × Int32 × Int32 × Int32)) (H : Heap) (locs : List Loc) (ls : Array Slot) (cv12 sv13 : Nat), cv12 + n11 * 3 ≤ 25 → sv13 + n11 * 18 ≤ 150 → lv_has ls 11 [(7, .int q6.2.2.2.2), (6, .int q6.2.2.2.1), (5, .int q6.2.2.1), (4, .int q6.2.1), (3, .int q6.1), (0, .ref a_1), (1, .ref qn), (2, .int i_3)] → (TW Γ a_1 M (nC Γ qn I :: X)) H → va_S (zA Γ) s.heap H locs → lp w8 n11 q6 = some y → W p l e (headSpec wsL_plans rmL_plans).room s m args below meth c H locs cv12 sv13 (MQ below (GQ Γ (TW Γ a_1 M (nC Γ qn I :: X)) (some (.int y))) args s 166 996 (zA Γ)) (F0 m 18 ls []) := by
    intro n11
    induction n11 with
    | zero => intro q6 H locs ls cv12 sv13 hcv hsv hl hW hS hf; cases hf
    | succ n11 ih9 =>
      intro q6 H locs ls cv12 sv13 hcvcv12 hsvsv13 hl hW hS hf
      obtain ⟨n_, r7, hn_, hf, hr10⟩ := op_lq hf
      cases hn_
      rw [ew8] at hf
      refine lv_iload hx hb dL_plans_18 (lv_at hl 0 rfl) ?_
      obtain ⟨j14, ej14, hf⟩ := op_st hf
      have hj14 : ∀ (u_ : Unit) (H : Heap) (locs : List Loc) (ls : Array Slot), lv_has ls 11 [(7, .int q6.2.2.2.2), (4, .int q6.2.1), (3, .int q6.1), (0, .ref a_1), (1, .ref qn), (2, .int i_3)] → (TW Γ a_1 M (nC Γ qn I :: X)) H → va_S (zA Γ) s.heap H locs → j14 () = some r7 → W p l e (headSpec wsL_plans rmL_plans).room s m args below meth c H locs 25 150 (MQ below (GQ Γ (TW Γ a_1 M (nC Γ qn I :: X)) (some (.int y))) args s 166 996 (zA Γ)) (F0 m 107 ls []) := by
        intro u_ H locs ls hl hW hS hf
        rw [ej14] at hf
        refine lv_iconst (v := (0)) hx hb dL_plans_107 (by decide) ?_
        obtain ⟨x15, ex15, hf⟩ := op_st hf
        refine z_ist (lv' := [(8, .int x15), (7, .int q6.2.2.2.2), (4, .int q6.2.1), (3, .int q6.1), (0, .ref a_1), (1, .ref qn), (2, .int i_3)]) ex15 hx hb dL_plans_108 hl (by decide) rfl (fun ls hl => ?_)
        obtain ⟨w18, q160, ew18, eq160, hf⟩ := op_lb hf
        have hw18 : ∀ n21 : Nat, ∀ (q16 : (Int32 × Int32)) (H : Heap) (locs : List Loc) (ls : Array Slot) (cv22 sv23 : Nat), cv22 + n21 * 20 ≤ 165 → sv23 + n21 * 120 ≤ 990 → lv_has ls 11 [(8, .int q16.2), (7, .int q16.1), (4, .int q6.2.1), (3, .int q6.1), (0, .ref a_1), (1, .ref qn), (2, .int i_3)] → (TW Γ a_1 M (nC Γ qn I :: X)) H → va_S (zA Γ) s.heap H locs → lp w18 n21 q16 = some r7 → W p l e (headSpec wsL_plans rmL_plans).room s m args below meth c H locs cv22 sv23 (MQ below (GQ Γ (TW Γ a_1 M (nC Γ qn I :: X)) (some (.int y))) args s 166 996 (zA Γ)) (F0 m 110 ls []) := by
          intro n21
          induction n21 with
          | zero => intro q16 H locs ls cv22 sv23 hcv hsv hl hW hS hf; cases hf
          | succ n21 ih19 =>
            intro q16 H locs ls cv22 sv23 hcvcv22 hsvsv23 hl hW hS hf
            obtain ⟨n_, r17, hn_, hf, hr20⟩ := op_lq hf
            cases hn_
            rw [ew18] at hf
            refine lv_iload hx hb dL_plans_110 (lv_at hl 0 rfl) ?_
            refine lv_aload_n hx hb dL_plans_112 rfl (lv_at hl 4 rfl) ?_
            obtain ⟨fs_, hr_⟩ := (tw_r hW)
            refine g_callV (As := []) (rest := [.int q16.2]) ⟨hx, hb, hml, hown, hts⟩ (aX_tables l Γ a_1 M (nC Γ qn I :: X) ) (cwV 0 hts gL_plans_X9_tables rfl rfl rfl (by decide +kernel) ⟨Nat.le_of_ble_eq_true rfl, Nat.le_of_ble_eq_true rfl⟩) hr_ rfl hKK hKX hKY hKN hW hS rfl hl.1 rfl (Nat.le_of_ble_eq_true rfl) dL_plans_113 ⟨(by show _ + _ ≤ 166; omega), (by show _ + _ ≤ 996; omega)⟩ (fun H locs hW hS => ?_)
            obtain ⟨j24, ej24, hf⟩ := op_st hf
            have hj24 : ∀ (u_ : Unit) (H : Heap) (locs : List Loc) (ls : Array Slot), lv_has ls 11 [(7, .int q16.1), (4, .int q6.2.1), (0, .ref a_1), (2, .int i_3)] → (TW Γ a_1 M (nC Γ qn I :: X)) H → va_S (zA Γ) s.heap H locs → j24 () = some r17 → W p l e (headSpec wsL_plans rmL_plans).room s m args below meth c H locs 165 990 (MQ below (GQ Γ (TW Γ a_1 M (nC Γ qn I :: X)) (some (.int y))) args s 166 996 (zA Γ)) (F0 m 248 ls []) := by
              intro u_ H locs ls hl hW hS hf
              rw [ej24] at hf
              refine lv_iload hx hb dL_plans_248 (lv_at hl 0 rfl) ?_
              obtain ⟨j25, ej25, hf⟩ := op_st hf
              have hj25 : ∀ (u_ : Unit) (H : Heap) (locs : List Loc) (ls : Array Slot), lv_has ls 11 [] → (TW Γ a_1 M (nC Γ qn I :: X)) H → va_S (zA Γ) s.heap H locs → j25 () = some r17 → W p l e (headSpec wsL_plans rmL_plans).room s m args below meth c H locs 166 996 (MQ below (GQ Γ (TW Γ a_1 M (nC Γ qn I :: X)) (some (.int y))) args s 166 996 (zA Γ)) (F0 m 267 ls []) := by
                intro u_ H locs ls hl hW hS hf
                rw [ej25] at hf
                refine lv_iconst (v := (0)) hx hb dL_plans_267 (by decide) ?_
                obtain ⟨hbp, hf⟩ := op_gd hf
                have hf := zr_r hf hr20
                have hf := congrArg some hf
                have hf := zr_r hf hr10
                rw [← hf]
                exact g_iret hx hb hr hlocks (by omega) (by omega) (z_bb hbp) hW hS dL_plans_268
              refine lv_if_eq (tgt := 267) hx hb dL_plans_250 (by decide) (fun k250 => ?_) (fun k250 => ?_)
              · have hf := (op_if hf).1 k250
                refine W.widen (k := 166) (n := 996) (by omega) (by omega) ?_
                exact hj25 () H locs ls (lv_sub hl [] rfl) hW hS hf
              have hf := (op_if hf).2 k250
              refine lv_aload_n hx hb dL_plans_253 rfl (lv_at hl 2 rfl) ?_
              refine lv_iload_n hx hb dL_plans_254 rfl (lv_at hl 3 rfl) ?_
              refine g_callW (As := [.ref a_1, .int i_3]) (rest := []) ⟨hx, hb, hml, hown, hts⟩ (aL_way l hl0 Γ a_1 M (nC Γ qn I :: X) i_3) (vx_cwSW 2 hts gL_plans_L_way rfl rfl rfl (by decide +kernel) ⟨Nat.le_of_ble_eq_true rfl, Nat.le_of_ble_eq_true rfl⟩) hKK hKX hKY hKN hW hS rfl hl.1 rfl (Nat.le_of_ble_eq_true rfl) dL_plans_255 ⟨(by show _ + _ ≤ 166; omega), (by show _ + _ ≤ 996; omega)⟩ (fun H locs hW hS => ?_)
              refine lv_iload hx hb dL_plans_258 (lv_at hl 1 rfl) ?_
              refine lv_icmp_ne (tgt := 267) hx hb dL_plans_260 (by decide) (fun k260 => ?_) (fun k260 => ?_)
              · have hf := (op_if hf).2 k260
                refine W.widen (k := 166) (n := 996) (by omega) (by omega) ?_
                exact hj25 () H locs ls (lv_sub hl [] rfl) hW hS hf
              have hf := (op_if hf).1 k260
              refine lv_iconst (v := (1)) hx hb dL_plans_263 (by decide) ?_
              refine lv_goto (tgt := 268) hx hb dL_plans_264 (by decide) ?_
              obtain ⟨hbp, hf⟩ := op_gd hf
              have hf := zr_r hf hr20
              have hf := congrArg some hf
              have hf := zr_r hf hr10
              rw [← hf]
              exact g_iret hx hb hr hlocks (by omega) (by omega) (z_bb hbp) hW hS dL_plans_268
            refine lv_icmp_ge (tgt := 248) hx hb dL_plans_116 (by decide) (fun k116 => ?_) (fun k116 => ?_)
            · have hf := (op_if hf).1 k116
              refine W.widen (k := 165) (n := 990) (by omega) (by omega) ?_
              refine W.widen (k := 165) (n := 990) (by omega) (by omega) ?_
              exact hj24 () H locs ls (lv_sub hl [1, 2, 4, 6] rfl) hW hS hf
            have hf := (op_if hf).2 k116
            refine lv_iload hx hb dL_plans_119 (lv_at hl 1 rfl) ?_
            refine lv_if_eq (tgt := 248) hx hb dL_plans_121 (by decide) (fun k121 => ?_) (fun k121 => ?_)
            · have hf := (op_if hf).1 k121
              refine W.widen (k := 165) (n := 990) (by omega) (by omega) ?_
              refine W.widen (k := 165) (n := 990) (by omega) (by omega) ?_
              exact hj24 () H locs ls (lv_sub hl [1, 2, 4, 6] rfl) hW hS hf
            have hf := (op_if hf).2 k121
            refine lv_aload_n hx hb dL_plans_124 rfl (lv_at hl 4 rfl) ?_
            refine lv_iload hx hb dL_plans_125 (lv_at hl 0 rfl) ?_
            refine g_callW (As := [.ref a_1, .int q16.2]) (rest := []) ⟨hx, hb, hml, hown, hts⟩ (aL_box l hl0 Γ a_1 M (nC Γ qn I :: X) q16.2) (vx_cwSW 2 hts gL_plans_L_box rfl rfl rfl (by decide +kernel) ⟨Nat.le_of_ble_eq_true rfl, Nat.le_of_ble_eq_true rfl⟩) hKK hKX hKY hKN hW hS rfl hl.1 rfl (Nat.le_of_ble_eq_true rfl) dL_plans_127 ⟨(by show _ + _ ≤ 166; omega), (by show _ + _ ≤ 996; omega)⟩ (fun H locs hW hS => ?_)
            refine lv_bipush (v := (19)) hx hb dL_plans_130 (by decide) ?_
            obtain ⟨j27, ej27, hf⟩ := op_st hf
            have hj27 : ∀ (y26 : Int32) (H : Heap) (locs : List Loc) (ls : Array Slot), lv_has ls 11 [(8, .int q16.2), (4, .int q6.2.1), (3, .int q6.1), (0, .ref a_1), (1, .ref qn), (2, .int i_3)] → (TW Γ a_1 M (nC Γ qn I :: X)) H → va_S (zA Γ) s.heap H locs → j27 y26 = some r17 → W p l e (headSpec wsL_plans rmL_plans).room s m args below meth c H locs (cv22 + 1) (sv23 + 6) (MQ below (GQ Γ (TW Γ a_1 M (nC Γ qn I :: X)) (some (.int y))) args s 166 996 (zA Γ)) (F0 m 140 ls [.int y26]) := by
              intro y26 H locs ls hl hW hS hf
              rw [ej27] at hf
              obtain ⟨x28, ex28, hf⟩ := op_st hf
              refine z_ist (lv' := [(9, .int x28), (8, .int q16.2), (4, .int q6.2.1), (3, .int q6.1), (0, .ref a_1), (1, .ref qn), (2, .int i_3)]) ex28 hx hb dL_plans_140 hl (by decide) rfl (fun ls hl => ?_)
              refine lv_iconst (v := (0)) hx hb dL_plans_142 (by decide) ?_
              obtain ⟨x29, ex29, hf⟩ := op_st hf
              refine z_ist (lv' := [(10, .int x29), (9, .int x28), (8, .int q16.2), (4, .int q6.2.1), (3, .int q6.1), (0, .ref a_1), (1, .ref qn), (2, .int i_3)]) ex29 hx hb dL_plans_143 hl (by decide) rfl (fun ls hl => ?_)
              obtain ⟨w32, q300, ew32, eq300, hf⟩ := op_lb hf
              have hw32 : ∀ n35 : Nat, ∀ (q30 : (Int32 × Int32)) (H : Heap) (locs : List Loc) (ls : Array Slot) (cv36 sv37 : Nat), cv36 + n35 * 2 ≤ (cv22 + 19) → sv37 + n35 * 12 ≤ (sv23 + 114) → lv_has ls 11 [(10, .int q30.2), (9, .int q30.1), (8, .int q16.2), (4, .int q6.2.1), (3, .int q6.1), (0, .ref a_1), (1, .ref qn), (2, .int i_3)] → (TW Γ a_1 M (nC Γ qn I :: X)) H → va_S (zA Γ) s.heap H locs → lp w32 n35 q30 = some r17 → W p l e (headSpec wsL_plans rmL_plans).room s m args below meth c H locs cv36 sv37 (MQ below (GQ Γ (TW Γ a_1 M (nC Γ qn I :: X)) (some (.int y))) args s 166 996 (zA Γ)) (F0 m 145 ls []) := by
                intro n35
                induction n35 with
                | zero => intro q30 H locs ls cv36 sv37 hcv hsv hl hW hS hf; cases hf
                | succ n35 ih33 =>
                  intro q30 H locs ls cv36 sv37 hcvcv36 hsvsv37 hl hW hS hf
                  obtain ⟨n_, r31, hn_, hf, hr34⟩ := op_lq hf
                  cases hn_
                  rw [ew32] at hf
                  refine lv_iload hx hb dL_plans_145 (lv_at hl 0 rfl) ?_
                  refine lv_aload_n hx hb dL_plans_147 rfl (lv_at hl 6 rfl) ?_
                  refine lv_iload hx hb dL_plans_148 (lv_at hl 2 rfl) ?_
                  obtain ⟨h150, hf⟩ := op_gd hf
                  refine va_iald hx hb hKK.1 (tw_n hW) 0 0 (n := 14) rfl rfl h150 dL_plans_150 ?_
                  refine lv_icmp_ge (tgt := 197) hx hb dL_plans_151 (by decide) (fun k151 => ?_) (fun k151 => ?_)
                  · have hf := (op_if hf).1 k151
                    refine W.widen (k := (cv22 + 19)) (n := (sv23 + 114)) (by omega) (by omega) ?_
                    refine lv_iload hx hb dL_plans_197 (lv_at hl 1 rfl) ?_
                    obtain ⟨j39, ej39, hf⟩ := op_st hf
                    have hj39 : ∀ (y38 : Int32) (H : Heap) (locs : List Loc) (ls : Array Slot), lv_has ls 11 [(8, .int q16.2), (4, .int q6.2.1), (3, .int q6.1), (0, .ref a_1), (1, .ref qn), (2, .int i_3)] → (TW Γ a_1 M (nC Γ qn I :: X)) H → va_S (zA Γ) s.heap H locs → j39 y38 = some r31 → W p l e (headSpec wsL_plans rmL_plans).room s m args below meth c H locs (cv22 + 20) (sv23 + 120) (MQ below (GQ Γ (TW Γ a_1 M (nC Γ qn I :: X)) (some (.int y))) args s 166 996 (zA Γ)) (F0 m 217 ls [.int y38]) := by
                      intro y38 H locs ls hl hW hS hf
                      rw [ej39] at hf
                      refine lv_iload_n hx hb dL_plans_217 rfl (lv_at hl 2 rfl) ?_
                      refine lv_iload hx hb dL_plans_218 (lv_at hl 0 rfl) ?_
                      refine lv_ishr hx hb dL_plans_220 ?_
                      refine lv_iconst (v := (1)) hx hb dL_plans_221 (by decide) ?_
                      refine lv_iand hx hb dL_plans_222 ?_
                      refine lv_iconst (v := (1)) hx hb dL_plans_223 (by decide) ?_
                      obtain ⟨j41, ej41, hf⟩ := op_st hf
                      have hj41 : ∀ (y40 : Int32) (H : Heap) (locs : List Loc) (ls : Array Slot), lv_has ls 11 [(8, .int q16.2), (4, .int q6.2.1), (3, .int q6.1), (0, .ref a_1), (1, .ref qn), (2, .int i_3)] → (TW Γ a_1 M (nC Γ qn I :: X)) H → va_S (zA Γ) s.heap H locs → j41 y40 = some r31 → W p l e (headSpec wsL_plans rmL_plans).room s m args below meth c H locs (cv22 + 20) (sv23 + 120) (MQ below (GQ Γ (TW Γ a_1 M (nC Γ qn I :: X)) (some (.int y))) args s 166 996 (zA Γ)) (F0 m 232 ls [.int y40, .int y38]) := by
                        intro y40 H locs ls hl hW hS hf
                        rw [ej41] at hf
                        obtain ⟨j43, ej43, hf⟩ := op_st hf
                        have hj43 : ∀ (y42 : Int32) (H : Heap) (locs : List Loc) (ls : Array Slot), lv_has ls 11 [(8, .int q16.2), (4, .int q6.2.1), (3, .int q6.1), (0, .ref a_1), (1, .ref qn), (2, .int i_3)] → (TW Γ a_1 M (nC Γ qn I :: X)) H → va_S (zA Γ) s.heap H locs → j43 y42 = some r31 → W p l e (headSpec wsL_plans rmL_plans).room s m args below meth c H locs (cv22 + 20) (sv23 + 120) (MQ below (GQ Γ (TW Γ a_1 M (nC Γ qn I :: X)) (some (.int y))) args s 166 996 (zA Γ)) (F0 m 240 ls [.int y42]) := by
                          intro y42 H locs ls hl hW hS hf
                          rw [ej43] at hf
                          obtain ⟨x44, ex44, hf⟩ := op_st hf
                          refine z_ist (lv' := [(7, .int x44), (8, .int q16.2), (4, .int q6.2.1), (3, .int q6.1), (0, .ref a_1), (1, .ref qn), (2, .int i_3)]) ex44 hx hb dL_plans_240 hl (by decide) rfl (fun ls hl => ?_)
                          obtain ⟨x45, ex45, hf⟩ := op_st hf
                          refine lv_iinc (v := x45) (lv' := [(8, .int x45), (7, .int x44), (4, .int q6.2.1), (3, .int q6.1), (0, .ref a_1), (1, .ref qn), (2, .int i_3)]) hx hb dL_plans_242 hl (k := 1) rfl (by rw [ex45]; rfl) (by decide) rfl (fun ls hl => ?_)
                          refine lv_goto (tgt := 110) hx hb dL_plans_245 (by decide) ?_
                          have hf := congrArg some (zr_r hf hr34)
                          have hf := zr_l hf hr20
                          refine W.widen (k := cv22 + 20) (n := sv23 + 120) (by omega) (by omega) ?_
                          exact ih19 (x44, x45) H locs ls (cv22 + 20) (sv23 + 120) (by omega) (by omega) (lv_sub hl [0, 1, 2, 3, 4, 5, 6] rfl) hW hS hf
                        refine lv_icmp_ne (tgt := 239) hx hb dL_plans_232 (by decide) (fun k232 => ?_) (fun k232 => ?_)
                        · have hf := (op_if hf).2 k232
                          refine lv_iconst (v := (0)) hx hb dL_plans_239 (by decide) ?_
                          refine W.widen (k := (cv22 + 20)) (n := (sv23 + 120)) (by omega) (by omega) ?_
                          exact hj43 (0 : Int32) H locs ls (lv_sub hl [0, 1, 2, 3, 4, 5] rfl) hW hS hf
                        have hf := (op_if hf).1 k232
                        refine lv_iconst (v := (1)) hx hb dL_plans_235 (by decide) ?_
                        refine lv_goto (tgt := 240) hx hb dL_plans_236 (by decide) ?_
                        refine W.widen (k := (cv22 + 20)) (n := (sv23 + 120)) (by omega) (by omega) ?_
                        exact hj43 (1 : Int32) H locs ls (lv_sub hl [0, 1, 2, 3, 4, 5] rfl) hW hS hf
                      refine lv_icmp_ne (tgt := 231) hx hb dL_plans_224 (by decide) (fun k224 => ?_) (fun k224 => ?_)
                      · have hf := (op_if hf).2 k224
                        refine lv_iconst (v := (0)) hx hb dL_plans_231 (by decide) ?_
                        refine W.widen (k := (cv22 + 20)) (n := (sv23 + 120)) (by omega) (by omega) ?_
                        exact hj41 (0 : Int32) H locs ls (lv_sub hl [0, 1, 2, 3, 4, 5] rfl) hW hS hf
                      have hf := (op_if hf).1 k224
                      refine lv_iconst (v := (1)) hx hb dL_plans_227 (by decide) ?_
                      refine lv_goto (tgt := 232) hx hb dL_plans_228 (by decide) ?_
                      refine W.widen (k := (cv22 + 20)) (n := (sv23 + 120)) (by omega) (by omega) ?_
                      exact hj41 (1 : Int32) H locs ls (lv_sub hl [0, 1, 2, 3, 4, 5] rfl) hW hS hf
                    obtain ⟨j46, ej46, hf⟩ := op_st hf
                    have hj46 : ∀ (u_ : Unit) (H : Heap) (locs : List Loc) (ls : Array Slot), lv_has ls 11 [(8, .int q16.2), (4, .int q6.2.1), (3, .int q6.1), (0, .ref a_1), (1, .ref qn), (2, .int i_3)] → (TW Γ a_1 M (nC Γ qn I :: X)) H → va_S (zA Γ) s.heap H locs → j46 () = some r31 → W p l e (headSpec wsL_plans rmL_plans).room s m args below meth c H locs (cv22 + 20) (sv23 + 120) (MQ below (GQ Γ (TW Γ a_1 M (nC Γ qn I :: X)) (some (.int y))) args s 166 996 (zA Γ)) (F0 m 216 ls []) := by
                      intro u_ H locs ls hl hW hS hf
                      rw [ej46] at hf
                      refine lv_iconst (v := (0)) hx hb dL_plans_216 (by decide) ?_
                      refine W.widen (k := (cv22 + 20)) (n := (sv23 + 120)) (by omega) (by omega) ?_
                      exact hj39 (0 : Int32) H locs ls (lv_sub hl [0, 1, 2, 3, 4, 5] rfl) hW hS hf
                    refine lv_if_eq (tgt := 216) hx hb dL_plans_199 (by decide) (fun k199 => ?_) (fun k199 => ?_)
                    · have hf := (op_if hf).1 k199
                      refine W.widen (k := (cv22 + 20)) (n := (sv23 + 120)) (by omega) (by omega) ?_
                      exact hj46 () H locs ls (lv_sub hl [2, 3, 4, 5, 6, 7] rfl) hW hS hf
                    have hf := (op_if hf).2 k199
                    refine lv_aload_n hx hb dL_plans_202 rfl (lv_at hl 5 rfl) ?_
                    refine lv_iload hx hb dL_plans_203 (lv_at hl 2 rfl) ?_
                    refine g_callW (As := [.ref a_1, .int q16.2]) (rest := []) ⟨hx, hb, hml, hown, hts⟩ (aL_gameAt l hl0 Γ a_1 M (nC Γ qn I :: X) q16.2) (vx_cwSW 2 hts gL_plans_L_gameAt rfl rfl rfl (by decide +kernel) ⟨Nat.le_of_ble_eq_true rfl, Nat.le_of_ble_eq_true rfl⟩) hKK hKX hKY hKN hW hS rfl hl.1 rfl (Nat.le_of_ble_eq_true rfl) dL_plans_205 ⟨(by show _ + _ ≤ 166; omega), (by show _ + _ ≤ 996; omega)⟩ (fun H locs hW hS => ?_)
                    refine lv_iconst (v := (-1)) hx hb dL_plans_208 (by decide) ?_
                    refine lv_icmp_ne (tgt := 216) hx hb dL_plans_209 (by decide) (fun k209 => ?_) (fun k209 => ?_)
                    · have hf := (op_if hf).2 k209
                      refine W.widen (k := (cv22 + 20)) (n := (sv23 + 120)) (by omega) (by omega) ?_
                      exact hj46 () H locs ls (lv_sub hl [2, 3, 4, 5, 6, 7] rfl) hW hS hf
                    have hf := (op_if hf).1 k209
                    refine lv_iconst (v := (1)) hx hb dL_plans_212 (by decide) ?_
                    refine lv_goto (tgt := 217) hx hb dL_plans_213 (by decide) ?_
                    refine W.widen (k := (cv22 + 20)) (n := (sv23 + 120)) (by omega) (by omega) ?_
                    exact hj39 (1 : Int32) H locs ls (lv_sub hl [2, 3, 4, 5, 6, 7] rfl) hW hS hf
                  have hf := (op_if hf).2 k151
                  refine lv_iload hx hb dL_plans_154 (lv_at hl 1 rfl) ?_
                  obtain ⟨j48, ej48, hf⟩ := op_st hf
                  have hj48 : ∀ (y47 : Int32) (H : Heap) (locs : List Loc) (ls : Array Slot), lv_has ls 11 [(10, .int q30.2), (8, .int q16.2), (4, .int q6.2.1), (3, .int q6.1), (0, .ref a_1), (1, .ref qn), (2, .int i_3)] → (TW Γ a_1 M (nC Γ qn I :: X)) H → va_S (zA Γ) s.heap H locs → j48 y47 = some r31 → W p l e (headSpec wsL_plans rmL_plans).room s m args below meth c H locs (cv36 + 2) (sv37 + 12) (MQ below (GQ Γ (TW Γ a_1 M (nC Γ qn I :: X)) (some (.int y))) args s 166 996 (zA Γ)) (F0 m 189 ls [.int y47]) := by
                    intro y47 H locs ls hl hW hS hf
                    rw [ej48] at hf
                    obtain ⟨x49, ex49, hf⟩ := op_st hf
                    refine z_ist (lv' := [(9, .int x49), (10, .int q30.2), (8, .int q16.2), (4, .int q6.2.1), (3, .int q6.1), (0, .ref a_1), (1, .ref qn), (2, .int i_3)]) ex49 hx hb dL_plans_189 hl (by decide) rfl (fun ls hl => ?_)
                    obtain ⟨x50, ex50, hf⟩ := op_st hf
                    refine lv_iinc (v := x50) (lv' := [(10, .int x50), (9, .int x49), (8, .int q16.2), (4, .int q6.2.1), (3, .int q6.1), (0, .ref a_1), (1, .ref qn), (2, .int i_3)]) hx hb dL_plans_191 hl (k := 1) rfl (by rw [ex50]; rfl) (by decide) rfl (fun ls hl => ?_)
                    refine lv_goto (tgt := 145) hx hb dL_plans_194 (by decide) ?_
                    have hf := zr_l hf hr34
                    refine W.widen (k := cv36 + 2) (n := sv37 + 12) (by omega) (by omega) ?_
                    exact ih33 (x49, x50) H locs ls (cv36 + 2) (sv37 + 12) (by omega) (by omega) (lv_sub hl [0, 1, 2, 3, 4, 5, 6, 7] rfl) hW hS hf
                  obtain ⟨j51, ej51, hf⟩ := op_st hf
                  have hj51 : ∀ (u_ : Unit) (H : Heap) (locs : List Loc) (ls : Array Slot), lv_has ls 11 [(10, .int q30.2), (8, .int q16.2), (4, .int q6.2.1), (3, .int q6.1), (0, .ref a_1), (1, .ref qn), (2, .int i_3)] → (TW Γ a_1 M (nC Γ qn I :: X)) H → va_S (zA Γ) s.heap H locs → j51 () = some r31 → W p l e (headSpec wsL_plans rmL_plans).room s m args below meth c H locs (cv36 + 2) (sv37 + 12) (MQ below (GQ Γ (TW Γ a_1 M (nC Γ qn I :: X)) (some (.int y))) args s 166 996 (zA Γ)) (F0 m 184 ls []) := by
                    intro u_ H locs ls hl hW hS hf
                    rw [ej51] at hf
                    refine lv_iconst (v := (1)) hx hb dL_plans_184 (by decide) ?_
                    refine lv_goto (tgt := 189) hx hb dL_plans_185 (by decide) ?_
                    refine W.widen (k := (cv36 + 2)) (n := (sv37 + 12)) (by omega) (by omega) ?_
                    exact hj48 (1 : Int32) H locs ls (lv_sub hl [0, 1, 2, 3, 4, 5, 6] rfl) hW hS hf
                  refine lv_if_ne (tgt := 184) hx hb dL_plans_156 (by decide) (fun k156 => ?_) (fun k156 => ?_)
                  · have hf := (op_if hf).2 k156
                    refine W.widen (k := (cv36 + 2)) (n := (sv37 + 12)) (by omega) (by omega) ?_
                    exact hj51 () H locs ls (lv_sub hl [0, 2, 3, 4, 5, 6, 7] rfl) hW hS hf
                  have hf := (op_if hf).1 k156
                  refine lv_aload_n hx hb dL_plans_159 rfl (lv_at hl 5 rfl) ?_
                  refine lv_iload hx hb dL_plans_160 (lv_at hl 2 rfl) ?_
                  refine lv_iload hx hb dL_plans_162 (lv_at hl 0 rfl) ?_
                  refine g_callW (As := [.ref a_1, .int q16.2, .int q30.2]) (rest := []) ⟨hx, hb, hml, hown, hts⟩ (aL_sticks l hl0 Γ a_1 M (nC Γ qn I :: X) q16.2 q30.2) (vx_cwSW 3 hts gL_plans_L_sticks rfl rfl rfl (by decide +kernel) ⟨Nat.le_of_ble_eq_true rfl, Nat.le_of_ble_eq_true rfl⟩) hKK hKX hKY hKN hW hS rfl hl.1 rfl (Nat.le_of_ble_eq_true rfl) dL_plans_164 ⟨(by show _ + _ ≤ 166; omega), (by show _ + _ ≤ 996; omega)⟩ (fun H locs hW hS => ?_)
                  refine lv_iconst (v := (1)) hx hb dL_plans_167 (by decide) ?_
                  refine lv_icmp_eq (tgt := 184) hx hb dL_plans_168 (by decide) (fun k168 => ?_) (fun k168 => ?_)
                  · have hf := (op_if hf).1 k168
                    refine W.widen (k := (cv36 + 2)) (n := (sv37 + 12)) (by omega) (by omega) ?_
                    exact hj51 () H locs ls (lv_sub hl [0, 2, 3, 4, 5, 6, 7] rfl) hW hS hf
                  have hf := (op_if hf).2 k168
                  refine lv_aload_n hx hb dL_plans_171 rfl (lv_at hl 5 rfl) ?_
                  refine lv_iload hx hb dL_plans_172 (lv_at hl 2 rfl) ?_
                  refine lv_iload hx hb dL_plans_174 (lv_at hl 0 rfl) ?_
                  refine g_callW (As := [.ref a_1, .int q16.2, .int q30.2]) (rest := []) ⟨hx, hb, hml, hown, hts⟩ (aL_wear l hl0 Γ a_1 M (nC Γ qn I :: X) q16.2 q30.2) (vx_cwSW 3 hts gL_plans_L_wear rfl rfl rfl (by decide +kernel) ⟨Nat.le_of_ble_eq_true rfl, Nat.le_of_ble_eq_true rfl⟩) hKK hKX hKY hKN hW hS rfl hl.1 rfl (Nat.le_of_ble_eq_true rfl) dL_plans_176 ⟨(by show _ + _ ≤ 166; omega), (by show _ + _ ≤ 996; omega)⟩ (fun H locs hW hS => ?_)
                  refine lv_bipush (v := (39)) hx hb dL_plans_179 (by decide) ?_
                  refine lv_icmp_le (tgt := 188) hx hb dL_plans_181 (by decide) (fun k181 => ?_) (fun k181 => ?_)
                  · have hf := (op_if hf).1 k181
                    refine lv_iconst (v := (0)) hx hb dL_plans_188 (by decide) ?_
                    refine W.widen (k := (cv36 + 2)) (n := (sv37 + 12)) (by omega) (by omega) ?_
                    exact hj48 (0 : Int32) H locs ls (lv_sub hl [0, 2, 3, 4, 5, 6, 7] rfl) hW hS hf
                  have hf := (op_if hf).2 k181
                  refine W.widen (k := (cv36 + 2)) (n := (sv37 + 12)) (by omega) (by omega) ?_
                  exact hj51 () H locs ls (lv_sub hl [0, 2, 3, 4, 5, 6, 7] rfl) hW hS hf
              rw [eq300] at hf
              refine W.widen (k := (cv22 + 1)) (n := (sv23 + 6)) (by omega) (by omega) ?_
              exact hw32 9 (x28, x29) H locs ls (cv22 + 1) (sv23 + 6) (by omega) (by omega) (lv_sub hl [0, 1, 2, 3, 4, 5, 6, 7] rfl) hW hS hf
            refine lv_icmp_le (tgt := 139) hx hb dL_plans_132 (by decide) (fun k132 => ?_) (fun k132 => ?_)
            · have hf := (op_if hf).1 k132
              refine lv_iconst (v := (0)) hx hb dL_plans_139 (by decide) ?_
              refine W.widen (k := (cv22 + 1)) (n := (sv23 + 6)) (by omega) (by omega) ?_
              exact hj27 (0 : Int32) H locs ls (lv_sub hl [0, 2, 3, 4, 5, 6] rfl) hW hS hf
            have hf := (op_if hf).2 k132
            refine lv_iconst (v := (1)) hx hb dL_plans_135 (by decide) ?_
            refine lv_goto (tgt := 140) hx hb dL_plans_136 (by decide) ?_
            refine W.widen (k := (cv22 + 1)) (n := (sv23 + 6)) (by omega) (by omega) ?_
            exact hj27 (1 : Int32) H locs ls (lv_sub hl [0, 2, 3, 4, 5, 6] rfl) hW hS hf
        rw [eq160] at hf
        refine W.widen (k := 25) (n := 150) (by omega) (by omega) ?_
        exact hw18 7 (q6.2.2.2.2, x15) H locs ls 25 150 (by omega) (by omega) (lv_sub hl [0, 1, 2, 3, 4, 5, 6] rfl) hW hS hf
      refine lv_if_eq (tgt := 107) hx hb dL_plans_20 (by decide) (fun k20 => ?_) (fun k20 => ?_)
      · have hf := (op_if hf).1 k20
        refine W.widen (k := 25) (n := 150) (by omega) (by omega) ?_
        refine W.widen (k := 25) (n := 150) (by omega) (by omega) ?_
        exact hj14 () H locs ls (lv_sub hl [0, 3, 4, 5, 6, 7] rfl) hW hS hf
      have hf := (op_if hf).2 k20
      refine lv_aload_n hx hb dL_plans_23 rfl (lv_at hl 5 rfl) ?_
      refine lv_iload_n hx hb dL_plans_24 rfl (lv_at hl 7 rfl) ?_
      refine lv_iload hx hb dL_plans_25 (lv_at hl 1 rfl) ?_
      refine g_callW (As := [.ref a_1, .int i_3, .int q6.2.2.2.1]) (rest := []) ⟨hx, hb, hml, hown, hts⟩ (aL_planned l hl0 Γ a_1 M (nC Γ qn I :: X) i_3 q6.2.2.2.1) (vx_cwSW 3 hts gL_plans_L_planned rfl rfl rfl (by decide +kernel) ⟨Nat.le_of_ble_eq_true rfl, Nat.le_of_ble_eq_true rfl⟩) hKK hKX hKY hKN hW hS rfl hl.1 rfl (Nat.le_of_ble_eq_true rfl) dL_plans_27 ⟨(by show _ + _ ≤ 166; omega), (by show _ + _ ≤ 996; omega)⟩ (fun H locs hW hS => ?_)
      refine lv_if_lt (tgt := 107) hx hb dL_plans_30 (by decide) (fun k30 => ?_) (fun k30 => ?_)
      · have hf := (op_if hf).1 k30
        refine W.widen (k := 25) (n := 150) (by omega) (by omega) ?_
        refine W.widen (k := 25) (n := 150) (by omega) (by omega) ?_
        exact hj14 () H locs ls (lv_sub hl [0, 3, 4, 5, 6, 7] rfl) hW hS hf
      have hf := (op_if hf).2 k30
      refine lv_aload_n hx hb dL_plans_33 rfl (lv_at hl 5 rfl) ?_
      refine lv_iload_n hx hb dL_plans_34 rfl (lv_at hl 7 rfl) ?_
      refine lv_iload hx hb dL_plans_35 (lv_at hl 1 rfl) ?_
      refine g_callW (As := [.ref a_1, .int i_3, .int q6.2.2.2.1]) (rest := []) ⟨hx, hb, hml, hown, hts⟩ (aL_planned l hl0 Γ a_1 M (nC Γ qn I :: X) i_3 q6.2.2.2.1) (vx_cwSW 3 hts gL_plans_L_planned rfl rfl rfl (by decide +kernel) ⟨Nat.le_of_ble_eq_true rfl, Nat.le_of_ble_eq_true rfl⟩) hKK hKX hKY hKN hW hS rfl hl.1 rfl (Nat.le_of_ble_eq_true rfl) dL_plans_37 ⟨(by show _ + _ ≤ 166; omega), (by show _ + _ ≤ 996; omega)⟩ (fun H locs hW hS => ?_)
      obtain ⟨x52, ex52, hf⟩ := op_st hf
      refine z_ist (lv' := [(8, .int x52), (7, .int q6.2.2.2.2), (6, .int q6.2.2.2.1), (5, .int q6.2.2.1), (4, .int q6.2.1), (3, .int q6.1), (0, .ref a_1), (1, .ref qn), (2, .int i_3)]) ex52 hx hb dL_plans_40 hl (by decide) rfl (fun ls hl => ?_)
      refine lv_iload_n hx hb dL_plans_42 rfl (lv_at hl 5 rfl) ?_
      refine lv_iload hx hb dL_plans_43 (lv_at hl 0 rfl) ?_
      refine lv_ishr hx hb dL_plans_45 ?_
      refine lv_iconst (v := (1)) hx hb dL_plans_46 (by decide) ?_
      refine lv_iand hx hb dL_plans_47 ?_
      obtain ⟨j54, ej54, hf⟩ := op_st hf
      have hj54 : ∀ (y53 : Int32) (H : Heap) (locs : List Loc) (ls : Array Slot), lv_has ls 11 [(8, .int x52), (6, .int q6.2.2.2.1), (5, .int q6.2.2.1), (4, .int q6.2.1), (3, .int q6.1), (0, .ref a_1), (1, .ref qn), (2, .int i_3)] → (TW Γ a_1 M (nC Γ qn I :: X)) H → va_S (zA Γ) s.heap H locs → j54 y53 = some r7 → W p l e (headSpec wsL_plans rmL_plans).room s m args below meth c H locs (cv12 + 3) (sv13 + 18) (MQ below (GQ Γ (TW Γ a_1 M (nC Γ qn I :: X)) (some (.int y))) args s 166 996 (zA Γ)) (F0 m 66 ls [.int y53]) := by
        intro y53 H locs ls hl hW hS hf
        rw [ej54] at hf
        obtain ⟨x55, ex55, hf⟩ := op_st hf
        refine z_ist (lv' := [(7, .int x55), (8, .int x52), (6, .int q6.2.2.2.1), (5, .int q6.2.2.1), (4, .int q6.2.1), (3, .int q6.1), (0, .ref a_1), (1, .ref qn), (2, .int i_3)]) ex55 hx hb dL_plans_66 hl (by decide) rfl (fun ls hl => ?_)
        refine lv_iload_n hx hb dL_plans_68 rfl (lv_at hl 5 rfl) ?_
        refine lv_iconst (v := (1)) hx hb dL_plans_69 (by decide) ?_
        refine lv_iload hx hb dL_plans_70 (lv_at hl 1 rfl) ?_
        refine lv_ishl hx hb dL_plans_72 ?_
        refine lv_ior hx hb dL_plans_73 ?_
        obtain ⟨x56, ex56, hf⟩ := op_st hf
        refine z_istn (lv' := [(3, .int x56), (7, .int x55), (8, .int x52), (6, .int q6.2.2.2.1), (5, .int q6.2.2.1), (4, .int q6.2.1), (0, .ref a_1), (1, .ref qn), (2, .int i_3)]) ex56 hx hb dL_plans_74 rfl hl (by decide) rfl (fun ls hl => ?_)
        refine lv_iload hx hb dL_plans_75 (lv_at hl 5 rfl) ?_
        refine lv_iload hx hb dL_plans_77 (lv_at hl 4 rfl) ?_
        refine lv_aload_n hx hb dL_plans_79 rfl (lv_at hl 7 rfl) ?_
        refine lv_bipush (v := (8)) hx hb dL_plans_80 (by decide) ?_
        refine lv_iload hx hb dL_plans_82 (lv_at hl 2 rfl) ?_
        refine lv_iadd hx hb dL_plans_84 ?_
        obtain ⟨h85, hf⟩ := op_gd hf
        refine va_iald hx hb hKK.1 (tw_n hW) 0 0 (n := 14) rfl rfl h85 dL_plans_85 ?_
        obtain ⟨r57, hc_, hf⟩ := op_cl hf
        refine g_callS (As := [.int q6.2.2.1, .int (I ((8 : Int32) + x52).toNatClampNeg)]) (rest := [.int q6.2.1]) ⟨hx, hb, hml, hown, hts⟩ (cL_far_ok l hl0 Γ (TW Γ a_1 M (nC Γ qn I :: X)) hc_) (va_cwS 2 hts gL_plans_L_far rfl rfl rfl (by decide +kernel) ⟨Nat.le_of_ble_eq_true rfl, Nat.le_of_ble_eq_true rfl⟩) hKK hKX hKY hKN hW hS rfl hl.1 rfl (Nat.le_of_ble_eq_true rfl) dL_plans_86 ⟨(by show _ + _ ≤ 166; omega), (by show _ + _ ≤ 996; omega)⟩ (fun H locs hW hS => ?_)
        refine lv_iadd hx hb dL_plans_89 ?_
        obtain ⟨x58, ex58, hf⟩ := op_st hf
        refine z_ist (lv' := [(4, .int x58), (3, .int x56), (7, .int x55), (8, .int x52), (6, .int q6.2.2.2.1), (5, .int q6.2.2.1), (0, .ref a_1), (1, .ref qn), (2, .int i_3)]) ex58 hx hb dL_plans_90 hl (by decide) rfl (fun ls hl => ?_)
        refine lv_aload_n hx hb dL_plans_92 rfl (lv_at hl 7 rfl) ?_
        refine lv_bipush (v := (8)) hx hb dL_plans_93 (by decide) ?_
        refine lv_iload hx hb dL_plans_95 (lv_at hl 3 rfl) ?_
        refine lv_iadd hx hb dL_plans_97 ?_
        obtain ⟨h98, hf⟩ := op_gd hf
        refine va_iald hx hb hKK.1 (tw_n hW) 0 0 (n := 14) rfl rfl h98 dL_plans_98 ?_
        obtain ⟨x59, ex59, hf⟩ := op_st hf
        refine z_ist (lv' := [(5, .int x59), (4, .int x58), (3, .int x56), (7, .int x55), (8, .int x52), (6, .int q6.2.2.2.1), (0, .ref a_1), (1, .ref qn), (2, .int i_3)]) ex59 hx hb dL_plans_99 hl (by decide) rfl (fun ls hl => ?_)
        obtain ⟨x60, ex60, hf⟩ := op_st hf
        refine lv_iinc (v := x60) (lv' := [(6, .int x60), (5, .int x59), (4, .int x58), (3, .int x56), (7, .int x55), (8, .int x52), (0, .ref a_1), (1, .ref qn), (2, .int i_3)]) hx hb dL_plans_101 hl (k := 5) rfl (by rw [ex60]; rfl) (by decide) rfl (fun ls hl => ?_)
        refine lv_goto (tgt := 18) hx hb dL_plans_104 (by decide) ?_
        have hf := zr_l hf hr10
        refine W.widen (k := cv12 + 3) (n := sv13 + 18) (by omega) (by omega) ?_
        exact ih9 (x56, x58, x59, x60, x55) H locs ls (cv12 + 3) (sv13 + 18) (by omega) (by omega) (lv_sub hl [4, 0, 1, 2, 3, 6, 7, 8] rfl) hW hS hf
      obtain ⟨j61, ej61, hf⟩ := op_st hf
      have hj61 : ∀ (u_ : Unit) (H : Heap) (locs : List Loc) (ls : Array Slot), lv_has ls 11 [(8, .int x52), (6, .int q6.2.2.2.1), (5, .int q6.2.2.1), (4, .int q6.2.1), (3, .int q6.1), (0, .ref a_1), (1, .ref qn), (2, .int i_3)] → (TW Γ a_1 M (nC Γ qn I :: X)) H → va_S (zA Γ) s.heap H locs → j61 () = some r7 → W p l e (headSpec wsL_plans rmL_plans).room s m args below meth c H locs (cv12 + 3) (sv13 + 18) (MQ below (GQ Γ (TW Γ a_1 M (nC Γ qn I :: X)) (some (.int y))) args s 166 996 (zA Γ)) (F0 m 65 ls []) := by
        intro u_ H locs ls hl hW hS hf
        rw [ej61] at hf
        refine lv_iconst (v := (0)) hx hb dL_plans_65 (by decide) ?_
        refine W.widen (k := (cv12 + 3)) (n := (sv13 + 18)) (by omega) (by omega) ?_
        exact hj54 (0 : Int32) H locs ls (lv_sub hl [0, 1, 2, 3, 4, 5, 6, 7] rfl) hW hS hf
      refine lv_if_ne (tgt := 65) hx hb dL_plans_48 (by decide) (fun k48 => ?_) (fun k48 => ?_)
      · have hf := (op_if hf).2 k48
        refine W.widen (k := (cv12 + 3)) (n := (sv13 + 18)) (by omega) (by omega) ?_
        exact hj61 () H locs ls (lv_sub hl [0, 2, 3, 4, 5, 6, 7, 8] rfl) hW hS hf
      have hf := (op_if hf).1 k48
      refine lv_aload_n hx hb dL_plans_51 rfl (lv_at hl 6 rfl) ?_
      refine lv_iload hx hb dL_plans_52 (lv_at hl 0 rfl) ?_
      refine g_callW (As := [.ref a_1, .int x52]) (rest := []) ⟨hx, hb, hml, hown, hts⟩ (aL_gameAt l hl0 Γ a_1 M (nC Γ qn I :: X) x52) (vx_cwSW 2 hts gL_plans_L_gameAt rfl rfl rfl (by decide +kernel) ⟨Nat.le_of_ble_eq_true rfl, Nat.le_of_ble_eq_true rfl⟩) hKK hKX hKY hKN hW hS rfl hl.1 rfl (Nat.le_of_ble_eq_true rfl) dL_plans_54 ⟨(by show _ + _ ≤ 166; omega), (by show _ + _ ≤ 996; omega)⟩ (fun H locs hW hS => ?_)
      refine lv_iconst (v := (-1)) hx hb dL_plans_57 (by decide) ?_
      refine lv_icmp_ne (tgt := 65) hx hb dL_plans_58 (by decide) (fun k58 => ?_) (fun k58 => ?_)
      · have hf := (op_if hf).2 k58
        refine W.widen (k := (cv12 + 3)) (n := (sv13 + 18)) (by omega) (by omega) ?_
        exact hj61 () H locs ls (lv_sub hl [0, 2, 3, 4, 5, 6, 7, 8] rfl) hW hS hf
      have hf := (op_if hf).1 k58
      refine lv_iconst (v := (1)) hx hb dL_plans_61 (by decide) ?_
      refine lv_goto (tgt := 66) hx hb dL_plans_62 (by decide) ?_
      refine W.widen (k := (cv12 + 3)) (n := (sv13 + 18)) (by omega) (by omega) ?_
      exact hj54 (1 : Int32) H locs ls (lv_sub hl [0, 2, 3, 4, 5, 6, 7, 8] rfl) hW hS hf
  rw [eq60] at hf
  refine W.widen (k := 1) (n := 6) (by omega) (by omega) ?_
  exact hw8 8 (x1, x2, x3, x4, x5) H locs ls 1 6 (by omega) (by omega) (lv_sub hl [0, 1, 2, 3, 4, 5, 6, 7] rfl) hW hS hf
