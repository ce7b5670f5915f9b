/-! THE LAW'S OWN BODY -/
def lwF (p : Program) (s : State) (m : MethodId) (c : Code) (Γ : zG) (b L : Nat) (xs : Nat → Int32) : Prop := p.tables.exec = Jvm.exec ∧ c.code = cL_law ∧ c.maxLocals = 11 ∧ s.vm.findClass RL = some m.cls ∧ (∀ w ∈ wsL_law, w.before #[Value.ref b] s = true) ∧ va_X b L xs s s.heap ∧ b < s.heap.size ∧ ¬ zA Γ b ∧ Γ.2.2.1 ≤ s.heap.size ∧ KK Γ s ∧ KX s ∧ KY s ∧ KN s
theorem xk_0 {n : Nat} (hn : n < 2 ^ 31) : nI n / (32 : Int32) * (32 : Int32) = nI (n / 32 * 32) := by
  rw [dv_32 hn, show (32 : Int32) = nI 32 by decide, pk_mul]
theorem xk_c {n c : Nat} (hn : n < 2 ^ 31) {C : Int32} (hC : C = nI c) : nI n / (32 : Int32) * (32 : Int32) + C = nI (n / 32 * 32 + c) := by
  rw [xk_0 hn, hC, nI_add]
theorem g3l {l : Launch} {Γ : zG} {a b : Nat} {M M1 N : zMs} {X : va_W} {nn : Nat × va_E} {y : MethodName} {ws : List Cond} {rm : Room} {mc ms : Nat} {av : List Value} {v : Option Value}
    (h : ∀ X : va_W, Met l y ws rm (GP Γ (TW Γ a M (nn :: X)) av) (GQ Γ (TW Γ a M1 (nn :: X)) v) mc ms (zA Γ)) : Met l y ws rm (GP Γ (W2 Γ a b M N (nn :: X)) av) (GQ Γ (W2 Γ a b M1 N (nn :: X)) v) mc ms (zA Γ) := by
  refine met_ex (fun ar s hP => ?_)
  obtain ⟨hv, ⟨Z, hT, hO⟩, hK⟩ := hP
  exact ⟨_, _, h (X ++ Z), ⟨hv, hT, hK⟩, fun o t hq => ⟨hq.1, ⟨Z, hq.2.1, hO⟩, hq.2.2⟩⟩
theorem g3r {l : Launch} {Γ : zG} {a b : Nat} {M N N1 : zMs} {X : va_W} {nn : Nat × va_E} {y : MethodName} {ws : List Cond} {rm : Room} {mc ms : Nat} {av : List Value} {v : Option Value}
    (h : ∀ X : va_W, Met l y ws rm (GP Γ (TW Γ b N (nn :: X)) av) (GQ Γ (TW Γ b N1 (nn :: X)) v) mc ms (zA Γ)) : Met l y ws rm (GP Γ (W2 Γ a b M N (nn :: X)) av) (GQ Γ (W2 Γ a b M N1 (nn :: X)) v) mc ms (zA Γ) := by
  refine met_ex (fun ar s hP => ?_)
  obtain ⟨hv, hW, hK⟩ := hP
  obtain ⟨Z, hT, hO⟩ := w2_swap hW
  exact ⟨_, _, h (X ++ Z), ⟨hv, hT, hK⟩, fun o t hq => ⟨hq.1, w2_swap ⟨Z, hq.2.1, hO⟩, hq.2.2⟩⟩
section ZLW
variable {p : Program} {l : Launch} {e : Env} {s : State} {m : MethodId} {below : List Frame} {meth : Method} {c : Code} {H : Heap} {locs : List Loc} {cells slots : Nat} {Q : State → Prop}
variable {ls : Array Slot} {Γ : zG} {b L a1 a2 q3 th k K T X : Nat} {xs : Nat → Int32} {M M1 : zMs} {I : Nat → Int32} {d : Int32}
set_option maxHeartbeats 4000000 in
set_option maxRecDepth 100000 in
theorem lw_s1 (C : lwF p s m c Γ b L xs) (hk : k < th) (h40 : th ≤ 40) (hc : cells + 100000 ≤ 600086) (hs : slots + 700000 ≤ 7301442) (hW : W2 Γ a1 a2 M M [nC Γ q3 I] H) (hS : va_S (zA Γ) s.heap H locs) (hl : lv_has ls 11 [(6, .int (nI k)), (5, .int (1 : Int32)), (4, .int (nI th)), (3, .ref q3), (2, .ref a2), (1, .ref a1), (0, .ref b)])
    (kk : ∀ (H : Heap) (locs : List Loc) (ls : Array Slot) (X : Nat), X < 2 ^ 31 → W2 Γ a1 a2 M M [nC Γ q3 I] H → va_S (zA Γ) s.heap H locs → lv_has ls 11 [(7, .int (nI X)), (6, .int (nI k)), (5, .int (1 : Int32)), (4, .int (nI th)), (3, .ref q3), (2, .ref a2), (1, .ref a1), (0, .ref b)] → W p l e room_1 s m #[Value.ref b] below meth c H locs cells slots Q (F0 m 165 ls [])) : W p l e room_1 s m #[Value.ref b] below meth c H locs cells slots Q (F0 m 40 ls []) := by
  obtain ⟨hx, hb, hml, hown, hts, hX, hbl, hbA, hB0, hKK, hKX, hKY, hKN⟩ := id C
  refine lv_iload hx hb dL_law_40 (lv_at hl 0 rfl) ?_
  refine lv_iload hx hb dL_law_42 (lv_at hl 2 rfl) ?_
  refine lv_icmp_ge (tgt := 422) hx hb dL_law_44 (by decide) (fun k44 => absurd k44 (nI_ge hk (by omega))) (fun _ => ?_)
  refine lv_iload hx hb dL_law_47 (lv_at hl 1 rfl) ?_
  refine lv_if_eq (tgt := 422) hx hb dL_law_49 (by decide) (fun k49 => absurd k49 (i10)) (fun _ => ?_)
  refine lv_aload_n hx hb dL_law_52 rfl (lv_at hl 6 rfl) ?_
  refine lv_iconst (v := (1)) hx hb dL_law_53 (by decide) ?_
  refine lv_iload hx hb dL_law_54 (lv_at hl 0 rfl) ?_
  refine lv_iadd hx hb dL_law_56 ?_
  refine g_drw (As := [.ref b, .int ((1 : Int32) + nI k)]) (rest := []) ⟨hx, hb, hml, hown, hts⟩ (cL_drawn_ok l Γ (W2 Γ a1 a2 M M [nC Γ q3 I]) b L xs ((1 : Int32) + nI k) (by rw [show (1 : Int32) = nI 1 by decide, nI_add]; exact nI_pos (by omega))) (va_cwS 2 hts gL_law_L_drawn rfl rfl rfl (by decide +kernel) ⟨Nat.le_of_ble_eq_true rfl, Nat.le_of_ble_eq_true rfl⟩) hX hbl hbA hW hS rfl hl.1 rfl (Nat.le_of_ble_eq_true rfl) dL_law_57 ⟨(by show _ + _ ≤ 600086; omega), (by show _ + _ ≤ 7301442; omega)⟩ (fun H locs hW hS => ?_)
  obtain ⟨n, hn, en⟩ := drw_n L xs ((1 : Int32) + nI k)
  show W p l e room_1 s m #[Value.ref b] below meth c H locs (cells + 0) (slots + 0) Q (F0 m 60 ls [.int (drw L xs ((1 : Int32) + nI k))])
  rw [en, Nat.add_zero, Nat.add_zero]
  refine lv_istore (lv' := [(7, .int (nI n)), (6, .int (nI k)), (5, .int (1 : Int32)), (4, .int (nI th)), (3, .ref q3), (2, .ref a2), (1, .ref a1), (0, .ref b)]) hx hb dL_law_60 hl (by decide) rfl (fun ls hl => ?_)
  have j163 : ∀ (y : Int32) (X : Nat), y = nI X → X < 2 ^ 31 → W p l e room_1 s m #[Value.ref b] below meth c H locs cells slots Q (F0 m 163 ls [.int y]) := by
    intro y X hy hX2
    subst hy
    refine lv_istore (lv' := [(7, .int (nI X)), (6, .int (nI k)), (5, .int (1 : Int32)), (4, .int (nI th)), (3, .ref q3), (2, .ref a2), (1, .ref a1), (0, .ref b)]) hx hb dL_law_163 hl (by decide) rfl (fun ls hl => ?_)
    exact kk _ _ _ X hX2 hW hS hl
  refine lv_iload hx hb dL_law_62 (lv_at hl 1 rfl) ?_
  refine lv_iconst (v := (2)) hx hb dL_law_64 (by decide) ?_
  refine lv_icmp_ge (tgt := 79) hx hb dL_law_65 (by decide) (fun k65 => ?_) (fun k65 => ?_)
  rotate_left
  · skip
    refine lv_iload hx hb dL_law_68 (lv_at hl 0 rfl) ?_
    refine lv_bipush (v := (32)) hx hb dL_law_70 (by decide) ?_
    refine lv_idiv hx hb dL_law_72 (by decide) ?_
    refine lv_bipush (v := (32)) hx hb dL_law_73 (by decide) ?_
    refine lv_imul hx hb dL_law_75 ?_
    refine lv_goto (tgt := 163) hx hb dL_law_76 (by decide) ?_
    refine j163 _ (n / 32 * 32) (xk_0 hn) (by omega)
  refine lv_iload hx hb dL_law_79 (lv_at hl 1 rfl) ?_
  refine lv_bipush (v := (6)) hx hb dL_law_81 (by decide) ?_
  refine lv_icmp_ge (tgt := 99) hx hb dL_law_83 (by decide) (fun k83 => ?_) (fun k83 => ?_)
  rotate_left
  · skip
    refine lv_iload hx hb dL_law_86 (lv_at hl 0 rfl) ?_
    refine lv_bipush (v := (32)) hx hb dL_law_88 (by decide) ?_
    refine lv_idiv hx hb dL_law_90 (by decide) ?_
    refine lv_bipush (v := (32)) hx hb dL_law_91 (by decide) ?_
    refine lv_imul hx hb dL_law_93 ?_
    refine lv_iconst (v := (1)) hx hb dL_law_94 (by decide) ?_
    refine lv_iadd hx hb dL_law_95 ?_
    refine lv_goto (tgt := 163) hx hb dL_law_96 (by decide) ?_
    refine j163 _ (n / 32 * 32 + 1) (xk_c hn (by decide)) (by omega)
  refine lv_iload hx hb dL_law_99 (lv_at hl 1 rfl) ?_
  refine lv_bipush (v := (8)) hx hb dL_law_101 (by decide) ?_
  refine lv_icmp_ge (tgt := 119) hx hb dL_law_103 (by decide) (fun k103 => ?_) (fun k103 => ?_)
  rotate_left
  · skip
    refine lv_iload hx hb dL_law_106 (lv_at hl 0 rfl) ?_
    refine lv_bipush (v := (32)) hx hb dL_law_108 (by decide) ?_
    refine lv_idiv hx hb dL_law_110 (by decide) ?_
    refine lv_bipush (v := (32)) hx hb dL_law_111 (by decide) ?_
    refine lv_imul hx hb dL_law_113 ?_
    refine lv_iconst (v := (5)) hx hb dL_law_114 (by decide) ?_
    refine lv_iadd hx hb dL_law_115 ?_
    refine lv_goto (tgt := 163) hx hb dL_law_116 (by decide) ?_
    refine j163 _ (n / 32 * 32 + 5) (xk_c hn (by decide)) (by omega)
  refine lv_iload hx hb dL_law_119 (lv_at hl 1 rfl) ?_
  refine lv_bipush (v := (8)) hx hb dL_law_121 (by decide) ?_
  refine lv_icmp_ne (tgt := 140) hx hb dL_law_123 (by decide) (fun k123 => ?_) (fun k123 => ?_)
  rotate_left
  · skip
    refine lv_iload hx hb dL_law_126 (lv_at hl 0 rfl) ?_
    refine lv_bipush (v := (32)) hx hb dL_law_128 (by decide) ?_
    refine lv_idiv hx hb dL_law_130 (by decide) ?_
    refine lv_bipush (v := (32)) hx hb dL_law_131 (by decide) ?_
    refine lv_imul hx hb dL_law_133 ?_
    refine lv_bipush (v := (7)) hx hb dL_law_134 (by decide) ?_
    refine lv_iadd hx hb dL_law_136 ?_
    refine lv_goto (tgt := 163) hx hb dL_law_137 (by decide) ?_
    refine j163 _ (n / 32 * 32 + 7) (xk_c hn (by decide)) (by omega)
  refine lv_iload hx hb dL_law_140 (lv_at hl 1 rfl) ?_
  refine lv_bipush (v := (9)) hx hb dL_law_142 (by decide) ?_
  refine lv_icmp_ne (tgt := 161) hx hb dL_law_144 (by decide) (fun k144 => ?_) (fun k144 => ?_)
  rotate_left
  · skip
    refine lv_iload hx hb dL_law_147 (lv_at hl 0 rfl) ?_
    refine lv_bipush (v := (32)) hx hb dL_law_149 (by decide) ?_
    refine lv_idiv hx hb dL_law_151 (by decide) ?_
    refine lv_bipush (v := (32)) hx hb dL_law_152 (by decide) ?_
    refine lv_imul hx hb dL_law_154 ?_
    refine lv_bipush (v := (12)) hx hb dL_law_155 (by decide) ?_
    refine lv_iadd hx hb dL_law_157 ?_
    refine lv_goto (tgt := 163) hx hb dL_law_158 (by decide) ?_
    refine j163 _ (n / 32 * 32 + 12) (xk_c hn (by decide)) (by omega)
  refine lv_iload hx hb dL_law_161 (lv_at hl 0 rfl) ?_
  refine j163 _ n rfl hn
set_option maxHeartbeats 4000000 in
set_option maxRecDepth 100000 in
theorem lw_s2 (C : lwF p s m c Γ b L xs) (hl0 : l.stackTraces = false) (hX2 : X < 2 ^ 31) (hc : cells + 100000 ≤ 600086) (hs : slots + 700000 ≤ 7301442) (hI : INV M) (hA : IA M I) (hW : W2 Γ a1 a2 M M [nC Γ q3 I] H) (hS : va_S (zA Γ) s.heap H locs) (hl : lv_has ls 11 [(7, .int (nI X)), (6, .int (nI k)), (5, .int (1 : Int32)), (4, .int (nI th)), (3, .ref q3), (2, .ref a2), (1, .ref a1), (0, .ref b)])
    (kk : ∀ (H : Heap) (locs : List Loc) (ls : Array Slot) (M1 : zMs) (d : Int32), INV M1 → acP M M1 (X % 32) (tbl M X) (X / 32 % 101) d → W2 Γ a1 a2 M1 M1 [nC Γ q3 I] H → va_S (zA Γ) s.heap H locs → lv_has ls 11 [(5, .int (1 : Int32)), (10, .int d), (9, .int (nI (tbl M X))), (8, .int (nI (X % 32))), (7, .int (nI X)), (6, .int (nI k)), (4, .int (nI th)), (3, .ref q3), (2, .ref a2), (1, .ref a1), (0, .ref b)] → W p l e room_1 s m #[Value.ref b] below meth c H locs (cells + 161) (slots + 11884) Q (F0 m 237 ls [])) : W p l e room_1 s m #[Value.ref b] below meth c H locs cells slots Q (F0 m 165 ls []) := by
  obtain ⟨hx, hb, hml, hown, hts, hX, hbl, hbA, hB0, hKK, hKX, hKY, hKN⟩ := id C
  obtain ⟨S, hT⟩ := id hI.1
  have hW0 := hT.1
  have hT6 := nT6 hW0
  have hE := nT_e hW0
  obtain ⟨d, M1, hact, hI1, hp⟩ := act_ok (I := I) hI hX2
  refine lv_iload hx hb dL_law_165 (lv_at hl 0 rfl) ?_
  refine lv_bipush (v := (32)) hx hb dL_law_167 (by decide) ?_
  refine lv_irem hx hb dL_law_169 (by decide) ?_
  have e169 : (nI X) - (nI X) / (32 : Int32) * (32 : Int32) = nI (X % 32) := rm_32 hX2
  rw [e169]
  refine lv_istore (lv' := [(8, .int (nI (X % 32))), (7, .int (nI X)), (6, .int (nI k)), (5, .int (1 : Int32)), (4, .int (nI th)), (3, .ref q3), (2, .ref a2), (1, .ref a1), (0, .ref b)]) hx hb dL_law_170 hl (by decide) rfl (fun ls hl => ?_)
  have j193 : ∀ (H : Heap) (locs : List Loc) (y : Int32), W2 Γ a1 a2 M M [nC Γ q3 I] H → va_S (zA Γ) s.heap H locs → y = nI (tbl M X) → W p l e room_1 s m #[Value.ref b] below meth c H locs cells slots Q (F0 m 193 ls [.int y]) := by
    intro H locs y hW hS hy
    subst hy
    refine lv_istore (lv' := [(9, .int (nI (tbl M X))), (8, .int (nI (X % 32))), (7, .int (nI X)), (6, .int (nI k)), (5, .int (1 : Int32)), (4, .int (nI th)), (3, .ref q3), (2, .ref a2), (1, .ref a1), (0, .ref b)]) hx hb dL_law_193 hl (by decide) rfl (fun ls hl => ?_)
    refine lv_aload_n hx hb dL_law_195 rfl (lv_at hl 8 rfl) ?_
    refine lv_aload_n hx hb dL_law_196 rfl (lv_at hl 6 rfl) ?_
    refine lv_iload hx hb dL_law_197 (lv_at hl 2 rfl) ?_
    refine g_callS (As := [.ref a1, .ref q3, .int (nI X)]) (rest := []) ⟨hx, hb, hml, hown, hts⟩ (g3l (a := a1) (b := a2) (N := M) (X := []) (fun X => cL_act_ok l hl0 Γ a1 q3 M X hact)) (va_cwS 3 hts gL_law_L_act rfl rfl rfl (by decide +kernel) ⟨Nat.le_of_ble_eq_true rfl, Nat.le_of_ble_eq_true rfl⟩) hKK hKX hKY hKN hW hS rfl hl.1 rfl (Nat.le_of_ble_eq_true rfl) dL_law_199 ⟨(by show _ + _ ≤ 600086; omega), (by show _ + _ ≤ 7301442; omega)⟩ (fun H locs hW hS => ?_)
    refine lv_istore (lv' := [(10, .int d), (9, .int (nI (tbl M X))), (8, .int (nI (X % 32))), (7, .int (nI X)), (6, .int (nI k)), (5, .int (1 : Int32)), (4, .int (nI th)), (3, .ref q3), (2, .ref a2), (1, .ref a1), (0, .ref b)]) hx hb dL_law_202 hl (by decide) rfl (fun ls hl => ?_)
    refine lv_aload_n hx hb dL_law_204 rfl (lv_at hl 8 rfl) ?_
    refine lv_aload_n hx hb dL_law_205 rfl (lv_at hl 7 rfl) ?_
    refine lv_iload hx hb dL_law_206 (lv_at hl 3 rfl) ?_
    refine lv_sipush (v := (9973)) hx hb dL_law_208 (by decide) ?_
    refine lv_irem hx hb dL_law_211 (by decide) ?_
    have e211 : (nI X) - (nI X) / (9973 : Int32) * (9973 : Int32) = nI (X % 9973) := rm_9973 hX2
    rw [e211]
    refine g_callS (As := [.ref a2, .ref q3, .int (nI (X % 9973))]) (rest := []) ⟨hx, hb, hml, hown, hts⟩ (g3r (a := a1) (b := a2) (M := M1) (X := []) (fun X => cL_refuses_ok l hl0 Γ a2 q3 M X (inv_refuses hI hA.1 (Nat.mod_lt _ (by omega))))) (va_cwS 3 hts gL_law_L_refuses rfl rfl rfl (by decide +kernel) ⟨Nat.le_of_ble_eq_true rfl, Nat.le_of_ble_eq_true rfl⟩) hKK hKX hKY hKN hW hS rfl hl.1 rfl (Nat.le_of_ble_eq_true rfl) dL_law_212 ⟨(by show _ + _ ≤ 600086; omega), (by show _ + _ ≤ 7301442; omega)⟩ (fun H locs hW hS => ?_)
    refine lv_if_eq (tgt := 234) hx hb dL_law_215 (by decide) (fun k215 => absurd k215 (i10)) (fun _ => ?_)
    refine lv_aload_n hx hb dL_law_218 rfl (lv_at hl 8 rfl) ?_
    refine lv_aload_n hx hb dL_law_219 rfl (lv_at hl 7 rfl) ?_
    refine lv_iload hx hb dL_law_220 (lv_at hl 3 rfl) ?_
    refine g_callS (As := [.ref a2, .ref q3, .int (nI X)]) (rest := []) ⟨hx, hb, hml, hown, hts⟩ (g3r (a := a1) (b := a2) (M := M1) (X := []) (fun X => cL_act_ok l hl0 Γ a2 q3 M X hact)) (va_cwS 3 hts gL_law_L_act rfl rfl rfl (by decide +kernel) ⟨Nat.le_of_ble_eq_true rfl, Nat.le_of_ble_eq_true rfl⟩) hKK hKX hKY hKN hW hS rfl hl.1 rfl (Nat.le_of_ble_eq_true rfl) dL_law_222 ⟨(by show _ + _ ≤ 600086; omega), (by show _ + _ ≤ 7301442; omega)⟩ (fun H locs hW hS => ?_)
    refine lv_iload hx hb dL_law_225 (lv_at hl 0 rfl) ?_
    refine lv_icmp_ne (tgt := 234) hx hb dL_law_227 (by decide) (fun k227 => absurd (rfl) k227) (fun _ => ?_)
    refine lv_iconst (v := (1)) hx hb dL_law_230 (by decide) ?_
    refine lv_goto (tgt := 235) hx hb dL_law_231 (by decide) ?_
    refine lv_istore (lv' := [(5, .int (1 : Int32)), (10, .int d), (9, .int (nI (tbl M X))), (8, .int (nI (X % 32))), (7, .int (nI X)), (6, .int (nI k)), (4, .int (nI th)), (3, .ref q3), (2, .ref a2), (1, .ref a1), (0, .ref b)]) hx hb dL_law_235 hl (by decide) rfl (fun ls hl => ?_)
    exact kk _ _ _ M1 d hI1 hp hW hS hl
  refine lv_aload_n hx hb dL_law_172 rfl (lv_at hl 7 rfl) ?_
  obtain ⟨fs_, hr_⟩ := w2_rl hW
  refine g_callV (As := []) (rest := []) ⟨hx, hb, hml, hown, hts⟩ (g2l (fun X => aX_tables l Γ a1 M X)) (cwV 0 hts gL_law_X9_tables rfl rfl rfl (by decide +kernel) ⟨Nat.le_of_ble_eq_true rfl, Nat.le_of_ble_eq_true rfl⟩) hr_ rfl hKK hKX hKY hKN hW hS rfl hl.1 rfl (Nat.le_of_ble_eq_true rfl) dL_law_173 ⟨(by show _ + _ ≤ 600086; omega), (by show _ + _ ≤ 7301442; omega)⟩ (fun H locs hW hS => ?_)
  show W p l e room_1 s m #[Value.ref b] below meth c H locs (cells + 0) (slots + 0) Q (F0 m 176 ls [.int (M 1 0)])
  rw [Nat.add_zero, Nat.add_zero]
  refine lv_if_ne (tgt := 183) hx hb dL_law_176 (by decide) (fun k176 => ?_) (fun k176 => ?_)
  rotate_left
  · skip
    refine lv_iconst (v := (0)) hx hb dL_law_179 (by decide) ?_
    refine lv_goto (tgt := 193) hx hb dL_law_180 (by decide) ?_
    refine j193 _ _ _ hW hS ?_
    unfold tbl
    have e0 : nT M = 0 := by
      unfold nT
      rw [k176]
      rfl
    rw [if_pos e0]
    exact nI_0.symm
  refine lv_iload hx hb dL_law_183 (lv_at hl 1 rfl) ?_
  refine lv_bipush (v := (32)) hx hb dL_law_185 (by decide) ?_
  refine lv_idiv hx hb dL_law_187 (by decide) ?_
  have e187 : (nI X) / (32 : Int32) = nI (X / 32) := dv_32 hX2
  rw [e187]
  refine lv_aload_n hx hb dL_law_188 rfl (lv_at hl 7 rfl) ?_
  obtain ⟨fs_, hr_⟩ := w2_rl hW
  refine g_callV (As := []) (rest := [.int (nI (X / 32))]) ⟨hx, hb, hml, hown, hts⟩ (g2l (fun X => aX_tables l Γ a1 M X)) (cwV 0 hts gL_law_X9_tables rfl rfl rfl (by decide +kernel) ⟨Nat.le_of_ble_eq_true rfl, Nat.le_of_ble_eq_true rfl⟩) hr_ rfl hKK hKX hKY hKN hW hS rfl hl.1 rfl (Nat.le_of_ble_eq_true rfl) dL_law_189 ⟨(by show _ + _ ≤ 600086; omega), (by show _ + _ ≤ 7301442; omega)⟩ (fun H locs hW hS => ?_)
  show W p l e room_1 s m #[Value.ref b] below meth c H locs (cells + 0) (slots + 0) Q (F0 m 192 ls [.int (M 1 0), .int (nI (X / 32))])
  rw [Nat.add_zero, Nat.add_zero]
  refine lv_irem hx hb dL_law_192 k176 ?_
  refine j193 _ _ _ hW hS ?_
  have e0 : ¬ nT M = 0 := fun q => k176 (by rw [hE, q]; exact nI_0)
  unfold tbl
  rw [if_neg e0, hE]
  exact pk_rem (by omega) (by omega) (by omega)
set_option maxHeartbeats 4000000 in
set_option maxRecDepth 100000 in
theorem lw_s3 (C : lwF p s m c Γ b L xs) (hK : K < 32) (hT : T < 6) (hX2 : X < 2 ^ 31) (hd : K = 0 → ¬ d < 0 → ∃ t, t < 6 ∧ d = nI t) (hW : W2 Γ a1 a2 M M [nC Γ q3 I] H) (hS : va_S (zA Γ) s.heap H locs) (hl : lv_has ls 11 [(5, .int (1 : Int32)), (10, .int d), (9, .int (nI T)), (8, .int (nI K)), (7, .int (nI X)), (6, .int (nI k)), (4, .int (nI th)), (3, .ref q3), (2, .ref a2), (1, .ref a1), (0, .ref b)])
    (kk : ∀ (H : Heap) (locs : List Loc), W2 Γ a1 a2 M M [nC Γ q3 (nI1 I K (X / 32 % 101) d)] H → va_S (zA Γ) s.heap H locs → W p l e room_1 s m #[Value.ref b] below meth c H locs cells slots Q (F0 m 283 ls [])) : W p l e room_1 s m #[Value.ref b] below meth c H locs cells slots Q (F0 m 237 ls []) := by
  obtain ⟨hx, hb, hml, hown, hts, hX, hbl, hbA, hB0, hKK, hKX, hKY, hKN⟩ := id C
  refine lv_aload_n hx hb dL_law_237 rfl (lv_at hl 7 rfl) ?_
  refine lv_bipush (v := (8)) hx hb dL_law_238 (by decide) ?_
  by_cases hz : K = 0 ∧ ¬ d < 0
  · obtain ⟨t, ht, ed⟩ := hd hz.1 hz.2
    have ek : nI K = 0 := by rw [hz.1]; exact nI_0
    have hin : vp_in ((8 : Int32) + d) 14 := by
      rw [ed, show (8 : Int32) = nI 8 by decide, nI_add]
      exact fun q => q.elim (nI_pos (by omega)) (by rw [nI_clamp (by omega)]; omega)
    refine lv_iload hx hb dL_law_240 (lv_at hl 3 rfl) ?_
    refine lv_if_ne (tgt := 255) hx hb dL_law_242 (by decide) (fun k242 => absurd (ek) k242) (fun _ => ?_)
    refine lv_iload hx hb dL_law_245 (lv_at hl 1 rfl) ?_
    refine lv_if_lt (tgt := 255) hx hb dL_law_247 (by decide) (fun k247 => absurd k247 (hz.2)) (fun _ => ?_)
    refine lv_iload hx hb dL_law_250 (lv_at hl 1 rfl) ?_
    refine lv_goto (tgt := 256) hx hb dL_law_252 (by decide) ?_
    refine lv_iadd hx hb dL_law_256 ?_
    refine lv_iload hx hb dL_law_257 (lv_at hl 3 rfl) ?_
    refine lv_if_ne (tgt := 278) hx hb dL_law_259 (by decide) (fun k259 => absurd (ek) k259) (fun _ => ?_)
    refine lv_iload hx hb dL_law_262 (lv_at hl 1 rfl) ?_
    refine lv_if_lt (tgt := 278) hx hb dL_law_264 (by decide) (fun k264 => absurd k264 (hz.2)) (fun _ => ?_)
    refine lv_iload hx hb dL_law_267 (lv_at hl 4 rfl) ?_
    refine lv_bipush (v := (32)) hx hb dL_law_269 (by decide) ?_
    refine lv_idiv hx hb dL_law_271 (by decide) ?_
    have e271 : (nI X) / (32 : Int32) = nI (X / 32) := dv_32 hX2
    rw [e271]
    refine lv_bipush (v := (101)) hx hb dL_law_272 (by decide) ?_
    refine lv_irem hx hb dL_law_274 (by decide) ?_
    have e274 : (nI (X / 32)) - (nI (X / 32)) / (101 : Int32) * (101 : Int32) = nI (X / 32 % 101) := rm_101 (by omega)
    rw [e274]
    refine lv_goto (tgt := 282) hx hb dL_law_275 (by decide) ?_
    refine g_nst hx hb hKK hW hS hin dL_law_282 (fun H locs hW hS => ?_)
    have e1 : nI1 I K (X / 32 % 101) d = upd I ((8 : Int32) + d).toNatClampNeg (nI (X / 32 % 101)) := if_pos hz
    rw [← e1] at hW
    exact kk _ _ hW hS
  have j278 : W p l e room_1 s m #[Value.ref b] below meth c H locs cells slots Q (F0 m 278 ls [.int ((8 : Int32) + (5 : Int32)), .ref q3]) := by
    refine lv_aload_n hx hb dL_law_278 rfl (lv_at hl 7 rfl) ?_
    refine lv_bipush (v := (13)) hx hb dL_law_279 (by decide) ?_
    refine va_iald hx hb hKK.1 (w2_n hW) 0 0 (n := 14) rfl rfl (by unfold vp_in; decide) dL_law_281 ?_
    refine g_nst hx hb hKK hW hS (by unfold vp_in; decide) dL_law_282 (fun H locs hW hS => ?_)
    have e1 : nI1 I K (X / 32 % 101) d = I := if_neg hz
    have e2 : upd I ((8 : Int32) + (5 : Int32)).toNatClampNeg (I (13 : Int32).toNatClampNeg) = I := upd_i I 13
    rw [e2, ← e1] at hW
    exact kk _ _ hW hS
  have j257 : W p l e room_1 s m #[Value.ref b] below meth c H locs cells slots Q (F0 m 257 ls [.int ((8 : Int32) + (5 : Int32)), .ref q3]) := by
    refine lv_iload hx hb dL_law_257 (lv_at hl 3 rfl) ?_
    refine lv_if_ne (tgt := 278) hx hb dL_law_259 (by decide) (fun _ => j278) (fun k259 => ?_)
    refine lv_iload hx hb dL_law_262 (lv_at hl 1 rfl) ?_
    refine lv_if_lt (tgt := 278) hx hb dL_law_264 (by decide) (fun _ => j278) (fun k264 => absurd ?_ hz)
    refine ⟨?_, k264⟩
    by_cases q : K = 0
    · exact q
    · exact absurd k259 (nI_ne0 (by omega) (by omega))
  have j255 : W p l e room_1 s m #[Value.ref b] below meth c H locs cells slots Q (F0 m 255 ls [.int (8 : Int32), .ref q3]) := by
    refine lv_iconst (v := (5)) hx hb dL_law_255 (by decide) ?_
    refine lv_iadd hx hb dL_law_256 ?_
    exact j257
  refine lv_iload hx hb dL_law_240 (lv_at hl 3 rfl) ?_
  refine lv_if_ne (tgt := 255) hx hb dL_law_242 (by decide) (fun _ => j255) (fun k242 => ?_)
  refine lv_iload hx hb dL_law_245 (lv_at hl 1 rfl) ?_
  refine lv_if_lt (tgt := 255) hx hb dL_law_247 (by decide) (fun _ => j255) (fun k247 => absurd ?_ hz)
  refine ⟨?_, k247⟩
  by_cases q : K = 0
  · exact q
  · exact absurd k242 (nI_ne0 (by omega) (by omega))
set_option maxHeartbeats 4000000 in
set_option maxRecDepth 100000 in
theorem lw_s4 (C : lwF p s m c Γ b L xs) (hK : K < 32) (hT : T < 6) (hX2 : X < 2 ^ 31) (hW : W2 Γ a1 a2 M M [nC Γ q3 I] H) (hS : va_S (zA Γ) s.heap H locs) (hl : lv_has ls 11 [(5, .int (1 : Int32)), (10, .int d), (9, .int (nI T)), (8, .int (nI K)), (7, .int (nI X)), (6, .int (nI k)), (4, .int (nI th)), (3, .ref q3), (2, .ref a2), (1, .ref a1), (0, .ref b)])
    (kk : ∀ (H : Heap) (locs : List Loc), W2 Γ a1 a2 M M [nC Γ q3 (nI2 I K T d)] H → va_S (zA Γ) s.heap H locs → W p l e room_1 s m #[Value.ref b] below meth c H locs cells slots Q (F0 m 311 ls [])) : W p l e room_1 s m #[Value.ref b] below meth c H locs cells slots Q (F0 m 283 ls []) := by
  obtain ⟨hx, hb, hml, hown, hts, hX, hbl, hbA, hB0, hKK, hKX, hKY, hKN⟩ := id C
  have hin : vp_in (nI T) 14 := fun q => q.elim (nI_pos (by omega)) (by rw [nI_clamp (by omega)]; omega)
  refine lv_aload_n hx hb dL_law_283 rfl (lv_at hl 7 rfl) ?_
  refine lv_iload hx hb dL_law_284 (lv_at hl 2 rfl) ?_
  refine lv_dup2_11 hx hb dL_law_286 rfl rfl ?_
  refine va_iald hx hb hKK.1 (w2_n hW) 0 0 (n := 14) rfl rfl hin dL_law_287 ?_
  have ei : I (nI T).toNatClampNeg = I T := by rw [nI_clamp (by omega)]
  have ec : (nI T).toNatClampNeg = T := nI_clamp (by omega)
  by_cases hz : 0 < K ∧ K < 5 ∧ ¬ d < 0
  · skip
    refine lv_iload hx hb dL_law_288 (lv_at hl 3 rfl) ?_
    refine lv_if_le (tgt := 308) hx hb dL_law_290 (by decide) (fun k290 => absurd k290 (nI_nle hz.1 (by omega))) (fun _ => ?_)
    refine lv_iload hx hb dL_law_293 (lv_at hl 3 rfl) ?_
    refine lv_iconst (v := (5)) hx hb dL_law_295 (by decide) ?_
    refine lv_icmp_ge (tgt := 308) hx hb dL_law_296 (by decide) (fun k296 => absurd k296 (by rw [show (5 : Int32) = nI 5 by decide]; exact nI_ge hz.2.1 (by omega))) (fun _ => ?_)
    refine lv_iload hx hb dL_law_299 (lv_at hl 1 rfl) ?_
    refine lv_if_lt (tgt := 308) hx hb dL_law_301 (by decide) (fun k301 => absurd k301 (hz.2.2)) (fun _ => ?_)
    refine lv_iconst (v := (1)) hx hb dL_law_304 (by decide) ?_
    refine lv_goto (tgt := 309) hx hb dL_law_305 (by decide) ?_
    refine lv_iadd hx hb dL_law_309 ?_
    refine g_nst hx hb hKK hW hS hin dL_law_310 (fun H locs hW hS => ?_)
    have e1 : nI2 I K T d = upd I (nI T).toNatClampNeg (I (nI T).toNatClampNeg + (1 : Int32)) := by rw [ec]; exact if_pos hz
    rw [← e1] at hW
    exact kk _ _ hW hS
  have j : W p l e room_1 s m #[Value.ref b] below meth c H locs cells slots Q (F0 m 308 ls [.int (I (nI T).toNatClampNeg), .int (nI T), .ref q3]) := by
    refine lv_iconst (v := (0)) hx hb dL_law_308 (by decide) ?_
    refine lv_iadd hx hb dL_law_309 ?_
    refine g_nst hx hb hKK hW hS hin dL_law_310 (fun H locs hW hS => ?_)
    have e1 : nI2 I K T d = I := if_neg hz
    have e2 : upd I (nI T).toNatClampNeg (I (nI T).toNatClampNeg + (0 : Int32)) = I := by rw [Int32.add_zero, upd_i]
    rw [e2, ← e1] at hW
    exact kk _ _ hW hS
  refine lv_iload hx hb dL_law_288 (lv_at hl 3 rfl) ?_
  refine lv_if_le (tgt := 308) hx hb dL_law_290 (by decide) (fun _ => j) (fun k290 => ?_)
  refine lv_iload hx hb dL_law_293 (lv_at hl 3 rfl) ?_
  refine lv_iconst (v := (5)) hx hb dL_law_295 (by decide) ?_
  refine lv_icmp_ge (tgt := 308) hx hb dL_law_296 (by decide) (fun _ => j) (fun k296 => ?_)
  refine lv_iload hx hb dL_law_299 (lv_at hl 1 rfl) ?_
  refine lv_if_lt (tgt := 308) hx hb dL_law_301 (by decide) (fun _ => j) (fun k301 => absurd ?_ hz)
  refine ⟨?_, ?_, k301⟩
  · by_cases q : K = 0
    · exact absurd (show nI K ≤ 0 by rw [q]; decide) k290
    · omega
  · exact Nat.lt_of_not_le (fun q => k296 (by rw [show (5 : Int32) = nI 5 by decide]; exact nI_le q (by omega)))
set_option maxHeartbeats 4000000 in
set_option maxRecDepth 100000 in
theorem lw_s5 (C : lwF p s m c Γ b L xs) (hK : K < 32) (hT : T < 6) (hX2 : X < 2 ^ 31) (hW : W2 Γ a1 a2 M M [nC Γ q3 I] H) (hS : va_S (zA Γ) s.heap H locs) (hl : lv_has ls 11 [(5, .int (1 : Int32)), (10, .int d), (9, .int (nI T)), (8, .int (nI K)), (7, .int (nI X)), (6, .int (nI k)), (4, .int (nI th)), (3, .ref q3), (2, .ref a2), (1, .ref a1), (0, .ref b)])
    (kk : ∀ (H : Heap) (locs : List Loc), W2 Γ a1 a2 M M [nC Γ q3 (nI3 I K d)] H → va_S (zA Γ) s.heap H locs → W p l e room_1 s m #[Value.ref b] below meth c H locs cells slots Q (F0 m 342 ls [])) : W p l e room_1 s m #[Value.ref b] below meth c H locs cells slots Q (F0 m 311 ls []) := by
  obtain ⟨hx, hb, hml, hown, hts, hX, hbl, hbA, hB0, hKK, hKX, hKY, hKN⟩ := id C
  have hin : vp_in ((6 : Int32)) 14 := by unfold vp_in; decide
  refine lv_aload_n hx hb dL_law_311 rfl (lv_at hl 7 rfl) ?_
  refine lv_bipush (v := (6)) hx hb dL_law_312 (by decide) ?_
  refine lv_dup2_11 hx hb dL_law_314 rfl rfl ?_
  refine va_iald hx hb hKK.1 (w2_n hW) 0 0 (n := 14) rfl rfl hin dL_law_315 ?_
  have ei : I ((6 : Int32)).toNatClampNeg = I 6 := by rw [show (6 : Int32).toNatClampNeg = 6 from rfl]
  have ec : ((6 : Int32)).toNatClampNeg = 6 := rfl
  by_cases hz : 8 < K ∧ K < 12 ∧ ¬ d < 0
  · skip
    refine lv_iload hx hb dL_law_316 (lv_at hl 3 rfl) ?_
    refine lv_bipush (v := (8)) hx hb dL_law_318 (by decide) ?_
    refine lv_icmp_le (tgt := 339) hx hb dL_law_320 (by decide) (fun k320 => absurd k320 (by rw [show (8 : Int32) = nI 8 by decide]; exact nI_ge hz.1 (by omega))) (fun _ => ?_)
    refine lv_iload hx hb dL_law_323 (lv_at hl 3 rfl) ?_
    refine lv_bipush (v := (12)) hx hb dL_law_325 (by decide) ?_
    refine lv_icmp_ge (tgt := 339) hx hb dL_law_327 (by decide) (fun k327 => absurd k327 (by rw [show (12 : Int32) = nI 12 by decide]; exact nI_ge hz.2.1 (by omega))) (fun _ => ?_)
    refine lv_iload hx hb dL_law_330 (lv_at hl 1 rfl) ?_
    refine lv_if_lt (tgt := 339) hx hb dL_law_332 (by decide) (fun k332 => absurd k332 (hz.2.2)) (fun _ => ?_)
    refine lv_iconst (v := (1)) hx hb dL_law_335 (by decide) ?_
    refine lv_goto (tgt := 340) hx hb dL_law_336 (by decide) ?_
    refine lv_iadd hx hb dL_law_340 ?_
    refine g_nst hx hb hKK hW hS hin dL_law_341 (fun H locs hW hS => ?_)
    have e1 : nI3 I K d = upd I ((6 : Int32)).toNatClampNeg (I ((6 : Int32)).toNatClampNeg + (1 : Int32)) := by rw [ec]; exact if_pos hz
    rw [← e1] at hW
    exact kk _ _ hW hS
  have j : W p l e room_1 s m #[Value.ref b] below meth c H locs cells slots Q (F0 m 339 ls [.int (I ((6 : Int32)).toNatClampNeg), .int (6 : Int32), .ref q3]) := by
    refine lv_iconst (v := (0)) hx hb dL_law_339 (by decide) ?_
    refine lv_iadd hx hb dL_law_340 ?_
    refine g_nst hx hb hKK hW hS hin dL_law_341 (fun H locs hW hS => ?_)
    have e1 : nI3 I K d = I := if_neg hz
    have e2 : upd I ((6 : Int32)).toNatClampNeg (I ((6 : Int32)).toNatClampNeg + (0 : Int32)) = I := by rw [Int32.add_zero, upd_i]
    rw [e2, ← e1] at hW
    exact kk _ _ hW hS
  refine lv_iload hx hb dL_law_316 (lv_at hl 3 rfl) ?_
  refine lv_bipush (v := (8)) hx hb dL_law_318 (by decide) ?_
  refine lv_icmp_le (tgt := 339) hx hb dL_law_320 (by decide) (fun _ => j) (fun k320 => ?_)
  refine lv_iload hx hb dL_law_323 (lv_at hl 3 rfl) ?_
  refine lv_bipush (v := (12)) hx hb dL_law_325 (by decide) ?_
  refine lv_icmp_ge (tgt := 339) hx hb dL_law_327 (by decide) (fun _ => j) (fun k327 => ?_)
  refine lv_iload hx hb dL_law_330 (lv_at hl 1 rfl) ?_
  refine lv_if_lt (tgt := 339) hx hb dL_law_332 (by decide) (fun _ => j) (fun k332 => absurd ?_ hz)
  refine ⟨?_, ?_, k332⟩
  · exact Nat.lt_of_not_le (fun q => k320 (by rw [show (8 : Int32) = nI 8 by decide]; exact nI_le q (by omega)))
  · exact Nat.lt_of_not_le (fun q => k327 (by rw [show (12 : Int32) = nI 12 by decide]; exact nI_le q (by omega)))
set_option maxHeartbeats 4000000 in
set_option maxRecDepth 100000 in
theorem lw_s6 (C : lwF p s m c Γ b L xs) (hl0 : l.stackTraces = false) (hX2 : X < 2 ^ 31) (hk : k < 40) (hc : cells + 100000 ≤ 600086) (hs : slots + 700000 ≤ 7301442) (hI : INV M) (hA : IA M I) (hW : W2 Γ a1 a2 M M [nC Γ q3 I] H) (hS : va_S (zA Γ) s.heap H locs) (hl : lv_has ls 11 [(5, .int (1 : Int32)), (10, .int d), (9, .int (nI T)), (8, .int (nI K)), (7, .int (nI X)), (6, .int (nI k)), (4, .int (nI th)), (3, .ref q3), (2, .ref a2), (1, .ref a1), (0, .ref b)])
    (kk : ∀ (H : Heap) (locs : List Loc) (ls : Array Slot), W2 Γ a1 a2 M M [nC Γ q3 I] H → va_S (zA Γ) s.heap H locs → lv_has ls 11 [(6, .int (nI (k + 1))), (5, .int (1 : Int32)), (4, .int (nI th)), (3, .ref q3), (2, .ref a2), (1, .ref a1), (0, .ref b)] → W p l e room_1 s m #[Value.ref b] below meth c H locs (cells + 977 + (if k % 7 = 0 then 17011 else 0)) (slots + 11660 + (if k % 7 = 0 then 102066 else 0)) Q (F0 m 40 ls [])) : W p l e room_1 s m #[Value.ref b] below meth c H locs cells slots Q (F0 m 342 ls []) := by
  obtain ⟨hx, hb, hml, hown, hts, hX, hbl, hbA, hB0, hKK, hKX, hKY, hKN⟩ := id C
  obtain ⟨S, hT⟩ := id hI.1
  have hW0 := hT.1
  have j409 : ∀ (H : Heap) (locs : List Loc), W2 Γ a1 a2 M M [nC Γ q3 I] H → va_S (zA Γ) s.heap H locs → W p l e room_1 s m #[Value.ref b] below meth c H locs (cells + 977 + (if k % 7 = 0 then 17011 else 0)) (slots + 11660 + (if k % 7 = 0 then 102066 else 0)) Q (F0 m 409 ls []) := by
    intro H locs hW hS
    refine lv_iconst (v := (1)) hx hb dL_law_409 (by decide) ?_
    refine lv_goto (tgt := 414) hx hb dL_law_410 (by decide) ?_
    refine lv_istore (lv' := [(5, .int (1 : Int32)), (10, .int d), (9, .int (nI T)), (8, .int (nI K)), (7, .int (nI X)), (6, .int (nI k)), (4, .int (nI th)), (3, .ref q3), (2, .ref a2), (1, .ref a1), (0, .ref b)]) hx hb dL_law_414 hl (by decide) rfl (fun ls hl => ?_)
    refine lv_iinc (v := nI (k + 1)) (lv' := [(6, .int (nI (k + 1))), (5, .int (1 : Int32)), (10, .int d), (9, .int (nI T)), (8, .int (nI K)), (7, .int (nI X)), (4, .int (nI th)), (3, .ref q3), (2, .ref a2), (1, .ref a1), (0, .ref b)]) hx hb dL_law_416 hl (k := 5) rfl (nI_1 k) (by decide) rfl (fun ls hl => ?_)
    refine lv_goto (tgt := 40) hx hb dL_law_419 (by decide) ?_
    exact kk _ _ _ hW hS (lv_sub hl [0, 1, 6, 7, 8, 9, 10] rfl)
  have j388 : ∀ (H : Heap) (locs : List Loc), W2 Γ a1 a2 M M [nC Γ q3 I] H → va_S (zA Γ) s.heap H locs → W p l e room_1 s m #[Value.ref b] below meth c H locs (cells + 977) (slots + 11660) Q (F0 m 388 ls []) := by
    intro H locs hW hS
    refine lv_iload hx hb dL_law_388 (lv_at hl 5 rfl) ?_
    refine lv_bipush (v := (7)) hx hb dL_law_390 (by decide) ?_
    refine lv_irem hx hb dL_law_392 (by decide) ?_
    have e392 : (nI k) - (nI k) / (7 : Int32) * (7 : Int32) = nI (k % 7) := rm_7 (by omega)
    rw [e392]
    refine lv_if_gt (tgt := 409) hx hb dL_law_393 (by decide) (fun k393 => ?_) (fun k393 => ?_)
    · refine W.widen (k := (cells + 977 + (if k % 7 = 0 then 17011 else 0))) (n := (slots + 11660 + (if k % 7 = 0 then 102066 else 0))) (by omega) (by omega) ?_
      exact j409 _ _ hW hS
    have e7 : k % 7 = 0 := by
      by_cases q : k % 7 = 0
      · exact q
      · exact absurd ((gtz (by omega)).mpr (by omega)) k393
    refine lv_aload_n hx hb dL_law_396 rfl (lv_at hl 8 rfl) ?_
    refine lv_aload_n hx hb dL_law_397 rfl (lv_at hl 7 rfl) ?_
    refine lv_iload hx hb dL_law_398 (lv_at hl 4 rfl) ?_
    refine lv_bipush (v := (7)) hx hb dL_law_400 (by decide) ?_
    refine lv_idiv hx hb dL_law_402 (by decide) ?_
    have e402 : (nI X) / (7 : Int32) = nI (X / 7) := dv_7 hX2
    rw [e402]
    refine g_callS (As := [.ref a2, .ref q3, .int (nI (X / 7))]) (rest := []) ⟨hx, hb, hml, hown, hts⟩ (g3r (a := a1) (b := a2) (M := M) (X := []) (fun X1 => cL_holds_ok l hl0 Γ a2 q3 M X1 (holds_ok (X := X / 7) hT hI.2.1 hI.2.2.1 hA.1 hA.2.1 hA.2.2 (by omega)))) (va_cwS 3 hts gL_law_L_holds rfl rfl rfl (by decide +kernel) ⟨Nat.le_of_ble_eq_true rfl, Nat.le_of_ble_eq_true rfl⟩) hKK hKX hKY hKN hW hS rfl hl.1 rfl (Nat.le_of_ble_eq_true rfl) dL_law_403 ⟨(by show _ + _ ≤ 600086; omega), (by show _ + _ ≤ 7301442; omega)⟩ (fun H locs hW hS => ?_)
    refine lv_if_eq (tgt := 413) hx hb dL_law_406 (by decide) (fun k406 => absurd k406 (i10)) (fun _ => ?_)
    have := j409 _ _ hW hS
    rw [if_pos e7, if_pos e7] at this
    exact this
  have j368 : ∀ (H : Heap) (locs : List Loc), W2 Γ a1 a2 M M [nC Γ q3 I] H → va_S (zA Γ) s.heap H locs → W p l e room_1 s m #[Value.ref b] below meth c H locs (cells + 143) (slots + 6656) Q (F0 m 368 ls []) := by
    intro H locs hW hS
    refine lv_iload hx hb dL_law_368 (lv_at hl 5 rfl) ?_
    refine lv_iconst (v := (2)) hx hb dL_law_370 (by decide) ?_
    refine lv_irem hx hb dL_law_371 (by decide) ?_
    have e371 : (nI k) - (nI k) / (2 : Int32) * (2 : Int32) = nI (k % 2) := rm_2 (by omega)
    rw [e371]
    refine lv_if_gt (tgt := 388) hx hb dL_law_372 (by decide) (fun k372 => ?_) (fun k372 => ?_)
    · refine W.widen (k := (cells + 977)) (n := (slots + 11660)) (by omega) (by omega) ?_
      exact j388 _ _ hW hS
    refine lv_aload_n hx hb dL_law_375 rfl (lv_at hl 9 rfl) ?_
    refine lv_aload_n hx hb dL_law_376 rfl (lv_at hl 8 rfl) ?_
    refine lv_aload_n hx hb dL_law_377 rfl (lv_at hl 7 rfl) ?_
    refine lv_iload hx hb dL_law_378 (lv_at hl 4 rfl) ?_
    refine lv_iconst (v := (3)) hx hb dL_law_380 (by decide) ?_
    refine lv_idiv hx hb dL_law_381 (by decide) ?_
    have e381 : (nI X) / (3 : Int32) = nI (X / 3) := dv_3 hX2
    rw [e381]
    refine g_callS (As := [.ref a1, .ref a2, .ref q3, .int (nI (X / 3))]) (rest := []) ⟨hx, hb, hml, hown, hts⟩ (cL_alike_ok l hl0 Γ a1 a2 q3 M [] (alike_ok hW0 hA.1 (nI (X / 3)))) (va_cwS 4 hts gL_law_L_alike rfl rfl rfl (by decide +kernel) ⟨Nat.le_of_ble_eq_true rfl, Nat.le_of_ble_eq_true rfl⟩) hKK hKX hKY hKN hW hS rfl hl.1 rfl (Nat.le_of_ble_eq_true rfl) dL_law_382 ⟨(by show _ + _ ≤ 600086; omega), (by show _ + _ ≤ 7301442; omega)⟩ (fun H locs hW hS => ?_)
    refine lv_if_eq (tgt := 413) hx hb dL_law_385 (by decide) (fun k385 => absurd k385 (i10)) (fun _ => ?_)
    exact j388 _ _ hW hS
  refine lv_iload hx hb dL_law_342 (lv_at hl 0 rfl) ?_
  refine lv_if_eq (tgt := 413) hx hb dL_law_344 (by decide) (fun k344 => absurd k344 (i10)) (fun _ => ?_)
  refine lv_iload hx hb dL_law_347 (lv_at hl 5 rfl) ?_
  refine lv_iconst (v := (3)) hx hb dL_law_349 (by decide) ?_
  refine lv_irem hx hb dL_law_350 (by decide) ?_
  have e350 : (nI k) - (nI k) / (3 : Int32) * (3 : Int32) = nI (k % 3) := rm_3 (by omega)
  rw [e350]
  refine lv_if_gt (tgt := 368) hx hb dL_law_351 (by decide) (fun k351 => ?_) (fun k351 => ?_)
  · refine W.widen (k := (cells + 143)) (n := (slots + 6656)) (by omega) (by omega) ?_
    exact j368 _ _ hW hS
  refine lv_aload_n hx hb dL_law_354 rfl (lv_at hl 8 rfl) ?_
  refine lv_aload_n hx hb dL_law_355 rfl (lv_at hl 7 rfl) ?_
  refine lv_iload hx hb dL_law_356 (lv_at hl 4 rfl) ?_
  refine lv_sipush (v := (499)) hx hb dL_law_358 (by decide) ?_
  refine lv_irem hx hb dL_law_361 (by decide) ?_
  have e361 : (nI X) - (nI X) / (499 : Int32) * (499 : Int32) = nI (X % 499) := rm_499 hX2
  rw [e361]
  refine g_callS (As := [.ref a2, .ref q3, .int (nI (X % 499))]) (rest := []) ⟨hx, hb, hml, hown, hts⟩ (g3r (a := a1) (b := a2) (M := M) (X := []) (fun X1 => cL_refuses_ok l hl0 Γ a2 q3 M X1 (inv_refuses (X := X % 499) hI hA.1 (by omega)))) (va_cwS 3 hts gL_law_L_refuses rfl rfl rfl (by decide +kernel) ⟨Nat.le_of_ble_eq_true rfl, Nat.le_of_ble_eq_true rfl⟩) hKK hKX hKY hKN hW hS rfl hl.1 rfl (Nat.le_of_ble_eq_true rfl) dL_law_362 ⟨(by show _ + _ ≤ 600086; omega), (by show _ + _ ≤ 7301442; omega)⟩ (fun H locs hW hS => ?_)
  refine lv_if_eq (tgt := 413) hx hb dL_law_365 (by decide) (fun k365 => absurd k365 (i10)) (fun _ => ?_)
  exact j368 _ _ hW hS
/-- one round -/
theorem lw_one (C : lwF p s m c Γ b L xs) (hl0 : l.stackTraces = false) (hk : k < th) (h40 : th ≤ 40) (hc : cells + 200000 ≤ 600086) (hs : slots + 1000000 ≤ 7301442) (hI : INV M) (hA : IA M I) (hW : W2 Γ a1 a2 M M [nC Γ q3 I] H) (hS : va_S (zA Γ) s.heap H locs) (hl : lv_has ls 11 [(6, .int (nI k)), (5, .int (1 : Int32)), (4, .int (nI th)), (3, .ref q3), (2, .ref a2), (1, .ref a1), (0, .ref b)])
    (kk : ∀ (H : Heap) (locs : List Loc) (ls : Array Slot) (M : zMs) (I : Nat → Int32), INV M → IA M I → W2 Γ a1 a2 M M [nC Γ q3 I] H → va_S (zA Γ) s.heap H locs → lv_has ls 11 [(6, .int (nI (k + 1))), (5, .int (1 : Int32)), (4, .int (nI th)), (3, .ref q3), (2, .ref a2), (1, .ref a1), (0, .ref b)] → W p l e room_1 s m #[Value.ref b] below meth c H locs (cells + 1138 + (if k % 7 = 0 then 17011 else 0)) (slots + 23544 + (if k % 7 = 0 then 102066 else 0)) Q (F0 m 40 ls [])) : W p l e room_1 s m #[Value.ref b] below meth c H locs cells slots Q (F0 m 40 ls []) := by
  refine lw_s1 C hk h40 (by omega) (by omega) hW hS hl (fun H locs ls X hX2 hW hS hl => ?_)
  obtain ⟨S, hT⟩ := id hI.1
  have hT6 := nT6 hT.1
  have hTb : tbl M X < 6 := by
    unfold tbl
    by_cases q : nT M = 0
    · rw [if_pos q]; omega
    · rw [if_neg q]
      have := Nat.mod_lt (X / 32) (show 0 < nT M by omega)
      omega
  have hK : X % 32 < 32 := Nat.mod_lt _ (by omega)
  refine lw_s2 C hl0 hX2 (by omega) (by omega) hI hA hW hS hl (fun H locs ls M1 d hI1 hp hW hS hl => ?_)
  obtain ⟨S1, hT1⟩ := id hI1.1
  have hA1 := ia_act hT.1 hT1.1 hA hp hTb
  have hd : X % 32 = 0 → ¬ d < 0 → ∃ t, t < 6 ∧ d = nI t := fun q q2 => by
    unfold acP at hp
    rw [if_pos q] at hp
    rcases hp with ⟨h1, -⟩ | ⟨h6, h1, -⟩
    · exact absurd h1 q2
    · exact ⟨_, h6, h1⟩
  refine lw_s3 C hK hTb hX2 hd hW hS hl (fun H locs hW hS => ?_)
  refine lw_s4 C hK hTb hX2 hW hS hl (fun H locs hW hS => ?_)
  refine lw_s5 C hK hTb hX2 hW hS hl (fun H locs hW hS => ?_)
  refine lw_s6 C hl0 hX2 (by omega) (by omega) (by omega) hI1 hA1 hW hS hl (fun H locs ls hW hS hl => ?_)
  have := kk H locs ls M1 _ hI1 hA1 hW hS hl
  rw [show cells + 161 + 977 = cells + 1138 by omega, show slots + 11884 + 11660 = slots + 23544 by omega]
  exact this
theorem lw_lp (C : lwF p s m c Γ b L xs) (hl0 : l.stackTraces = false) (h40 : th ≤ 40)
    (kk : ∀ (H : Heap) (locs : List Loc) (ls : Array Slot) (M : zMs) (I : Nat → Int32) (cells slots : Nat), cells ≤ 100 + 1138 * 40 + 17011 * 6 → slots ≤ 1000 + 23544 * 40 + 102066 * 6 → INV M → IA M I → W2 Γ a1 a2 M M [nC Γ q3 I] H → va_S (zA Γ) s.heap H locs → lv_has ls 11 [(6, .int (nI th)), (5, .int (1 : Int32)), (4, .int (nI th)), (3, .ref q3), (2, .ref a2), (1, .ref a1), (0, .ref b)] → W p l e room_1 s m #[Value.ref b] below meth c H locs cells slots Q (F0 m 422 ls [])) :
    ∀ (dd k : Nat) (H : Heap) (locs : List Loc) (ls : Array Slot) (M : zMs) (I : Nat → Int32) (cells slots : Nat), k + dd = th → cells ≤ 100 + 1138 * k + 17011 * ((k + 6) / 7) → slots ≤ 1000 + 23544 * k + 102066 * ((k + 6) / 7) → INV M → IA M I → W2 Γ a1 a2 M M [nC Γ q3 I] H → va_S (zA Γ) s.heap H locs → lv_has ls 11 [(6, .int (nI k)), (5, .int (1 : Int32)), (4, .int (nI th)), (3, .ref q3), (2, .ref a2), (1, .ref a1), (0, .ref b)] → W p l e room_1 s m #[Value.ref b] below meth c H locs cells slots Q (F0 m 40 ls []) := by
  intro dd
  induction dd with
  | zero =>
    intro k H locs ls M I cells slots hk hc hs hI hA hW hS hl
    have hk : k = th := by omega
    subst hk
    obtain ⟨hx, hb, hml, hown, hts, hX, hbl, hbA, hB0, hKK, hKX, hKY, hKN⟩ := id C
    refine lv_iload hx hb dL_law_40 (lv_at hl 0 rfl) ?_
    refine lv_iload hx hb dL_law_42 (lv_at hl 2 rfl) ?_
    refine lv_icmp_ge (tgt := 422) hx hb dL_law_44 (by decide) (fun _ => ?_) (fun k44 => absurd (Int32.le_refl _) k44)
    exact kk _ _ _ M I _ _ (by omega) (by omega) hI hA hW hS hl
  | succ dd ih =>
    intro k H locs ls M I cells slots hk hc hs hI hA hW hS hl
    refine lw_one C hl0 (show k < th by omega) h40 (by omega) (by omega) hI hA hW hS hl (fun H locs ls M I hI hA hW hS hl => ?_)
    refine ih (k + 1) H locs ls M I _ _ (by omega) ?_ ?_ hI hA hW hS hl
    · by_cases q : k % 7 = 0
      · rw [if_pos q]; omega
      · rw [if_neg q]; omega
    · by_cases q : k % 7 = 0
      · rw [if_pos q]; omega
      · rw [if_neg q]; omega
set_option maxHeartbeats 4000000 in
set_option maxRecDepth 100000 in
theorem lw_end (C : lwF p s m c Γ b L xs) (hl0 : l.stackTraces = false) (hc : cells + 140000 ≤ 600086) (hs : slots + 1000000 ≤ 7301442) (hI : INV M) (hA : IA M I) (hW : W2 Γ a1 a2 M M [nC Γ q3 I] H) (hS : va_S (zA Γ) s.heap H locs) (hl : lv_has ls 11 [(6, .int (nI th)), (5, .int (1 : Int32)), (4, .int (nI th)), (3, .ref q3), (2, .ref a2), (1, .ref a1), (0, .ref b)])
    (kk : ∀ (H : Heap) (locs : List Loc) (ls : Array Slot), va_S (zA Γ) s.heap H locs → W p l e room_1 s m #[Value.ref b] below meth c H locs (cells + 140000) (slots + 1000000) Q (F0 m 480 ls [.int (1 : Int32)])) : W p l e room_1 s m #[Value.ref b] below meth c H locs cells slots Q (F0 m 422 ls []) := by
  obtain ⟨hx, hb, hml, hown, hts, hX, hbl, hbA, hB0, hKK, hKX, hKY, hKN⟩ := id C
  obtain ⟨S, hT⟩ := id hI.1
  obtain ⟨M2, hend, hI2, hSm⟩ := ends_ok (I := I) (X := (drw L xs 0).toNatClampNeg / 23) hI hA.1 (by have := Int32.toNatClampNeg_lt (drw L xs 0); omega)
  obtain ⟨n, hn, en⟩ := drw_n L xs (0 : Int32)
  rw [en, nI_clamp hn] at hend
  obtain ⟨S2, hT2⟩ := id hI2.1
  have hA2 := ia_s hA hSm
  have e21 : nI n / (21 : Int32) = nI (n / 21) := pk_div (d := 21) hn (by omega) (by omega)
  have e23 : nI n / (23 : Int32) = nI (n / 23) := pk_div (d := 23) hn (by omega) (by omega)
  have e29 : nI n / (29 : Int32) = nI (n / 29) := pk_div (d := 29) hn (by omega) (by omega)
  refine lv_iload hx hb dL_law_422 (lv_at hl 1 rfl) ?_
  refine lv_if_eq (tgt := 479) hx hb dL_law_424 (by decide) (fun k424 => absurd k424 (i10)) (fun _ => ?_)
  refine lv_aload_n hx hb dL_law_427 rfl (lv_at hl 5 rfl) ?_
  refine lv_aload_n hx hb dL_law_428 rfl (lv_at hl 3 rfl) ?_
  refine lv_aload_n hx hb dL_law_429 rfl (lv_at hl 6 rfl) ?_
  refine lv_iconst (v := (0)) hx hb dL_law_430 (by decide) ?_
  refine g_drw (As := [.ref b, .int (0 : Int32)]) (rest := [.ref q3, .ref a1]) ⟨hx, hb, hml, hown, hts⟩ (cL_drawn_ok l Γ (W2 Γ a1 a2 M M [nC Γ q3 I]) b L xs (0 : Int32) (by decide)) (va_cwS 2 hts gL_law_L_drawn rfl rfl rfl (by decide +kernel) ⟨Nat.le_of_ble_eq_true rfl, Nat.le_of_ble_eq_true rfl⟩) hX hbl hbA hW hS rfl hl.1 rfl (Nat.le_of_ble_eq_true rfl) dL_law_431 ⟨(by show _ + _ ≤ 600086; omega), (by show _ + _ ≤ 7301442; omega)⟩ (fun H locs hW hS => ?_)
  rw [en]
  refine lv_bipush (v := (21)) hx hb dL_law_434 (by decide) ?_
  refine lv_idiv hx hb dL_law_436 (by decide) ?_
  have e436 : (nI n) / (21 : Int32) = nI (n / 21) := e21
  rw [e436]
  refine g_callS (As := [.ref a1, .ref q3, .int (nI (n / 21))]) (rest := []) ⟨hx, hb, hml, hown, hts⟩ (g3l (a := a1) (b := a2) (N := M) (X := []) (fun X1 => cL_holds_ok l hl0 Γ a1 q3 M X1 (holds_ok (X := n / 21) hT hI.2.1 hI.2.2.1 hA.1 hA.2.1 hA.2.2 (by omega)))) (va_cwS 3 hts gL_law_L_holds rfl rfl rfl (by decide +kernel) ⟨Nat.le_of_ble_eq_true rfl, Nat.le_of_ble_eq_true rfl⟩) hKK hKX hKY hKN hW hS rfl hl.1 rfl (Nat.le_of_ble_eq_true rfl) dL_law_437 ⟨(by show _ + _ ≤ 600086; omega), (by show _ + _ ≤ 7301442; omega)⟩ (fun H locs hW hS => ?_)
  refine lv_if_eq (tgt := 479) hx hb dL_law_440 (by decide) (fun k440 => absurd k440 (i10)) (fun _ => ?_)
  refine lv_aload_n hx hb dL_law_443 rfl (lv_at hl 5 rfl) ?_
  refine lv_aload_n hx hb dL_law_444 rfl (lv_at hl 3 rfl) ?_
  refine lv_aload_n hx hb dL_law_445 rfl (lv_at hl 6 rfl) ?_
  refine lv_iconst (v := (0)) hx hb dL_law_446 (by decide) ?_
  refine g_drw (As := [.ref b, .int (0 : Int32)]) (rest := [.ref q3, .ref a1]) ⟨hx, hb, hml, hown, hts⟩ (cL_drawn_ok l Γ (W2 Γ a1 a2 M M [nC Γ q3 I]) b L xs (0 : Int32) (by decide)) (va_cwS 2 hts gL_law_L_drawn rfl rfl rfl (by decide +kernel) ⟨Nat.le_of_ble_eq_true rfl, Nat.le_of_ble_eq_true rfl⟩) hX hbl hbA hW hS rfl hl.1 rfl (Nat.le_of_ble_eq_true rfl) dL_law_447 ⟨(by show _ + _ ≤ 600086; omega), (by show _ + _ ≤ 7301442; omega)⟩ (fun H locs hW hS => ?_)
  rw [en]
  refine lv_bipush (v := (23)) hx hb dL_law_450 (by decide) ?_
  refine lv_idiv hx hb dL_law_452 (by decide) ?_
  have e452 : (nI n) / (23 : Int32) = nI (n / 23) := e23
  rw [e452]
  refine g_callS (As := [.ref a1, .ref q3, .int (nI (n / 23))]) (rest := []) ⟨hx, hb, hml, hown, hts⟩ (g3l (a := a1) (b := a2) (N := M) (X := []) (fun X1 => cL_ends_ok l hl0 Γ a1 q3 M X1 hend)) (va_cwS 3 hts gL_law_L_ends rfl rfl rfl (by decide +kernel) ⟨Nat.le_of_ble_eq_true rfl, Nat.le_of_ble_eq_true rfl⟩) hKK hKX hKY hKN hW hS rfl hl.1 rfl (Nat.le_of_ble_eq_true rfl) dL_law_453 ⟨(by show _ + _ ≤ 600086; omega), (by show _ + _ ≤ 7301442; omega)⟩ (fun H locs hW hS => ?_)
  refine lv_if_eq (tgt := 479) hx hb dL_law_456 (by decide) (fun k456 => absurd k456 (i10)) (fun _ => ?_)
  refine lv_aload_n hx hb dL_law_459 rfl (lv_at hl 5 rfl) ?_
  refine lv_aload_n hx hb dL_law_460 rfl (lv_at hl 3 rfl) ?_
  refine lv_aload_n hx hb dL_law_461 rfl (lv_at hl 6 rfl) ?_
  refine lv_iconst (v := (0)) hx hb dL_law_462 (by decide) ?_
  refine g_drw (As := [.ref b, .int (0 : Int32)]) (rest := [.ref q3, .ref a1]) ⟨hx, hb, hml, hown, hts⟩ (cL_drawn_ok l Γ (W2 Γ a1 a2 M2 M [nC Γ q3 I]) b L xs (0 : Int32) (by decide)) (va_cwS 2 hts gL_law_L_drawn rfl rfl rfl (by decide +kernel) ⟨Nat.le_of_ble_eq_true rfl, Nat.le_of_ble_eq_true rfl⟩) hX hbl hbA hW hS rfl hl.1 rfl (Nat.le_of_ble_eq_true rfl) dL_law_463 ⟨(by show _ + _ ≤ 600086; omega), (by show _ + _ ≤ 7301442; omega)⟩ (fun H locs hW hS => ?_)
  rw [en]
  refine lv_bipush (v := (29)) hx hb dL_law_466 (by decide) ?_
  refine lv_idiv hx hb dL_law_468 (by decide) ?_
  have e468 : (nI n) / (29 : Int32) = nI (n / 29) := e29
  rw [e468]
  refine g_callS (As := [.ref a1, .ref q3, .int (nI (n / 29))]) (rest := []) ⟨hx, hb, hml, hown, hts⟩ (g3l (a := a1) (b := a2) (N := M) (X := []) (fun X1 => cL_holds_ok l hl0 Γ a1 q3 M2 X1 (holds_ok (X := n / 29) hT2 hI2.2.1 hI2.2.2.1 hA2.1 hA2.2.1 hA2.2.2 (by omega)))) (va_cwS 3 hts gL_law_L_holds rfl rfl rfl (by decide +kernel) ⟨Nat.le_of_ble_eq_true rfl, Nat.le_of_ble_eq_true rfl⟩) hKK hKX hKY hKN hW hS rfl hl.1 rfl (Nat.le_of_ble_eq_true rfl) dL_law_469 ⟨(by show _ + _ ≤ 600086; omega), (by show _ + _ ≤ 7301442; omega)⟩ (fun H locs hW hS => ?_)
  refine lv_if_eq (tgt := 479) hx hb dL_law_472 (by decide) (fun k472 => absurd k472 (i10)) (fun _ => ?_)
  refine lv_iconst (v := (1)) hx hb dL_law_475 (by decide) ?_
  refine lv_goto (tgt := 480) hx hb dL_law_476 (by decide) ?_
  refine W.widen (k := cells + 140000) (n := slots + 1000000) (by omega) (by omega) ?_
  exact kk _ _ _ hS
end ZLW
