theorem ni_X6_copied_X6 : ∀ w ∈ wsX60, w ∈ wsX6_copied := by decide +kernel
def fX6_copied (S : zSt) (a_z : Nat) (b_z : Nat) (g_a : Nat) : Option zSt :=
cl (fX6_init S 1 g_a) fun S3 =>
st (0 : Int32) fun x5 =>
lp (fun (q6 : (Int32 × zSt)) => (if (8 : Int32) ≤ q6.1 then
st (0 : Int32) fun x13 =>
lp (fun (q14 : (Int32 × zSt)) => (if (4 : Int32) ≤ q14.1 then
some (.inr (.inr (q14.2)))
else
gd (¬ (q14.1 < 0 ∨ 4 ≤ q14.1.toNatClampNeg)) (
cl (fX6_changeMode q14.2 1 g_a q14.1 (zQ q14.2 (13, a_z, b_z) q14.1.toNatClampNeg)) fun S25 =>
st (q14.1 + (1 : Int32)) fun x26 =>
some (.inl (x26, S25))) : Option ((Int32 × zSt) ⊕ ((Int32 × zSt) ⊕ zSt)))) 40000 (x13, q6.2)
else
gd (¬ (q6.1 < 0 ∨ 8 ≤ q6.1.toNatClampNeg)) (
cl (fX6_changePoints q6.2 1 g_a q6.1 (zI q6.2 (12, a_z, b_z) q6.1.toNatClampNeg)) fun S30 =>
st (q6.1 + (1 : Int32)) fun x31 =>
some (.inl (x31, S30))) : Option ((Int32 × zSt) ⊕ zSt))) 40000 (x5, S3)
abbrev rmX6_copied : Room := { frames := 2, cells := 3, slots := 14, locals := 40 }
set_option maxHeartbeats 4000000 in
set_option maxRecDepth 100000 in
theorem tX6_copied (l : Launch) (Γ : zG) (lo0 : zId → Nat) (S : zSt) (X : va_W) {a_z : Nat} {b_z : Nat} {g_a : Nat} (v_z : zV S (7, a_z, b_z) = true) {y : zSt} (hf : fX6_copied S a_z b_z g_a = some y) : Met l yX6_copied wsX6_copied rmX6_copied (zP2 Γ lo0 S X [.ref (lo0 (7, a_z, b_z))]) (zQn Γ lo0 S y X (fun lo1 => some (.ref (lo1 (7, 1, g_a)))) (fun _ => zV y (7, 1, g_a) = true)) 3 14 (zA Γ) := by
  refine Met.ofW (cc := cX6_copied) (maxL := 3) (ret := (some (.object "TiltRoute$Rules"))) (by decide) rfl ?_
  intro p e s m args below meth c s₁ B hml hv
  obtain ⟨rfl, hW, hKK, hKY⟩ := hv
  have hx := B.exec
  have hb := B.bytes
  have hr := B.returns
  have hts := atoms_spec (ws := wsX6_copied) B.pre
  have hown : s.vm.findClass RX6 = some m.cls := findClass_of_methodNamed B.named
  have hlocks := B.notSynchronized
  have hS : va_S (zA Γ) s.heap s.heap [] := va_S.rf
  have hB0 : Γ.2.2.1 ≤ s.heap.size := hW.1
  have hm : ∀ c, zV S c = true → zV S c = true := fun _ h => h
  have hl := lv_entry ([.ref (lo0 (7, a_z, b_z))]) (n := 3) (Nat.le_of_ble_eq_true rfl)
  rw [lg_entry_eq]
  generalize (lg_sl ([.ref (lo0 (7, a_z, b_z))]) ++ List.replicate (3 - (lg_sl ([.ref (lo0 (7, a_z, b_z))])).length) Slot.unset).toArray = ls at hl ⊢
  have hl : lv_has ls 3 [(0, .ref (lo0 (7, a_z, b_z)))] := hl
  generalize ([.ref (lo0 (7, a_z, b_z))] : List Value).toArray = args at hts ⊢
  obtain ⟨H, hH0⟩ : ∃ H, H = s.heap := ⟨_, rfl⟩
  obtain ⟨locs, hlo0⟩ : ∃ L : List Loc, L = [] := ⟨_, rfl⟩
  have hS : va_S (zA Γ) s.heap H locs := by rw [hH0, hlo0]; exact hS
  have hW : Wd Γ lo0 S X H := by rw [hH0]; exact hW
  rw [← hH0, ← hlo0]
  obtain ⟨lo, hle⟩ : ∃ z : zId → Nat, z = lo0 := ⟨_, rfl⟩
  have hlo : ∀ d, zV S d = true → lo d = lo0 d := fun d _ => by rw [hle]
  have hW : Wd Γ lo S X H := by rw [hle]; exact hW
  have hl : lv_has ls 3 [(0, .ref (lo (7, a_z, b_z)))] := by first | (rw [hle]; exact hl) | exact hl
  unfold fX6_copied at hf
  refine n_new hx hb hts ni_X6_copied_X6 tyX6 tyX6_ok hown (hts (.classLink RX6 10 RX6) (List.mem_of_getElem? (i := 1) rfl)) (hts (.instantiable RX6 2) (List.mem_of_getElem? (i := 2) rfl)) (hts (.initialized RX6) (List.mem_of_getElem? (i := 3) rfl)) hKK.1 hW hS hB0 (ci := 7) rfl (fs := [.null, .null]) df_X6 (Nat.le_of_ble_eq_true rfl) (Nat.le_of_ble_eq_true rfl) dX6_copied_0 (fun q1 H hW hS => ?_)
  refine lv_dup hx hb dX6_copied_3 rfl ?_
  obtain ⟨S3, hc2, hf⟩ := op_cl hf
  refine n_callI (As := []) (rest := [.ref q1]) ⟨hx, hb, hml, hown, hts⟩ (tX6_init l Γ lo S (X) q1  hc2) (cwI 0 hts gX6_copied_X6_init rfl rfl rfl (hts (.initialized RX6) (List.mem_of_getElem? (i := 3) rfl)) (hts (.methodLink RX6 21 yX6_init) (List.mem_of_getElem? (i := 6) rfl)) (hts (.instanceMethod yX6_init) (List.mem_of_getElem? (i := 7) rfl)) rfl (by decide +kernel) ⟨Nat.le_of_ble_eq_true rfl, Nat.le_of_ble_eq_true rfl⟩) hKK hKY hW hS rfl hl.1 rfl (Nat.le_of_ble_eq_true rfl) dX6_copied_4 ⟨Nat.le_of_ble_eq_true rfl, Nat.le_of_ble_eq_true rfl⟩ (fun lo1 H locs hW hS h1 hmo hE => ?_)
  obtain ⟨hq, v4⟩ := hE
  rw [← hq]
  rw [← h1 (7, a_z, b_z) v_z] at hl
  have hlo : ∀ d, zV S d = true → lo1 d = lo0 d := fun d hd => (h1 d (hm d hd)).trans (hlo d hd)
  rename zId → Nat => lo
  have hm : ∀ c, zV S c = true → zV S3 c = true := fun c h => hmo c (hm c h)
  have v_z : zV S3 (7, a_z, b_z) = true := hmo _ v_z
  refine lv_astore_n (lv' := [(1, .ref (lo (7, 1, g_a))), (0, .ref (lo (7, a_z, b_z)))]) hx hb dX6_copied_7 rfl hl (by decide) rfl (fun ls hl => ?_)
  refine lv_iconst (v := (0)) hx hb dX6_copied_8 (by decide) ?_
  obtain ⟨x5, ex5, hf⟩ := op_st hf
  have bx5 : x5 = 0 ∨ x5 = 1 := Or.inl ex5
  refine z_istn (lv' := [(2, .int x5), (1, .ref (lo (7, 1, g_a))), (0, .ref (lo (7, a_z, b_z)))]) ex5 hx hb dX6_copied_9 rfl hl (by decide) rfl (fun ls hl => ?_)
  obtain ⟨w8, q60, ew8, eq60, hf⟩ := op_lb hf
  have hw8 : ∀ n11 : Nat, ∀ (q6 : (Int32 × zSt)) (H : Heap) (locs : List Loc) (ls : Array Slot) (lo : zId → Nat), lv_has ls 3 [(2, .int q6.1), (1, .ref (lo (7, 1, g_a))), (0, .ref (lo (7, a_z, b_z)))] → Wd Γ lo q6.2 (X) H → va_S (zA Γ) s.heap H locs → ((∀ d, zV S d = true → lo d = lo0 d) ∧ (∀ c, zV S c = true → zV q6.2 c = true) ∧ zV q6.2 (7, a_z, b_z) = true ∧ zV q6.2 (7, 1, g_a) = true) → lp w8 n11 q6 = some y → W p l e (headSpec wsX6_copied rmX6_copied).room s m args below meth c H locs 3 14 (MQ below (zQn Γ lo0 S y X (fun lo1 => some (.ref (lo1 (7, 1, g_a)))) (fun _ => zV y (7, 1, g_a) = true)) args s 3 14 (zA Γ)) (F0 m 10 ls []) := by
    intro n11
    induction n11 with
    | zero => intro q6 H locs ls lo hl hW hS hm hf; cases hf
    | succ n11 ih9 =>
      intro q6 H locs ls lo hl hW hS hm hf
      obtain ⟨hlo, hm, v_z, v4⟩ := hm
      obtain ⟨n_, r7, hn_, hf, hr10⟩ := op_lq hf
      cases hn_
      rw [ew8] at hf
      refine lv_iload_n hx hb dX6_copied_10 rfl (lv_at hl 0 rfl) ?_
      refine lv_aload_n hx hb dX6_copied_11 rfl (lv_at hl 2 rfl) ?_
      refine va_get hx hb hts ni_X6_copied_X6 hown hKK.1 (wd_1 hW v_z) 0 rfl rfl 0 (by decide) (hts (.fieldLink RX6 9 "TiltRoute$Rules" "points" "[I") (List.mem_of_getElem? (i := 4) rfl)) (fun _ h => h) rfl dX6_copied_12 ?_
      have v12 : zV q6.2 (12, a_z, b_z) = true := vf_7_0 hW v_z
      refine va_alen (v := 8) hx hb hKK.1 (wd_1 hW v12) 0 0 rfl rfl (show Int32.ofNat 8 = 8 by decide) dX6_copied_15 ?_
      refine lv_icmp_ge (tgt := 36) hx hb dX6_copied_16 (by decide) (fun k16 => ?_) (fun k16 => ?_)
      · have hf := (op_if hf).1 k16
        refine lv_iconst (v := (0)) hx hb dX6_copied_36 (by decide) ?_
        obtain ⟨x13, ex13, hf⟩ := op_st hf
        have bx13 : x13 = 0 ∨ x13 = 1 := Or.inl ex13
        refine z_istn (lv' := [(2, .int x13), (1, .ref (lo (7, 1, g_a))), (0, .ref (lo (7, a_z, b_z)))]) ex13 hx hb dX6_copied_37 rfl hl (by decide) rfl (fun ls hl => ?_)
        obtain ⟨w16, q140, ew16, eq140, hf⟩ := op_lb hf
        have hw16 : ∀ n19 : Nat, ∀ (q14 : (Int32 × zSt)) (H : Heap) (locs : List Loc) (ls : Array Slot) (lo : zId → Nat), lv_has ls 3 [(2, .int q14.1), (1, .ref (lo (7, 1, g_a))), (0, .ref (lo (7, a_z, b_z)))] → Wd Γ lo q14.2 (X) H → va_S (zA Γ) s.heap H locs → ((∀ d, zV S d = true → lo d = lo0 d) ∧ (∀ c, zV S c = true → zV q14.2 c = true) ∧ zV q14.2 (7, a_z, b_z) = true ∧ zV q14.2 (7, 1, g_a) = true) → lp w16 n19 q14 = some r7 → W p l e (headSpec wsX6_copied rmX6_copied).room s m args below meth c H locs 3 14 (MQ below (zQn Γ lo0 S y X (fun lo1 => some (.ref (lo1 (7, 1, g_a)))) (fun _ => zV y (7, 1, g_a) = true)) args s 3 14 (zA Γ)) (F0 m 38 ls []) := by
          intro n19
          induction n19 with
          | zero => intro q14 H locs ls lo hl hW hS hm hf; cases hf
          | succ n19 ih17 =>
            intro q14 H locs ls lo hl hW hS hm hf
            obtain ⟨hlo, hm, v_z, v4⟩ := hm
            obtain ⟨n_, r15, hn_, hf, hr18⟩ := op_lq hf
            cases hn_
            rw [ew16] at hf
            refine lv_iload_n hx hb dX6_copied_38 rfl (lv_at hl 0 rfl) ?_
            refine lv_aload_n hx hb dX6_copied_39 rfl (lv_at hl 2 rfl) ?_
            refine va_get hx hb hts ni_X6_copied_X6 hown hKK.1 (wd_1 hW v_z) 0 rfl rfl 1 (by decide) (hts (.fieldLink RX6 17 "TiltRoute$Rules" "modes" "[LTiltRoute$Mode;") (List.mem_of_getElem? (i := 5) rfl)) (fun _ h => h) rfl dX6_copied_40 ?_
            have v20 : zV q14.2 (13, a_z, b_z) = true := vf_7_1 hW v_z
            refine va_alen (v := 4) hx hb hKK.1 (wd_1 hW v20) 0 3 rfl rfl (show Int32.ofNat 4 = 4 by decide) dX6_copied_43 ?_
            refine lv_icmp_ge (tgt := 64) hx hb dX6_copied_44 (by decide) (fun k44 => ?_) (fun k44 => ?_)
            · have hf := (op_if hf).1 k44
              refine lv_aload_n hx hb dX6_copied_64 rfl (lv_at hl 1 rfl) ?_
              have hf := zr_r hf hr18
              have hf := congrArg some hf
              have hf := zr_r hf hr10
              rw [← hf]
              exact n_aret hx hb hr (Or.inl ⟨_, rfl⟩) hlocks (Nat.le_of_ble_eq_true rfl) (Nat.le_of_ble_eq_true rfl) rfl hW hS hlo hm v4 dX6_copied_65
            · have hf := (op_if hf).2 k44
              refine lv_aload_n hx hb dX6_copied_47 rfl (lv_at hl 1 rfl) ?_
              refine lv_iload_n hx hb dX6_copied_48 rfl (lv_at hl 0 rfl) ?_
              refine lv_aload_n hx hb dX6_copied_49 rfl (lv_at hl 2 rfl) ?_
              refine va_get hx hb hts ni_X6_copied_X6 hown hKK.1 (wd_1 hW v_z) 0 rfl rfl 1 (by decide) (hts (.fieldLink RX6 17 "TiltRoute$Rules" "modes" "[LTiltRoute$Mode;") (List.mem_of_getElem? (i := 5) rfl)) (fun _ h => h) rfl dX6_copied_50 ?_
              have v21 : zV q14.2 (13, a_z, b_z) = true := vf_7_1 hW v_z
              refine lv_iload_n hx hb dX6_copied_53 rfl (lv_at hl 0 rfl) ?_
              obtain ⟨h54, hf⟩ := op_gd hf
              refine z_aldq hx hb hKK.1 hW v21 h54 dX6_copied_54 ?_
              have v22 : ∀ n, (zQ q14.2 (13, a_z, b_z) q14.1.toNatClampNeg) = some n → zV q14.2 (4, n, 0) = true := fun n h => vf_13 hW v21 (z_in4 h54) h
              obtain ⟨S25, hc24, hf⟩ := op_cl hf
              refine z_callV (As := [.int q14.1, va_rf ((zQ q14.2 (13, a_z, b_z) q14.1.toNatClampNeg).map (fun n => lo (4, n, 0)))]) (rest := []) ⟨hx, hb, hml, hown, hts⟩ (tX6_changeMode l Γ lo q14.2 X v4 v22 hc24) (cwV 2 hts gX6_copied_X6_changeMode rfl rfl rfl (by decide +kernel) ⟨Nat.le_of_ble_eq_true rfl, Nat.le_of_ble_eq_true rfl⟩) (wd_1 hW v4) rfl hKK hW hS rfl hl.1 rfl (Nat.le_of_ble_eq_true rfl) dX6_copied_55 ⟨Nat.le_of_ble_eq_true rfl, Nat.le_of_ble_eq_true rfl⟩ (fun H locs hW hS hm1 hE => ?_)
              have hmo : ∀ c, zV q14.2 c = true → zV S25 c = true := fun c h => (hm1 c).trans h
              have hm : ∀ c, zV S c = true → zV S25 c = true := fun c h => hmo c (hm c h)
              have v_z : zV S25 (7, a_z, b_z) = true := hmo _ v_z
              have v4 : zV S25 (7, 1, g_a) = true := hmo _ v4
              obtain ⟨x26, ex26, hf⟩ := op_st hf
              refine lv_iinc (v := x26) (lv' := [(2, .int x26), (1, .ref (lo (7, 1, g_a))), (0, .ref (lo (7, a_z, b_z)))]) hx hb dX6_copied_58 hl (k := 0) rfl (by rw [ex26]; rfl) (by decide) rfl (fun ls hl => ?_)
              refine lv_goto (tgt := 38) hx hb dX6_copied_61 (by decide) ?_
              have hf := zr_l hf hr18
              exact ih17 (x26, S25) H locs ls lo (lv_sub hl [0, 1, 2] rfl) hW hS ⟨hlo, hm, v_z, v4⟩ hf
        rw [eq140] at hf
        exact hw16 _ (x13, q6.2) H locs ls lo (lv_sub hl [0, 1, 2] rfl) hW hS ⟨hlo, hm, v_z, v4⟩ hf
      · have hf := (op_if hf).2 k16
        refine lv_aload_n hx hb dX6_copied_19 rfl (lv_at hl 1 rfl) ?_
        refine lv_iload_n hx hb dX6_copied_20 rfl (lv_at hl 0 rfl) ?_
        refine lv_aload_n hx hb dX6_copied_21 rfl (lv_at hl 2 rfl) ?_
        refine va_get hx hb hts ni_X6_copied_X6 hown hKK.1 (wd_1 hW v_z) 0 rfl rfl 0 (by decide) (hts (.fieldLink RX6 9 "TiltRoute$Rules" "points" "[I") (List.mem_of_getElem? (i := 4) rfl)) (fun _ h => h) rfl dX6_copied_22 ?_
        have v27 : zV q6.2 (12, a_z, b_z) = true := vf_7_0 hW v_z
        refine lv_iload_n hx hb dX6_copied_25 rfl (lv_at hl 0 rfl) ?_
        obtain ⟨h26, hf⟩ := op_gd hf
        refine va_iald hx hb hKK.1 (wd_1 hW v27) 0 0 (n := 8) rfl rfl h26 dX6_copied_26 ?_
        obtain ⟨S30, hc29, hf⟩ := op_cl hf
        refine z_callV (As := [.int q6.1, .int (zI q6.2 (12, a_z, b_z) q6.1.toNatClampNeg)]) (rest := []) ⟨hx, hb, hml, hown, hts⟩ (tX6_changePoints l Γ lo q6.2 X v4 hc29) (cwV 2 hts gX6_copied_X6_changePoints rfl rfl rfl (by decide +kernel) ⟨Nat.le_of_ble_eq_true rfl, Nat.le_of_ble_eq_true rfl⟩) (wd_1 hW v4) rfl hKK hW hS rfl hl.1 rfl (Nat.le_of_ble_eq_true rfl) dX6_copied_27 ⟨Nat.le_of_ble_eq_true rfl, Nat.le_of_ble_eq_true rfl⟩ (fun H locs hW hS hm1 hE => ?_)
        have hmo : ∀ c, zV q6.2 c = true → zV S30 c = true := fun c h => (hm1 c).trans h
        have hm : ∀ c, zV S c = true → zV S30 c = true := fun c h => hmo c (hm c h)
        have v_z : zV S30 (7, a_z, b_z) = true := hmo _ v_z
        have v4 : zV S30 (7, 1, g_a) = true := hmo _ v4
        obtain ⟨x31, ex31, hf⟩ := op_st hf
        refine lv_iinc (v := x31) (lv' := [(2, .int x31), (1, .ref (lo (7, 1, g_a))), (0, .ref (lo (7, a_z, b_z)))]) hx hb dX6_copied_30 hl (k := 0) rfl (by rw [ex31]; rfl) (by decide) rfl (fun ls hl => ?_)
        refine lv_goto (tgt := 10) hx hb dX6_copied_33 (by decide) ?_
        have hf := zr_l hf hr10
        exact ih9 (x31, S30) H locs ls lo (lv_sub hl [0, 1, 2] rfl) hW hS ⟨hlo, hm, v_z, v4⟩ hf
  rw [eq60] at hf
  exact hw8 _ (x5, S3) H locs ls lo (lv_sub hl [0, 1, 2] rfl) hW hS ⟨hlo, hm, v_z, v4⟩ hf

theorem ni_X9_addTable_X7 : ∀ w ∈ wsX70, w ∈ wsX9_addTable := by decide +kernel
theorem ni_X9_addTable_X9 : ∀ w ∈ wsX90, w ∈ wsX9_addTable := by decide +kernel
def fX9_addTable (S : zSt) (i_1 : Int32) (i_2 : Int32) : Option ((Nat × zSt) ⊕ (Int32 × zSt)) :=
cx (fX9_demandRange S i_1 (0 : Int32) (100 : Int32)) fun r1 =>
cx (fX9_demandRange S i_2 (1 : Int32) (9 : Int32)) fun r4 =>
cl (fJ_size S 0) fun r8 =>
if r8 < (6 : Int32) then
fin (
st ((zI S (0, 0, 0) 2).toNatClampNeg) fun g12 =>
cl (fX7_init S g12 i_1 i_2) fun S14 =>
cl (fJ_add S14 0 g12) fun S17 =>
cl (fJ_size S17 0) fun r19 =>
some (((r19 - (1 : Int32)), S17)))
else
some (.inl (3, S))
abbrev rmX9_addTable : Room := { frames := 8, cells := 6, slots := 89, locals := 321 }
set_option maxHeartbeats 4000000 in
set_option maxRecDepth 100000 in
theorem tX9_addTable (l : Launch) (Γ : zG) (lo0 : zId → Nat) (S : zSt) (X : va_W) {i_1 : Int32} {i_2 : Int32} (v_z : zV S (10, 0, 0) = true) {y : (Int32 × zSt)} (hf : fX9_addTable S i_1 i_2 = some (Sum.inr y)) : Met l yX9_addTable wsX9_addTable rmX9_addTable (zP2 Γ lo0 S X [.ref (lo0 (10, 0, 0)), .int i_1, .int i_2]) (zQn Γ lo0 S y.2 X (fun _ => some (.int y.1)) (fun _ => True)) 6 89 (zA Γ) := by
  refine Met.ofW (cc := cX9_addTable) (maxL := 3) (ret := (some .int)) (by decide) rfl ?_
  intro p e s m args below meth c s₁ B hml hv
  obtain ⟨rfl, hW, hKK, hKY⟩ := hv
  have hx := B.exec
  have hb := B.bytes
  have hr := B.returns
  have hts := atoms_spec (ws := wsX9_addTable) B.pre
  have hown : s.vm.findClass RX9 = some m.cls := findClass_of_methodNamed B.named
  have hlocks := B.notSynchronized
  have hS : va_S (zA Γ) s.heap s.heap [] := va_S.rf
  have hB0 : Γ.2.2.1 ≤ s.heap.size := hW.1
  have hm : ∀ c, zV S c = true → zV S c = true := fun _ h => h
  have hl := lv_entry ([.ref (lo0 (10, 0, 0)), .int i_1, .int i_2]) (n := 3) (Nat.le_of_ble_eq_true rfl)
  rw [lg_entry_eq]
  generalize (lg_sl ([.ref (lo0 (10, 0, 0)), .int i_1, .int i_2]) ++ List.replicate (3 - (lg_sl ([.ref (lo0 (10, 0, 0)), .int i_1, .int i_2])).length) Slot.unset).toArray = ls at hl ⊢
  have hl : lv_has ls 3 [(0, .ref (lo0 (10, 0, 0))), (1, .int i_1), (2, .int i_2)] := hl
  generalize ([.ref (lo0 (10, 0, 0)), .int i_1, .int i_2] : List Value).toArray = args at hts ⊢
  obtain ⟨H, hH0⟩ : ∃ H, H = s.heap := ⟨_, rfl⟩
  obtain ⟨locs, hlo0⟩ : ∃ L : List Loc, L = [] := ⟨_, rfl⟩
  have hS : va_S (zA Γ) s.heap H locs := by rw [hH0, hlo0]; exact hS
  have hW : Wd Γ lo0 S X H := by rw [hH0]; exact hW
  rw [← hH0, ← hlo0]
  obtain ⟨lo, hle⟩ : ∃ z : zId → Nat, z = lo0 := ⟨_, rfl⟩
  have hlo : ∀ d, zV S d = true → lo d = lo0 d := fun d _ => by rw [hle]
  have hW : Wd Γ lo S X H := by rw [hle]; exact hW
  have hl : lv_has ls 3 [(0, .ref (lo (10, 0, 0))), (1, .int i_1), (2, .int i_2)] := by first | (rw [hle]; exact hl) | exact hl
  unfold fX9_addTable at hf
  refine lv_iload_n hx hb dX9_addTable_0 rfl (lv_at hl 1 rfl) ?_
  refine lv_iconst (v := (0)) hx hb dX9_addTable_1 (by decide) ?_
  refine lv_bipush (v := (100)) hx hb dX9_addTable_2 (by decide) ?_
  rcases op_cx hf with ⟨ee3, hc2, hf⟩ | ⟨r1, hc2, hf⟩
  · have hf := congrArg some hf
    have hf := Option.some.inj hf
    cases hf
  · skip
    refine z_callS (As := [.int i_1, .int (0 : Int32), .int (100 : Int32)]) (rest := []) ⟨hx, hb, hml, hown, hts⟩ (tX9_demandRange l Γ lo S X  hc2) (va_cwS 3 hts gX9_addTable_X9_demandRange rfl rfl rfl (by decide +kernel) ⟨Nat.le_of_ble_eq_true rfl, Nat.le_of_ble_eq_true rfl⟩) hKK hW hS rfl hl.1 rfl (Nat.le_of_ble_eq_true rfl) dX9_addTable_4 ⟨Nat.le_of_ble_eq_true rfl, Nat.le_of_ble_eq_true rfl⟩ (fun H locs hW hS hm1 hE => ?_)
    refine lv_iload_n hx hb dX9_addTable_7 rfl (lv_at hl 2 rfl) ?_
    refine lv_iconst (v := (1)) hx hb dX9_addTable_8 (by decide) ?_
    refine lv_bipush (v := (9)) hx hb dX9_addTable_9 (by decide) ?_
    rcases op_cx hf with ⟨ee6, hc5, hf⟩ | ⟨r4, hc5, hf⟩
    · have hf := congrArg some hf
      have hf := Option.some.inj hf
      cases hf
    · skip
      refine z_callS (As := [.int i_2, .int (1 : Int32), .int (9 : Int32)]) (rest := []) ⟨hx, hb, hml, hown, hts⟩ (tX9_demandRange l Γ lo S X  hc5) (va_cwS 3 hts gX9_addTable_X9_demandRange rfl rfl rfl (by decide +kernel) ⟨Nat.le_of_ble_eq_true rfl, Nat.le_of_ble_eq_true rfl⟩) hKK hW hS rfl hl.1 rfl (Nat.le_of_ble_eq_true rfl) dX9_addTable_11 ⟨Nat.le_of_ble_eq_true rfl, Nat.le_of_ble_eq_true rfl⟩ (fun H locs hW hS hm1 hE => ?_)
      refine lv_aload_n hx hb dX9_addTable_14 rfl (lv_at hl 0 rfl) ?_
      refine va_get hx hb hts ni_X9_addTable_X9 hown hKK.1 (wd_1 hW v_z) 0 rfl rfl 0 (by decide) (hts (.fieldLink RX9 12 "TiltRoute" "tables" "Ljava/util/ArrayList;") (List.mem_of_getElem? (i := 3) rfl)) (fun _ h => h) rfl dX9_addTable_15 ?_
      have v7 : zV S (0, 0, 0) = true := vf_10_0 hW v_z
      obtain ⟨r8, hc9, hf⟩ := op_cl hf
      refine z_callV (As := []) (rest := []) ⟨hx, hb, hml, hown, hts⟩ (tJ_size l Γ lo S X v7 hc9) (cwV 0 hts gX9_addTable_Jx4a65c_size_8abf5 rfl rfl rfl (by decide +kernel) ⟨Nat.le_of_ble_eq_true rfl, Nat.le_of_ble_eq_true rfl⟩) (wd_1 hW v7) rfl hKK hW hS rfl hl.1 rfl (Nat.le_of_ble_eq_true rfl) dX9_addTable_18 ⟨Nat.le_of_ble_eq_true rfl, Nat.le_of_ble_eq_true rfl⟩ (fun H locs hW hS hm1 hE => ?_)
      refine lv_bipush (v := (6)) hx hb dX9_addTable_21 (by decide) ?_
      refine lv_icmp_lt (tgt := 36) hx hb dX9_addTable_23 (by decide) (fun k23 => ?_) (fun k23 => ?_)
      · have hf := (op_if hf).1 k23
        refine lv_aload_n hx hb dX9_addTable_36 rfl (lv_at hl 0 rfl) ?_
        refine va_get hx hb hts ni_X9_addTable_X9 hown hKK.1 (wd_1 hW v_z) 0 rfl rfl 0 (by decide) (hts (.fieldLink RX9 12 "TiltRoute" "tables" "Ljava/util/ArrayList;") (List.mem_of_getElem? (i := 3) rfl)) (fun _ h => h) rfl dX9_addTable_37 ?_
        have v10 : zV S (0, 0, 0) = true := vf_10_0 hW v_z
        have hf := op_fin hf
        obtain ⟨g12, eg12, hf⟩ := op_st hf
        refine n_new hx hb hts ni_X9_addTable_X7 tyX7 tyX7_ok hown (hts (.classLink RX9 70 RX7) (List.mem_of_getElem? (i := 4) rfl)) (hts (.instantiable RX7 8) (List.mem_of_getElem? (i := 5) rfl)) (hts (.initialized RX7) (List.mem_of_getElem? (i := 6) rfl)) hKK.1 hW hS hB0 (ci := 8) rfl (fs := [.int 0, .int 0, .null, .null, .int 0, .int 0, .int 0, .int 0]) df_X7 (Nat.le_of_ble_eq_true rfl) (Nat.le_of_ble_eq_true rfl) dX9_addTable_40 (fun q11 H hW hS => ?_)
        refine lv_dup hx hb dX9_addTable_43 rfl ?_
        refine lv_iload_n hx hb dX9_addTable_44 rfl (lv_at hl 1 rfl) ?_
        refine lv_iload_n hx hb dX9_addTable_45 rfl (lv_at hl 2 rfl) ?_
        obtain ⟨S14, hc13, hf⟩ := op_cl hf
        refine n_callI (As := [.int i_1, .int i_2]) (rest := [.ref q11, .ref (lo (0, 0, 0))]) ⟨hx, hb, hml, hown, hts⟩ (tX7_init l Γ lo S (X) q11  hc13) (cwI 2 hts gX9_addTable_X7_init rfl rfl rfl (hts (.initialized RX7) (List.mem_of_getElem? (i := 6) rfl)) (hts (.methodLink RX9 72 yX7_init) (List.mem_of_getElem? (i := 19) rfl)) (hts (.instanceMethod yX7_init) (List.mem_of_getElem? (i := 20) rfl)) rfl (by decide +kernel) ⟨Nat.le_of_ble_eq_true rfl, Nat.le_of_ble_eq_true rfl⟩) hKK hKY hW hS rfl hl.1 rfl (Nat.le_of_ble_eq_true rfl) dX9_addTable_46 ⟨Nat.le_of_ble_eq_true rfl, Nat.le_of_ble_eq_true rfl⟩ (fun lo1 H locs hW hS h1 hmo hE => ?_)
        obtain ⟨hq, v15⟩ := hE
        rw [← hq]
        rw [← h1 (10, 0, 0) v_z] at hl
        rw [← h1 (0, 0, 0) v10]
        have hlo : ∀ d, zV S d = true → lo1 d = lo0 d := fun d hd => (h1 d (hm d hd)).trans (hlo d hd)
        rename zId → Nat => lo
        have hm : ∀ c, zV S c = true → zV S14 c = true := fun c h => hmo c (hm c h)
        have v_z : zV S14 (10, 0, 0) = true := hmo _ v_z
        have v10 : zV S14 (0, 0, 0) = true := hmo _ v10
        obtain ⟨S17, hc16, hf⟩ := op_cl hf
        refine n_callV (As := [.ref (lo (8, g12, 0))]) (rest := []) ⟨hx, hb, hml, hown, hts⟩ (tJ_add l Γ lo S14 (X) v10 v15 hc16) (cwV 1 hts gX9_addTable_Jx4a65c_add_9ea2d rfl rfl rfl (by decide +kernel) ⟨Nat.le_of_ble_eq_true rfl, Nat.le_of_ble_eq_true rfl⟩) (wd_1 hW v10) rfl hKK hKY hW hS rfl hl.1 rfl (Nat.le_of_ble_eq_true rfl) dX9_addTable_49 ⟨Nat.le_of_ble_eq_true rfl, Nat.le_of_ble_eq_true rfl⟩ (fun lo1 H locs hW hS h1 hmo hE => ?_)
        rw [← h1 (10, 0, 0) v_z] at hl
        have hlo : ∀ d, zV S d = true → lo1 d = lo0 d := fun d hd => (h1 d (hm d hd)).trans (hlo d hd)
        rename zId → Nat => lo
        have hm : ∀ c, zV S c = true → zV S17 c = true := fun c h => hmo c (hm c h)
        have v_z : zV S17 (10, 0, 0) = true := hmo _ v_z
        refine lv_pop hx hb dX9_addTable_52 rfl ?_
        refine lv_aload_n hx hb dX9_addTable_53 rfl (lv_at hl 0 rfl) ?_
        refine va_get hx hb hts ni_X9_addTable_X9 hown hKK.1 (wd_1 hW v_z) 0 rfl rfl 0 (by decide) (hts (.fieldLink RX9 12 "TiltRoute" "tables" "Ljava/util/ArrayList;") (List.mem_of_getElem? (i := 3) rfl)) (fun _ h => h) rfl dX9_addTable_54 ?_
        have v18 : zV S17 (0, 0, 0) = true := vf_10_0 hW v_z
        obtain ⟨r19, hc20, hf⟩ := op_cl hf
        refine z_callV (As := []) (rest := []) ⟨hx, hb, hml, hown, hts⟩ (tJ_size l Γ lo S17 X v18 hc20) (cwV 0 hts gX9_addTable_Jx4a65c_size_8abf5 rfl rfl rfl (by decide +kernel) ⟨Nat.le_of_ble_eq_true rfl, Nat.le_of_ble_eq_true rfl⟩) (wd_1 hW v18) rfl hKK hW hS rfl hl.1 rfl (Nat.le_of_ble_eq_true rfl) dX9_addTable_57 ⟨Nat.le_of_ble_eq_true rfl, Nat.le_of_ble_eq_true rfl⟩ (fun H locs hW hS hm1 hE => ?_)
        refine lv_iconst (v := (1)) hx hb dX9_addTable_60 (by decide) ?_
        refine lv_isub hx hb dX9_addTable_61 ?_
        have hf := Option.some.inj hf
        rw [← hf]
        exact n_iret hx hb hr hlocks (Nat.le_of_ble_eq_true rfl) (Nat.le_of_ble_eq_true rfl) rfl rfl hW hS hlo hm trivial dX9_addTable_62
      · have hf := (op_if hf).2 k23
        have hf := Option.some.inj hf
        cases hf
theorem xs_X9_addTable_26 : ∀ w ∈ (vx_atS "TiltRoute" 67 (zEx 3) zXn).filter goodWord, w ∈ wsX9_addTable := by decide +kernel
theorem xs_X9_addTable_26b : ∀ w ∈ (vx_atS "TiltRoute" 67 (zEx 3) zXn).filter (fun w => !goodWord w), w ∈ [Cond.castable (zEx 3) (zEx 3), .declares (Bundle.initS "java/lang/RuntimeException"), .declares (Bundle.initS "java/lang/Exception"), .declares (Bundle.initS Bundle.tN)] := by decide +kernel
theorem xs_X9_addTable_26c : ∀ w ∈ Cond.classLink "TiltRoute" 63 (zEx 3) :: Cond.initialized (zEx 3) :: vx_atS "TiltRoute" 67 (zEx 3) zXn, vx_ot w = true := by decide +kernel
abbrev rnX9_addTable : Room := { frames := 7, cells := 1, slots := 6, locals := 104 }
set_option maxHeartbeats 4000000 in
set_option maxRecDepth 100000 in
theorem uX9_addTable (l : Launch) (hl0 : l.stackTraces = false) (Γ : zG) (lo : zId → Nat) (S : zSt) (X : va_W) {i_1 : Int32} {i_2 : Int32} (v_z : zV S (10, 0, 0) = true) {ee : Nat × zSt} (hf : fX9_addTable S i_1 i_2 = some (Sum.inl ee)) : vx_Met l yX9_addTable wsX9_addTable rnX9_addTable (zP1 Γ lo S X [.ref (lo (10, 0, 0)), .int i_1, .int i_2]) zF (zT Γ lo S X ee) 1 6 (zA Γ) := by
  refine vx_ofW (cc := cX9_addTable) (maxL := 3) (ret := (some .int)) (by decide) rfl ?_
  intro p e s m args below meth c s₁ B hml ht hv
  obtain ⟨rfl, hW, hKK, hKX⟩ := hv
  have hx := B.exec
  have hb := B.bytes
  have hr := B.returns
  have hts := atoms_spec (ws := wsX9_addTable) B.pre
  have hown : s.vm.findClass RX9 = some m.cls := findClass_of_methodNamed B.named
  have hlocks := B.notSynchronized
  have hS : va_S (zA Γ) s.heap s.heap [] := va_S.rf
  have hm : ∀ c, zV S c = zV S c := fun _ => rfl
  have hl := lv_entry ([.ref (lo (10, 0, 0)), .int i_1, .int i_2]) (n := 3) (Nat.le_of_ble_eq_true rfl)
  rw [lg_entry_eq]
  generalize (lg_sl ([.ref (lo (10, 0, 0)), .int i_1, .int i_2]) ++ List.replicate (3 - (lg_sl ([.ref (lo (10, 0, 0)), .int i_1, .int i_2])).length) Slot.unset).toArray = ls at hl ⊢
  have hl : lv_has ls 3 [(0, .ref (lo (10, 0, 0))), (1, .int i_1), (2, .int i_2)] := hl
  obtain ⟨H, hH0⟩ : ∃ H, H = s.heap := ⟨_, rfl⟩
  obtain ⟨locs, hlo0⟩ : ∃ L : List Loc, L = [] := ⟨_, rfl⟩
  have hS : va_S (zA Γ) s.heap H locs := by rw [hH0, hlo0]; exact hS
  have hW : Wd Γ lo S X H := by rw [hH0]; exact hW
  rw [← hH0, ← hlo0]
  unfold fX9_addTable at hf
  refine lv_iload_n hx hb dX9_addTable_0 rfl (lv_at hl 1 rfl) ?_
  refine lv_iconst (v := (0)) hx hb dX9_addTable_1 (by decide) ?_
  refine lv_bipush (v := (100)) hx hb dX9_addTable_2 (by decide) ?_
  rcases op_cx hf with ⟨ee3, hc2, hf⟩ | ⟨r1, hc2, hf⟩
  · have hf := congrArg some hf
    have hf := Option.some.inj hf
    have hf := Sum.inl.inj hf
    rw [← hf]
    exact zx_callS (As := [.int i_1, .int (0 : Int32), .int (100 : Int32)]) (rest := []) ⟨hx, hb, hml, hown, hts⟩ (uX9_demandRange l hl0 Γ lo S X  hc2) (va_cwS 3 hts gX9_addTable_X9_demandRange rfl rfl rfl (by decide +kernel) ⟨Nat.le_of_ble_eq_true rfl, Nat.le_of_ble_eq_true rfl⟩) hKK hKX hW hS hm rfl hl.1 rfl (Nat.le_of_ble_eq_true rfl) dX9_addTable_4 ⟨Nat.le_of_ble_eq_true rfl, Nat.le_of_ble_eq_true rfl⟩ ht hlocks
  · skip
    refine z_callS (As := [.int i_1, .int (0 : Int32), .int (100 : Int32)]) (rest := []) ⟨hx, hb, hml, hown, hts⟩ (tX9_demandRange l Γ lo S X  hc2) (va_cwS 3 hts gX9_addTable_X9_demandRange rfl rfl rfl (by decide +kernel) ⟨Nat.le_of_ble_eq_true rfl, Nat.le_of_ble_eq_true rfl⟩) hKK hW hS rfl hl.1 rfl (Nat.le_of_ble_eq_true rfl) dX9_addTable_4 ⟨Nat.zero_le _, Nat.zero_le _⟩ (fun H locs hW hS hm1 hE => ?_)
    refine lv_iload_n hx hb dX9_addTable_7 rfl (lv_at hl 2 rfl) ?_
    refine lv_iconst (v := (1)) hx hb dX9_addTable_8 (by decide) ?_
    refine lv_bipush (v := (9)) hx hb dX9_addTable_9 (by decide) ?_
    rcases op_cx hf with ⟨ee6, hc5, hf⟩ | ⟨r4, hc5, hf⟩
    · have hf := congrArg some hf
      have hf := Option.some.inj hf
      have hf := Sum.inl.inj hf
      rw [← hf]
      exact zx_callS (As := [.int i_2, .int (1 : Int32), .int (9 : Int32)]) (rest := []) ⟨hx, hb, hml, hown, hts⟩ (uX9_demandRange l hl0 Γ lo S X  hc5) (va_cwS 3 hts gX9_addTable_X9_demandRange rfl rfl rfl (by decide +kernel) ⟨Nat.le_of_ble_eq_true rfl, Nat.le_of_ble_eq_true rfl⟩) hKK hKX hW hS hm rfl hl.1 rfl (Nat.le_of_ble_eq_true rfl) dX9_addTable_11 ⟨Nat.le_of_ble_eq_true rfl, Nat.le_of_ble_eq_true rfl⟩ ht hlocks
    · skip
      refine z_callS (As := [.int i_2, .int (1 : Int32), .int (9 : Int32)]) (rest := []) ⟨hx, hb, hml, hown, hts⟩ (tX9_demandRange l Γ lo S X  hc5) (va_cwS 3 hts gX9_addTable_X9_demandRange rfl rfl rfl (by decide +kernel) ⟨Nat.le_of_ble_eq_true rfl, Nat.le_of_ble_eq_true rfl⟩) hKK hW hS rfl hl.1 rfl (Nat.le_of_ble_eq_true rfl) dX9_addTable_11 ⟨Nat.zero_le _, Nat.zero_le _⟩ (fun H locs hW hS hm1 hE => ?_)
      refine lv_aload_n hx hb dX9_addTable_14 rfl (lv_at hl 0 rfl) ?_
      refine va_get hx hb hts ni_X9_addTable_X9 hown hKK.1 (wd_1 hW v_z) 0 rfl rfl 0 (by decide) (hts (.fieldLink RX9 12 "TiltRoute" "tables" "Ljava/util/ArrayList;") (List.mem_of_getElem? (i := 3) rfl)) (fun _ h => h) rfl dX9_addTable_15 ?_
      have v7 : zV S (0, 0, 0) = true := vf_10_0 hW v_z
      obtain ⟨r8, hc9, hf⟩ := op_cl hf
      refine z_callV (As := []) (rest := []) ⟨hx, hb, hml, hown, hts⟩ (tJ_size l Γ lo S X v7 hc9) (cwV 0 hts gX9_addTable_Jx4a65c_size_8abf5 rfl rfl rfl (by decide +kernel) ⟨Nat.le_of_ble_eq_true rfl, Nat.le_of_ble_eq_true rfl⟩) (wd_1 hW v7) rfl hKK hW hS rfl hl.1 rfl (Nat.le_of_ble_eq_true rfl) dX9_addTable_18 ⟨Nat.zero_le _, Nat.zero_le _⟩ (fun H locs hW hS hm1 hE => ?_)
      refine lv_bipush (v := (6)) hx hb dX9_addTable_21 (by decide) ?_
      refine lv_icmp_lt (tgt := 36) hx hb dX9_addTable_23 (by decide) (fun k23 => ?_) (fun k23 => ?_)
      · have hf := (op_if hf).1 k23
        refine lv_aload_n hx hb dX9_addTable_36 rfl (lv_at hl 0 rfl) ?_
        refine va_get hx hb hts ni_X9_addTable_X9 hown hKK.1 (wd_1 hW v_z) 0 rfl rfl 0 (by decide) (hts (.fieldLink RX9 12 "TiltRoute" "tables" "Ljava/util/ArrayList;") (List.mem_of_getElem? (i := 3) rfl)) (fun _ h => h) rfl dX9_addTable_37 ?_
        have v10 : zV S (0, 0, 0) = true := vf_10_0 hW v_z
        exact (op_finT hf).elim
      · have hf := (op_if hf).2 k23
        have hf := Option.some.inj hf
        have hf := Sum.inl.inj hf
        rw [← hf]
        exact zx_thr (ee := (3, S)) hx hb hl0 hts hown (hts (.classLink RX9 63 "java/lang/IllegalStateException") (List.mem_of_getElem? (i := 1) rfl)) (hts (.initialized "java/lang/IllegalStateException") (List.mem_of_getElem? (i := 2) rfl)) (List.mem_of_getElem? (i := 0) rfl) xs_X9_addTable_26 xs_X9_addTable_26b (show Bundle.fit (zEx 3) = true by decide) xs_X9_addTable_26c hKK hKX hS (hl.1.trans hml.symm) dX9_addTable_26 dX9_addTable_29 dX9_addTable_30 dX9_addTable_32 dX9_addTable_35 ht (Nat.le_of_ble_eq_true rfl) (Nat.le_of_ble_eq_true rfl) (Nat.le_of_ble_eq_true rfl) (Nat.le_of_ble_eq_true rfl) hlocks hW hm

theorem ni_X9_addBumper_X1 : ∀ w ∈ wsX10, w ∈ wsX9_addBumper := by decide +kernel
theorem ni_X9_addBumper_X7 : ∀ w ∈ wsX70, w ∈ wsX9_addBumper := by decide +kernel
def fX9_addBumper (S : zSt) (i_1 : Int32) (i_2 : Int32) (i_3 : Int32) (i_4 : Int32) (i_5 : Int32) : Option ((Nat × zSt) ⊕ (Int32 × zSt)) :=
cx (fX9_demandTable S i_1) fun r1 =>
cx (fX9_demandRange S i_2 (0 : Int32) (159 : Int32)) fun r5 =>
cx (fX9_demandRange S i_3 (0 : Int32) (239 : Int32)) fun r8 =>
cx (fX9_demandRange S (i_4 / (100 : Int32)) (1 : Int32) (60 : Int32)) fun r11 =>
cx (fX9_demandRange S (i_4 - i_4 / (100 : Int32) * (100 : Int32)) (1 : Int32) (60 : Int32)) fun r14 =>
cx (fX9_demandRange S i_5 (0 : Int32) (20 : Int32)) fun r17 =>
cx (fX9_demandNoGame S r1) fun r20 =>
cl (fJ_size S (r1 + 2)) fun r24 =>
if r24 < (8 : Int32) then
fin (
st ((zI S (0, r1 + 2, 0) 2).toNatClampNeg) fun g28 =>
cl (fX1_init S r1 g28 i_2 i_3 (i_4 / (100 : Int32)) (i_4 - i_4 / (100 : Int32) * (100 : Int32)) i_5) fun S30 =>
cl (fJ_add S30 (r1 + 2) g28) fun S33 =>
cl (fJ_size S33 (r1 + 2)) fun r35 =>
some (((r35 - (1 : Int32)), S33)))
else
some (.inl (3, S))
abbrev rmX9_addBumper : Room := { frames := 8, cells := 2, slots := 71, locals := 321 }
set_option maxHeartbeats 4000000 in
set_option maxRecDepth 100000 in
theorem tX9_addBumper (l : Launch) (Γ : zG) (lo0 : zId → Nat) (S : zSt) (X : va_W) {i_1 : Int32} {i_2 : Int32} {i_3 : Int32} {i_4 : Int32} {i_5 : Int32} (v_z : zV S (10, 0, 0) = true) {y : (Int32 × zSt)} (hf : fX9_addBumper S i_1 i_2 i_3 i_4 i_5 = some (Sum.inr y)) : Met l yX9_addBumper wsX9_addBumper rmX9_addBumper (zP2 Γ lo0 S X [.ref (lo0 (10, 0, 0)), .int i_1, .int i_2, .int i_3, .int i_4, .int i_5]) (zQn Γ lo0 S y.2 X (fun _ => some (.int y.1)) (fun _ => True)) 2 71 (zA Γ) := by
  refine Met.ofW (cc := cX9_addBumper) (maxL := 7) (ret := (some .int)) (by decide) rfl ?_
  intro p e s m args below meth c s₁ B hml hv
  obtain ⟨rfl, hW, hKK, hKY⟩ := hv
  have hx := B.exec
  have hb := B.bytes
  have hr := B.returns
  have hts := atoms_spec (ws := wsX9_addBumper) B.pre
  have hown : s.vm.findClass RX9 = some m.cls := findClass_of_methodNamed B.named
  have hlocks := B.notSynchronized
  have hS : va_S (zA Γ) s.heap s.heap [] := va_S.rf
  have hB0 : Γ.2.2.1 ≤ s.heap.size := hW.1
  have hm : ∀ c, zV S c = true → zV S c = true := fun _ h => h
  have hl := lv_entry ([.ref (lo0 (10, 0, 0)), .int i_1, .int i_2, .int i_3, .int i_4, .int i_5]) (n := 7) (Nat.le_of_ble_eq_true rfl)
  rw [lg_entry_eq]
  generalize (lg_sl ([.ref (lo0 (10, 0, 0)), .int i_1, .int i_2, .int i_3, .int i_4, .int i_5]) ++ List.replicate (7 - (lg_sl ([.ref (lo0 (10, 0, 0)), .int i_1, .int i_2, .int i_3, .int i_4, .int i_5])).length) Slot.unset).toArray = ls at hl ⊢
  have hl : lv_has ls 7 [(0, .ref (lo0 (10, 0, 0))), (1, .int i_1), (2, .int i_2), (3, .int i_3), (4, .int i_4), (5, .int i_5)] := hl
  generalize ([.ref (lo0 (10, 0, 0)), .int i_1, .int i_2, .int i_3, .int i_4, .int i_5] : List Value).toArray = args at hts ⊢
  obtain ⟨H, hH0⟩ : ∃ H, H = s.heap := ⟨_, rfl⟩
  obtain ⟨locs, hlo0⟩ : ∃ L : List Loc, L = [] := ⟨_, rfl⟩
  have hS : va_S (zA Γ) s.heap H locs := by rw [hH0, hlo0]; exact hS
  have hW : Wd Γ lo0 S X H := by rw [hH0]; exact hW
  rw [← hH0, ← hlo0]
  obtain ⟨lo, hle⟩ : ∃ z : zId → Nat, z = lo0 := ⟨_, rfl⟩
  have hlo : ∀ d, zV S d = true → lo d = lo0 d := fun d _ => by rw [hle]
  have hW : Wd Γ lo S X H := by rw [hle]; exact hW
  have hl : lv_has ls 7 [(0, .ref (lo (10, 0, 0))), (1, .int i_1), (2, .int i_2), (3, .int i_3), (4, .int i_4), (5, .int i_5)] := by first | (rw [hle]; exact hl) | exact hl
  unfold fX9_addBumper at hf
  refine lv_aload_n hx hb dX9_addBumper_0 rfl (lv_at hl 0 rfl) ?_
  refine lv_iload_n hx hb dX9_addBumper_1 rfl (lv_at hl 1 rfl) ?_
  rcases op_cx hf with ⟨ee3, hc2, hf⟩ | ⟨r1, hc2, hf⟩
  · have hf := congrArg some hf
    have hf := Option.some.inj hf
    cases hf
  · skip
    refine z_callV (As := [.int i_1]) (rest := []) ⟨hx, hb, hml, hown, hts⟩ (tX9_demandTable l Γ lo S X v_z hc2) (cwV 1 hts gX9_addBumper_X9_demandTable rfl rfl rfl (by decide +kernel) ⟨Nat.le_of_ble_eq_true rfl, Nat.le_of_ble_eq_true rfl⟩) (wd_1 hW v_z) rfl hKK hW hS rfl hl.1 rfl (Nat.le_of_ble_eq_true rfl) dX9_addBumper_2 ⟨Nat.le_of_ble_eq_true rfl, Nat.le_of_ble_eq_true rfl⟩ (fun H locs hW hS hm1 hE => ?_)
    have v4 : zV S (8, r1, 0) = true := hE
    refine lv_astore (lv' := [(6, .ref (lo (8, r1, 0))), (0, .ref (lo (10, 0, 0))), (1, .int i_1), (2, .int i_2), (3, .int i_3), (4, .int i_4), (5, .int i_5)]) hx hb dX9_addBumper_5 hl (by decide) rfl (fun ls hl => ?_)
    refine lv_iload_n hx hb dX9_addBumper_7 rfl (lv_at hl 3 rfl) ?_
    refine lv_iconst (v := (0)) hx hb dX9_addBumper_8 (by decide) ?_
    refine lv_sipush (v := (159)) hx hb dX9_addBumper_9 (by decide) ?_
    rcases op_cx hf with ⟨ee7, hc6, hf⟩ | ⟨r5, hc6, hf⟩
    · have hf := congrArg some hf
      have hf := Option.some.inj hf
      cases hf
    · skip
      refine z_callS (As := [.int i_2, .int (0 : Int32), .int (159 : Int32)]) (rest := []) ⟨hx, hb, hml, hown, hts⟩ (tX9_demandRange l Γ lo S X  hc6) (va_cwS 3 hts gX9_addBumper_X9_demandRange rfl rfl rfl (by decide +kernel) ⟨Nat.le_of_ble_eq_true rfl, Nat.le_of_ble_eq_true rfl⟩) hKK hW hS rfl hl.1 rfl (Nat.le_of_ble_eq_true rfl) dX9_addBumper_12 ⟨Nat.le_of_ble_eq_true rfl, Nat.le_of_ble_eq_true rfl⟩ (fun H locs hW hS hm1 hE => ?_)
      refine lv_iload_n hx hb dX9_addBumper_15 rfl (lv_at hl 4 rfl) ?_
      refine lv_iconst (v := (0)) hx hb dX9_addBumper_16 (by decide) ?_
      refine lv_sipush (v := (239)) hx hb dX9_addBumper_17 (by decide) ?_
      rcases op_cx hf with ⟨ee10, hc9, hf⟩ | ⟨r8, hc9, hf⟩
      · have hf := congrArg some hf
        have hf := Option.some.inj hf
        cases hf
      · skip
        refine z_callS (As := [.int i_3, .int (0 : Int32), .int (239 : Int32)]) (rest := []) ⟨hx, hb, hml, hown, hts⟩ (tX9_demandRange l Γ lo S X  hc9) (va_cwS 3 hts gX9_addBumper_X9_demandRange rfl rfl rfl (by decide +kernel) ⟨Nat.le_of_ble_eq_true rfl, Nat.le_of_ble_eq_true rfl⟩) hKK hW hS rfl hl.1 rfl (Nat.le_of_ble_eq_true rfl) dX9_addBumper_20 ⟨Nat.le_of_ble_eq_true rfl, Nat.le_of_ble_eq_true rfl⟩ (fun H locs hW hS hm1 hE => ?_)
        refine lv_iload hx hb dX9_addBumper_23 (lv_at hl 5 rfl) ?_
        refine lv_bipush (v := (100)) hx hb dX9_addBumper_25 (by decide) ?_
        refine lv_idiv hx hb dX9_addBumper_27 (by decide) ?_
        refine lv_iconst (v := (1)) hx hb dX9_addBumper_28 (by decide) ?_
        refine lv_bipush (v := (60)) hx hb dX9_addBumper_29 (by decide) ?_
        rcases op_cx hf with ⟨ee13, hc12, hf⟩ | ⟨r11, hc12, hf⟩
        · have hf := congrArg some hf
          have hf := Option.some.inj hf
          cases hf
        · skip
          refine z_callS (As := [.int (i_4 / (100 : Int32)), .int (1 : Int32), .int (60 : Int32)]) (rest := []) ⟨hx, hb, hml, hown, hts⟩ (tX9_demandRange l Γ lo S X  hc12) (va_cwS 3 hts gX9_addBumper_X9_demandRange rfl rfl rfl (by decide +kernel) ⟨Nat.le_of_ble_eq_true rfl, Nat.le_of_ble_eq_true rfl⟩) hKK hW hS rfl hl.1 rfl (Nat.le_of_ble_eq_true rfl) dX9_addBumper_31 ⟨Nat.le_of_ble_eq_true rfl, Nat.le_of_ble_eq_true rfl⟩ (fun H locs hW hS hm1 hE => ?_)
          refine lv_iload hx hb dX9_addBumper_34 (lv_at hl 5 rfl) ?_
          refine lv_bipush (v := (100)) hx hb dX9_addBumper_36 (by decide) ?_
          refine lv_irem hx hb dX9_addBumper_38 (by decide) ?_
          refine lv_iconst (v := (1)) hx hb dX9_addBumper_39 (by decide) ?_
          refine lv_bipush (v := (60)) hx hb dX9_addBumper_40 (by decide) ?_
          rcases op_cx hf with ⟨ee16, hc15, hf⟩ | ⟨r14, hc15, hf⟩
          · have hf := congrArg some hf
            have hf := Option.some.inj hf
            cases hf
          · skip
            refine z_callS (As := [.int (i_4 - i_4 / (100 : Int32) * (100 : Int32)), .int (1 : Int32), .int (60 : Int32)]) (rest := []) ⟨hx, hb, hml, hown, hts⟩ (tX9_demandRange l Γ lo S X  hc15) (va_cwS 3 hts gX9_addBumper_X9_demandRange rfl rfl rfl (by decide +kernel) ⟨Nat.le_of_ble_eq_true rfl, Nat.le_of_ble_eq_true rfl⟩) hKK hW hS rfl hl.1 rfl (Nat.le_of_ble_eq_true rfl) dX9_addBumper_42 ⟨Nat.le_of_ble_eq_true rfl, Nat.le_of_ble_eq_true rfl⟩ (fun H locs hW hS hm1 hE => ?_)
            refine lv_iload hx hb dX9_addBumper_45 (lv_at hl 6 rfl) ?_
            refine lv_iconst (v := (0)) hx hb dX9_addBumper_47 (by decide) ?_
            refine lv_bipush (v := (20)) hx hb dX9_addBumper_48 (by decide) ?_
            rcases op_cx hf with ⟨ee19, hc18, hf⟩ | ⟨r17, hc18, hf⟩
            · have hf := congrArg some hf
              have hf := Option.some.inj hf
              cases hf
            · skip
              refine z_callS (As := [.int i_5, .int (0 : Int32), .int (20 : Int32)]) (rest := []) ⟨hx, hb, hml, hown, hts⟩ (tX9_demandRange l Γ lo S X  hc18) (va_cwS 3 hts gX9_addBumper_X9_demandRange rfl rfl rfl (by decide +kernel) ⟨Nat.le_of_ble_eq_true rfl, Nat.le_of_ble_eq_true rfl⟩) hKK hW hS rfl hl.1 rfl (Nat.le_of_ble_eq_true rfl) dX9_addBumper_50 ⟨Nat.le_of_ble_eq_true rfl, Nat.le_of_ble_eq_true rfl⟩ (fun H locs hW hS hm1 hE => ?_)
              refine lv_aload hx hb dX9_addBumper_53 (lv_at hl 0 rfl) ?_
              rcases op_cx hf with ⟨ee22, hc21, hf⟩ | ⟨r20, hc21, hf⟩
              · have hf := congrArg some hf
                have hf := Option.some.inj hf
                cases hf
              · skip
                refine z_callS (As := [.ref (lo (8, r1, 0))]) (rest := []) ⟨hx, hb, hml, hown, hts⟩ (tX9_demandNoGame l Γ lo S X v4 hc21) (va_cwS 1 hts gX9_addBumper_X9_demandNoGame rfl rfl rfl (by decide +kernel) ⟨Nat.le_of_ble_eq_true rfl, Nat.le_of_ble_eq_true rfl⟩) hKK hW hS rfl hl.1 rfl (Nat.le_of_ble_eq_true rfl) dX9_addBumper_55 ⟨Nat.le_of_ble_eq_true rfl, Nat.le_of_ble_eq_true rfl⟩ (fun H locs hW hS hm1 hE => ?_)
                refine lv_aload hx hb dX9_addBumper_58 (lv_at hl 0 rfl) ?_
                refine va_get hx hb hts ni_X9_addBumper_X7 hown hKK.1 (wd_1 hW v4) 0 rfl rfl 2 (by decide) (hts (.fieldLink RX9 87 "TiltRoute$Table" "bumpers" "Ljava/util/ArrayList;") (List.mem_of_getElem? (i := 3) rfl)) (fun _ h => h) rfl dX9_addBumper_60 ?_
                have v23 : zV S (0, (r1 + 2), 0) = true := vf_8_2 hW v4
                obtain ⟨r24, hc25, hf⟩ := op_cl hf
                refine z_callV (As := []) (rest := []) ⟨hx, hb, hml, hown, hts⟩ (tJ_size l Γ lo S X v23 hc25) (cwV 0 hts gX9_addBumper_Jx4a65c_size_8abf5 rfl rfl rfl (by decide +kernel) ⟨Nat.le_of_ble_eq_true rfl, Nat.le_of_ble_eq_true rfl⟩) (wd_1 hW v23) rfl hKK hW hS rfl hl.1 rfl (Nat.le_of_ble_eq_true rfl) dX9_addBumper_63 ⟨Nat.le_of_ble_eq_true rfl, Nat.le_of_ble_eq_true rfl⟩ (fun H locs hW hS hm1 hE => ?_)
                refine lv_bipush (v := (8)) hx hb dX9_addBumper_66 (by decide) ?_
                refine lv_icmp_lt (tgt := 81) hx hb dX9_addBumper_68 (by decide) (fun k68 => ?_) (fun k68 => ?_)
                · have hf := (op_if hf).1 k68
                  refine lv_aload hx hb dX9_addBumper_81 (lv_at hl 0 rfl) ?_
                  refine va_get hx hb hts ni_X9_addBumper_X7 hown hKK.1 (wd_1 hW v4) 0 rfl rfl 2 (by decide) (hts (.fieldLink RX9 87 "TiltRoute$Table" "bumpers" "Ljava/util/ArrayList;") (List.mem_of_getElem? (i := 3) rfl)) (fun _ h => h) rfl dX9_addBumper_83 ?_
                  have v26 : zV S (0, (r1 + 2), 0) = true := vf_8_2 hW v4
                  have hf := op_fin hf
                  obtain ⟨g28, eg28, hf⟩ := op_st hf
                  refine n_new hx hb hts ni_X9_addBumper_X1 tyX1 tyX1_ok hown (hts (.classLink RX9 92 RX1) (List.mem_of_getElem? (i := 4) rfl)) (hts (.instantiable RX1 7) (List.mem_of_getElem? (i := 5) rfl)) (hts (.initialized RX1) (List.mem_of_getElem? (i := 6) rfl)) hKK.1 hW hS hB0 (ci := 2) rfl (fs := [.int 0, .int 0, .int 0, .int 0, .int 0, .int 0, .int 0]) df_X1 (Nat.le_of_ble_eq_true rfl) (Nat.le_of_ble_eq_true rfl) dX9_addBumper_86 (fun q27 H hW hS => ?_)
                  refine lv_dup hx hb dX9_addBumper_89 rfl ?_
                  refine lv_iload_n hx hb dX9_addBumper_90 rfl (lv_at hl 3 rfl) ?_
                  refine lv_iload_n hx hb dX9_addBumper_91 rfl (lv_at hl 4 rfl) ?_
                  refine lv_iload hx hb dX9_addBumper_92 (lv_at hl 5 rfl) ?_
                  refine lv_bipush (v := (100)) hx hb dX9_addBumper_94 (by decide) ?_
                  refine lv_idiv hx hb dX9_addBumper_96 (by decide) ?_
                  refine lv_iload hx hb dX9_addBumper_97 (lv_at hl 5 rfl) ?_
                  refine lv_bipush (v := (100)) hx hb dX9_addBumper_99 (by decide) ?_
                  refine lv_irem hx hb dX9_addBumper_101 (by decide) ?_
                  refine lv_iload hx hb dX9_addBumper_102 (lv_at hl 6 rfl) ?_
                  obtain ⟨S30, hc29, hf⟩ := op_cl hf
                  refine n_callI (As := [.int i_2, .int i_3, .int (i_4 / (100 : Int32)), .int (i_4 - i_4 / (100 : Int32) * (100 : Int32)), .int i_5]) (rest := [.ref q27, .ref (lo (0, (r1 + 2), 0))]) ⟨hx, hb, hml, hown, hts⟩ (tX1_init l Γ lo S (X) q27  hc29) (cwI 5 hts gX9_addBumper_X1_init rfl rfl rfl (hts (.initialized RX1) (List.mem_of_getElem? (i := 6) rfl)) (hts (.methodLink RX9 94 yX1_init) (List.mem_of_getElem? (i := 48) rfl)) (hts (.instanceMethod yX1_init) (List.mem_of_getElem? (i := 49) rfl)) rfl (by decide +kernel) ⟨Nat.le_of_ble_eq_true rfl, Nat.le_of_ble_eq_true rfl⟩) hKK hKY hW hS rfl hl.1 rfl (Nat.le_of_ble_eq_true rfl) dX9_addBumper_104 ⟨Nat.le_of_ble_eq_true rfl, Nat.le_of_ble_eq_true rfl⟩ (fun lo1 H locs hW hS h1 hmo hE => ?_)
                  obtain ⟨hq, v31⟩ := hE
                  rw [← hq]
                  rw [← h1 (10, 0, 0) v_z] at hl
                  rw [← h1 (8, r1, 0) v4] at hl
                  rw [← h1 (0, (r1 + 2), 0) v26]
                  have hlo : ∀ d, zV S d = true → lo1 d = lo0 d := fun d hd => (h1 d (hm d hd)).trans (hlo d hd)
                  rename zId → Nat => lo
                  have hm : ∀ c, zV S c = true → zV S30 c = true := fun c h => hmo c (hm c h)
                  have v_z : zV S30 (10, 0, 0) = true := hmo _ v_z
                  have v4 : zV S30 (8, r1, 0) = true := hmo _ v4
                  have v26 : zV S30 (0, (r1 + 2), 0) = true := hmo _ v26
                  obtain ⟨S33, hc32, hf⟩ := op_cl hf
                  refine n_callV (As := [.ref (lo (2, r1, g28))]) (rest := []) ⟨hx, hb, hml, hown, hts⟩ (tJ_add l Γ lo S30 (X) v26 v31 hc32) (cwV 1 hts gX9_addBumper_Jx4a65c_add_9ea2d rfl rfl rfl (by decide +kernel) ⟨Nat.le_of_ble_eq_true rfl, Nat.le_of_ble_eq_true rfl⟩) (wd_1 hW v26) rfl hKK hKY hW hS rfl hl.1 rfl (Nat.le_of_ble_eq_true rfl) dX9_addBumper_107 ⟨Nat.le_of_ble_eq_true rfl, Nat.le_of_ble_eq_true rfl⟩ (fun lo1 H locs hW hS h1 hmo hE => ?_)
                  rw [← h1 (10, 0, 0) v_z] at hl
                  rw [← h1 (8, r1, 0) v4] at hl
                  have hlo : ∀ d, zV S d = true → lo1 d = lo0 d := fun d hd => (h1 d (hm d hd)).trans (hlo d hd)
                  rename zId → Nat => lo
                  have hm : ∀ c, zV S c = true → zV S33 c = true := fun c h => hmo c (hm c h)
                  have v_z : zV S33 (10, 0, 0) = true := hmo _ v_z
                  have v4 : zV S33 (8, r1, 0) = true := hmo _ v4
                  refine lv_pop hx hb dX9_addBumper_110 rfl ?_
                  refine lv_aload hx hb dX9_addBumper_111 (lv_at hl 0 rfl) ?_
                  refine va_get hx hb hts ni_X9_addBumper_X7 hown hKK.1 (wd_1 hW v4) 0 rfl rfl 2 (by decide) (hts (.fieldLink RX9 87 "TiltRoute$Table" "bumpers" "Ljava/util/ArrayList;") (List.mem_of_getElem? (i := 3) rfl)) (fun _ h => h) rfl dX9_addBumper_113 ?_
                  have v34 : zV S33 (0, (r1 + 2), 0) = true := vf_8_2 hW v4
                  obtain ⟨r35, hc36, hf⟩ := op_cl hf
                  refine z_callV (As := []) (rest := []) ⟨hx, hb, hml, hown, hts⟩ (tJ_size l Γ lo S33 X v34 hc36) (cwV 0 hts gX9_addBumper_Jx4a65c_size_8abf5 rfl rfl rfl (by decide +kernel) ⟨Nat.le_of_ble_eq_true rfl, Nat.le_of_ble_eq_true rfl⟩) (wd_1 hW v34) rfl hKK hW hS rfl hl.1 rfl (Nat.le_of_ble_eq_true rfl) dX9_addBumper_116 ⟨Nat.le_of_ble_eq_true rfl, Nat.le_of_ble_eq_true rfl⟩ (fun H locs hW hS hm1 hE => ?_)
                  refine lv_iconst (v := (1)) hx hb dX9_addBumper_119 (by decide) ?_
                  refine lv_isub hx hb dX9_addBumper_120 ?_
                  have hf := Option.some.inj hf
                  rw [← hf]
                  exact n_iret hx hb hr hlocks (Nat.le_of_ble_eq_true rfl) (Nat.le_of_ble_eq_true rfl) rfl rfl hW hS hlo hm trivial dX9_addBumper_121
                · have hf := (op_if hf).2 k68
                  have hf := Option.some.inj hf
                  cases hf
theorem xs_X9_addBumper_71 : ∀ w ∈ (vx_atS "TiltRoute" 67 (zEx 3) zXn).filter goodWord, w ∈ wsX9_addBumper := by decide +kernel
theorem xs_X9_addBumper_71b : ∀ w ∈ (vx_atS "TiltRoute" 67 (zEx 3) zXn).filter (fun w => !goodWord w), w ∈ [Cond.castable (zEx 3) (zEx 3), .declares (Bundle.initS "java/lang/RuntimeException"), .declares (Bundle.initS "java/lang/Exception"), .declares (Bundle.initS Bundle.tN)] := by decide +kernel
theorem xs_X9_addBumper_71c : ∀ w ∈ Cond.classLink "TiltRoute" 63 (zEx 3) :: Cond.initialized (zEx 3) :: vx_atS "TiltRoute" 67 (zEx 3) zXn, vx_ot w = true := by decide +kernel
abbrev rnX9_addBumper : Room := { frames := 7, cells := 1, slots := 6, locals := 104 }
set_option maxHeartbeats 4000000 in
set_option maxRecDepth 100000 in
theorem uX9_addBumper (l : Launch) (hl0 : l.stackTraces = false) (Γ : zG) (lo : zId → Nat) (S : zSt) (X : va_W) {i_1 : Int32} {i_2 : Int32} {i_3 : Int32} {i_4 : Int32} {i_5 : Int32} (v_z : zV S (10, 0, 0) = true) {ee : Nat × zSt} (hf : fX9_addBumper S i_1 i_2 i_3 i_4 i_5 = some (Sum.inl ee)) : vx_Met l yX9_addBumper wsX9_addBumper rnX9_addBumper (zP1 Γ lo S X [.ref (lo (10, 0, 0)), .int i_1, .int i_2, .int i_3, .int i_4, .int i_5]) zF (zT Γ lo S X ee) 1 6 (zA Γ) := by
  refine vx_ofW (cc := cX9_addBumper) (maxL := 7) (ret := (some .int)) (by decide) rfl ?_
  intro p e s m args below meth c s₁ B hml ht hv
  obtain ⟨rfl, hW, hKK, hKX⟩ := hv
  have hx := B.exec
  have hb := B.bytes
  have hr := B.returns
  have hts := atoms_spec (ws := wsX9_addBumper) B.pre
  have hown : s.vm.findClass RX9 = some m.cls := findClass_of_methodNamed B.named
  have hlocks := B.notSynchronized
  have hS : va_S (zA Γ) s.heap s.heap [] := va_S.rf
  have hm : ∀ c, zV S c = zV S c := fun _ => rfl
  have hl := lv_entry ([.ref (lo (10, 0, 0)), .int i_1, .int i_2, .int i_3, .int i_4, .int i_5]) (n := 7) (Nat.le_of_ble_eq_true rfl)
  rw [lg_entry_eq]
  generalize (lg_sl ([.ref (lo (10, 0, 0)), .int i_1, .int i_2, .int i_3, .int i_4, .int i_5]) ++ List.replicate (7 - (lg_sl ([.ref (lo (10, 0, 0)), .int i_1, .int i_2, .int i_3, .int i_4, .int i_5])).length) Slot.unset).toArray = ls at hl ⊢
  have hl : lv_has ls 7 [(0, .ref (lo (10, 0, 0))), (1, .int i_1), (2, .int i_2), (3, .int i_3), (4, .int i_4), (5, .int i_5)] := hl
  obtain ⟨H, hH0⟩ : ∃ H, H = s.heap := ⟨_, rfl⟩
  obtain ⟨locs, hlo0⟩ : ∃ L : List Loc, L = [] := ⟨_, rfl⟩
  have hS : va_S (zA Γ) s.heap H locs := by rw [hH0, hlo0]; exact hS
  have hW : Wd Γ lo S X H := by rw [hH0]; exact hW
  rw [← hH0, ← hlo0]
  unfold fX9_addBumper at hf
  refine lv_aload_n hx hb dX9_addBumper_0 rfl (lv_at hl 0 rfl) ?_
  refine lv_iload_n hx hb dX9_addBumper_1 rfl (lv_at hl 1 rfl) ?_
  rcases op_cx hf with ⟨ee3, hc2, hf⟩ | ⟨r1, hc2, hf⟩
  · have hf := congrArg some hf
    have hf := Option.some.inj hf
    have hf := Sum.inl.inj hf
    rw [← hf]
    exact zx_callV (As := [.int i_1]) (rest := []) ⟨hx, hb, hml, hown, hts⟩ (uX9_demandTable l hl0 Γ lo S X v_z hc2) (cwV 1 hts gX9_addBumper_X9_demandTable rfl rfl rfl (by decide +kernel) ⟨Nat.le_of_ble_eq_true rfl, Nat.le_of_ble_eq_true rfl⟩) (wd_1 hW v_z) rfl hKK hKX hW hS hm rfl hl.1 rfl (Nat.le_of_ble_eq_true rfl) dX9_addBumper_2 ⟨Nat.le_of_ble_eq_true rfl, Nat.le_of_ble_eq_true rfl⟩ ht hlocks
  · skip
    refine z_callV (As := [.int i_1]) (rest := []) ⟨hx, hb, hml, hown, hts⟩ (tX9_demandTable l Γ lo S X v_z hc2) (cwV 1 hts gX9_addBumper_X9_demandTable rfl rfl rfl (by decide +kernel) ⟨Nat.le_of_ble_eq_true rfl, Nat.le_of_ble_eq_true rfl⟩) (wd_1 hW v_z) rfl hKK hW hS rfl hl.1 rfl (Nat.le_of_ble_eq_true rfl) dX9_addBumper_2 ⟨Nat.zero_le _, Nat.zero_le _⟩ (fun H locs hW hS hm1 hE => ?_)
    have v4 : zV S (8, r1, 0) = true := hE
    refine lv_astore (lv' := [(6, .ref (lo (8, r1, 0))), (0, .ref (lo (10, 0, 0))), (1, .int i_1), (2, .int i_2), (3, .int i_3), (4, .int i_4), (5, .int i_5)]) hx hb dX9_addBumper_5 hl (by decide) rfl (fun ls hl => ?_)
    refine lv_iload_n hx hb dX9_addBumper_7 rfl (lv_at hl 3 rfl) ?_
    refine lv_iconst (v := (0)) hx hb dX9_addBumper_8 (by decide) ?_
    refine lv_sipush (v := (159)) hx hb dX9_addBumper_9 (by decide) ?_
    rcases op_cx hf with ⟨ee7, hc6, hf⟩ | ⟨r5, hc6, hf⟩
    · have hf := congrArg some hf
      have hf := Option.some.inj hf
      have hf := Sum.inl.inj hf
      rw [← hf]
      exact zx_callS (As := [.int i_2, .int (0 : Int32), .int (159 : Int32)]) (rest := []) ⟨hx, hb, hml, hown, hts⟩ (uX9_demandRange l hl0 Γ lo S X  hc6) (va_cwS 3 hts gX9_addBumper_X9_demandRange rfl rfl rfl (by decide +kernel) ⟨Nat.le_of_ble_eq_true rfl, Nat.le_of_ble_eq_true rfl⟩) hKK hKX hW hS hm rfl hl.1 rfl (Nat.le_of_ble_eq_true rfl) dX9_addBumper_12 ⟨Nat.le_of_ble_eq_true rfl, Nat.le_of_ble_eq_true rfl⟩ ht hlocks
    · skip
      refine z_callS (As := [.int i_2, .int (0 : Int32), .int (159 : Int32)]) (rest := []) ⟨hx, hb, hml, hown, hts⟩ (tX9_demandRange l Γ lo S X  hc6) (va_cwS 3 hts gX9_addBumper_X9_demandRange rfl rfl rfl (by decide +kernel) ⟨Nat.le_of_ble_eq_true rfl, Nat.le_of_ble_eq_true rfl⟩) hKK hW hS rfl hl.1 rfl (Nat.le_of_ble_eq_true rfl) dX9_addBumper_12 ⟨Nat.zero_le _, Nat.zero_le _⟩ (fun H locs hW hS hm1 hE => ?_)
      refine lv_iload_n hx hb dX9_addBumper_15 rfl (lv_at hl 4 rfl) ?_
      refine lv_iconst (v := (0)) hx hb dX9_addBumper_16 (by decide) ?_
      refine lv_sipush (v := (239)) hx hb dX9_addBumper_17 (by decide) ?_
      rcases op_cx hf with ⟨ee10, hc9, hf⟩ | ⟨r8, hc9, hf⟩
      · have hf := congrArg some hf
        have hf := Option.some.inj hf
        have hf := Sum.inl.inj hf
        rw [← hf]
        exact zx_callS (As := [.int i_3, .int (0 : Int32), .int (239 : Int32)]) (rest := []) ⟨hx, hb, hml, hown, hts⟩ (uX9_demandRange l hl0 Γ lo S X  hc9) (va_cwS 3 hts gX9_addBumper_X9_demandRange rfl rfl rfl (by decide +kernel) ⟨Nat.le_of_ble_eq_true rfl, Nat.le_of_ble_eq_true rfl⟩) hKK hKX hW hS hm rfl hl.1 rfl (Nat.le_of_ble_eq_true rfl) dX9_addBumper_20 ⟨Nat.le_of_ble_eq_true rfl, Nat.le_of_ble_eq_true rfl⟩ ht hlocks
      · skip
        refine z_callS (As := [.int i_3, .int (0 : Int32), .int (239 : Int32)]) (rest := []) ⟨hx, hb, hml, hown, hts⟩ (tX9_demandRange l Γ lo S X  hc9) (va_cwS 3 hts gX9_addBumper_X9_demandRange rfl rfl rfl (by decide +kernel) ⟨Nat.le_of_ble_eq_true rfl, Nat.le_of_ble_eq_true rfl⟩) hKK hW hS rfl hl.1 rfl (Nat.le_of_ble_eq_true rfl) dX9_addBumper_20 ⟨Nat.zero_le _, Nat.zero_le _⟩ (fun H locs hW hS hm1 hE => ?_)
        refine lv_iload hx hb dX9_addBumper_23 (lv_at hl 5 rfl) ?_
        refine lv_bipush (v := (100)) hx hb dX9_addBumper_25 (by decide) ?_
        refine lv_idiv hx hb dX9_addBumper_27 (by decide) ?_
        refine lv_iconst (v := (1)) hx hb dX9_addBumper_28 (by decide) ?_
        refine lv_bipush (v := (60)) hx hb dX9_addBumper_29 (by decide) ?_
        rcases op_cx hf with ⟨ee13, hc12, hf⟩ | ⟨r11, hc12, hf⟩
        · have hf := congrArg some hf
          have hf := Option.some.inj hf
          have hf := Sum.inl.inj hf
          rw [← hf]
          exact zx_callS (As := [.int (i_4 / (100 : Int32)), .int (1 : Int32), .int (60 : Int32)]) (rest := []) ⟨hx, hb, hml, hown, hts⟩ (uX9_demandRange l hl0 Γ lo S X  hc12) (va_cwS 3 hts gX9_addBumper_X9_demandRange rfl rfl rfl (by decide +kernel) ⟨Nat.le_of_ble_eq_true rfl, Nat.le_of_ble_eq_true rfl⟩) hKK hKX hW hS hm rfl hl.1 rfl (Nat.le_of_ble_eq_true rfl) dX9_addBumper_31 ⟨Nat.le_of_ble_eq_true rfl, Nat.le_of_ble_eq_true rfl⟩ ht hlocks
        · skip
          refine z_callS (As := [.int (i_4 / (100 : Int32)), .int (1 : Int32), .int (60 : Int32)]) (rest := []) ⟨hx, hb, hml, hown, hts⟩ (tX9_demandRange l Γ lo S X  hc12) (va_cwS 3 hts gX9_addBumper_X9_demandRange rfl rfl rfl (by decide +kernel) ⟨Nat.le_of_ble_eq_true rfl, Nat.le_of_ble_eq_true rfl⟩) hKK hW hS rfl hl.1 rfl (Nat.le_of_ble_eq_true rfl) dX9_addBumper_31 ⟨Nat.zero_le _, Nat.zero_le _⟩ (fun H locs hW hS hm1 hE => ?_)
          refine lv_iload hx hb dX9_addBumper_34 (lv_at hl 5 rfl) ?_
          refine lv_bipush (v := (100)) hx hb dX9_addBumper_36 (by decide) ?_
          refine lv_irem hx hb dX9_addBumper_38 (by decide) ?_
          refine lv_iconst (v := (1)) hx hb dX9_addBumper_39 (by decide) ?_
          refine lv_bipush (v := (60)) hx hb dX9_addBumper_40 (by decide) ?_
          rcases op_cx hf with ⟨ee16, hc15, hf⟩ | ⟨r14, hc15, hf⟩
          · have hf := congrArg some hf
            have hf := Option.some.inj hf
            have hf := Sum.inl.inj hf
            rw [← hf]
            exact zx_callS (As := [.int (i_4 - i_4 / (100 : Int32) * (100 : Int32)), .int (1 : Int32), .int (60 : Int32)]) (rest := []) ⟨hx, hb, hml, hown, hts⟩ (uX9_demandRange l hl0 Γ lo S X  hc15) (va_cwS 3 hts gX9_addBumper_X9_demandRange rfl rfl rfl (by decide +kernel) ⟨Nat.le_of_ble_eq_true rfl, Nat.le_of_ble_eq_true rfl⟩) hKK hKX hW hS hm rfl hl.1 rfl (Nat.le_of_ble_eq_true rfl) dX9_addBumper_42 ⟨Nat.le_of_ble_eq_true rfl, Nat.le_of_ble_eq_true rfl⟩ ht hlocks
          · skip
            refine z_callS (As := [.int (i_4 - i_4 / (100 : Int32) * (100 : Int32)), .int (1 : Int32), .int (60 : Int32)]) (rest := []) ⟨hx, hb, hml, hown, hts⟩ (tX9_demandRange l Γ lo S X  hc15) (va_cwS 3 hts gX9_addBumper_X9_demandRange rfl rfl rfl (by decide +kernel) ⟨Nat.le_of_ble_eq_true rfl, Nat.le_of_ble_eq_true rfl⟩) hKK hW hS rfl hl.1 rfl (Nat.le_of_ble_eq_true rfl) dX9_addBumper_42 ⟨Nat.zero_le _, Nat.zero_le _⟩ (fun H locs hW hS hm1 hE => ?_)
            refine lv_iload hx hb dX9_addBumper_45 (lv_at hl 6 rfl) ?_
            refine lv_iconst (v := (0)) hx hb dX9_addBumper_47 (by decide) ?_
            refine lv_bipush (v := (20)) hx hb dX9_addBumper_48 (by decide) ?_
            rcases op_cx hf with ⟨ee19, hc18, hf⟩ | ⟨r17, hc18, hf⟩
            · have hf := congrArg some hf
              have hf := Option.some.inj hf
              have hf := Sum.inl.inj hf
              rw [← hf]
              exact zx_callS (As := [.int i_5, .int (0 : Int32), .int (20 : Int32)]) (rest := []) ⟨hx, hb, hml, hown, hts⟩ (uX9_demandRange l hl0 Γ lo S X  hc18) (va_cwS 3 hts gX9_addBumper_X9_demandRange rfl rfl rfl (by decide +kernel) ⟨Nat.le_of_ble_eq_true rfl, Nat.le_of_ble_eq_true rfl⟩) hKK hKX hW hS hm rfl hl.1 rfl (Nat.le_of_ble_eq_true rfl) dX9_addBumper_50 ⟨Nat.le_of_ble_eq_true rfl, Nat.le_of_ble_eq_true rfl⟩ ht hlocks
            · skip
              refine z_callS (As := [.int i_5, .int (0 : Int32), .int (20 : Int32)]) (rest := []) ⟨hx, hb, hml, hown, hts⟩ (tX9_demandRange l Γ lo S X  hc18) (va_cwS 3 hts gX9_addBumper_X9_demandRange rfl rfl rfl (by decide +kernel) ⟨Nat.le_of_ble_eq_true rfl, Nat.le_of_ble_eq_true rfl⟩) hKK hW hS rfl hl.1 rfl (Nat.le_of_ble_eq_true rfl) dX9_addBumper_50 ⟨Nat.zero_le _, Nat.zero_le _⟩ (fun H locs hW hS hm1 hE => ?_)
              refine lv_aload hx hb dX9_addBumper_53 (lv_at hl 0 rfl) ?_
              rcases op_cx hf with ⟨ee22, hc21, hf⟩ | ⟨r20, hc21, hf⟩
              · have hf := congrArg some hf
                have hf := Option.some.inj hf
                have hf := Sum.inl.inj hf
                rw [← hf]
                exact zx_callS (As := [.ref (lo (8, r1, 0))]) (rest := []) ⟨hx, hb, hml, hown, hts⟩ (uX9_demandNoGame l hl0 Γ lo S X v4 hc21) (va_cwS 1 hts gX9_addBumper_X9_demandNoGame rfl rfl rfl (by decide +kernel) ⟨Nat.le_of_ble_eq_true rfl, Nat.le_of_ble_eq_true rfl⟩) hKK hKX hW hS hm rfl hl.1 rfl (Nat.le_of_ble_eq_true rfl) dX9_addBumper_55 ⟨Nat.le_of_ble_eq_true rfl, Nat.le_of_ble_eq_true rfl⟩ ht hlocks
              · skip
                refine z_callS (As := [.ref (lo (8, r1, 0))]) (rest := []) ⟨hx, hb, hml, hown, hts⟩ (tX9_demandNoGame l Γ lo S X v4 hc21) (va_cwS 1 hts gX9_addBumper_X9_demandNoGame rfl rfl rfl (by decide +kernel) ⟨Nat.le_of_ble_eq_true rfl, Nat.le_of_ble_eq_true rfl⟩) hKK hW hS rfl hl.1 rfl (Nat.le_of_ble_eq_true rfl) dX9_addBumper_55 ⟨Nat.zero_le _, Nat.zero_le _⟩ (fun H locs hW hS hm1 hE => ?_)
                refine lv_aload hx hb dX9_addBumper_58 (lv_at hl 0 rfl) ?_
                refine va_get hx hb hts ni_X9_addBumper_X7 hown hKK.1 (wd_1 hW v4) 0 rfl rfl 2 (by decide) (hts (.fieldLink RX9 87 "TiltRoute$Table" "bumpers" "Ljava/util/ArrayList;") (List.mem_of_getElem? (i := 3) rfl)) (fun _ h => h) rfl dX9_addBumper_60 ?_
                have v23 : zV S (0, (r1 + 2), 0) = true := vf_8_2 hW v4
                obtain ⟨r24, hc25, hf⟩ := op_cl hf
                refine z_callV (As := []) (rest := []) ⟨hx, hb, hml, hown, hts⟩ (tJ_size l Γ lo S X v23 hc25) (cwV 0 hts gX9_addBumper_Jx4a65c_size_8abf5 rfl rfl rfl (by decide +kernel) ⟨Nat.le_of_ble_eq_true rfl, Nat.le_of_ble_eq_true rfl⟩) (wd_1 hW v23) rfl hKK hW hS rfl hl.1 rfl (Nat.le_of_ble_eq_true rfl) dX9_addBumper_63 ⟨Nat.zero_le _, Nat.zero_le _⟩ (fun H locs hW hS hm1 hE => ?_)
                refine lv_bipush (v := (8)) hx hb dX9_addBumper_66 (by decide) ?_
                refine lv_icmp_lt (tgt := 81) hx hb dX9_addBumper_68 (by decide) (fun k68 => ?_) (fun k68 => ?_)
                · have hf := (op_if hf).1 k68
                  refine lv_aload hx hb dX9_addBumper_81 (lv_at hl 0 rfl) ?_
                  refine va_get hx hb hts ni_X9_addBumper_X7 hown hKK.1 (wd_1 hW v4) 0 rfl rfl 2 (by decide) (hts (.fieldLink RX9 87 "TiltRoute$Table" "bumpers" "Ljava/util/ArrayList;") (List.mem_of_getElem? (i := 3) rfl)) (fun _ h => h) rfl dX9_addBumper_83 ?_
                  have v26 : zV S (0, (r1 + 2), 0) = true := vf_8_2 hW v4
                  exact (op_finT hf).elim
                · have hf := (op_if hf).2 k68
                  have hf := Option.some.inj hf
                  have hf := Sum.inl.inj hf
                  rw [← hf]
                  exact zx_thr (ee := (3, S)) hx hb hl0 hts hown (hts (.classLink RX9 63 "java/lang/IllegalStateException") (List.mem_of_getElem? (i := 1) rfl)) (hts (.initialized "java/lang/IllegalStateException") (List.mem_of_getElem? (i := 2) rfl)) (List.mem_of_getElem? (i := 1) rfl) xs_X9_addBumper_71 xs_X9_addBumper_71b (show Bundle.fit (zEx 3) = true by decide) xs_X9_addBumper_71c hKK hKX hS (hl.1.trans hml.symm) dX9_addBumper_71 dX9_addBumper_74 dX9_addBumper_75 dX9_addBumper_77 dX9_addBumper_80 ht (Nat.le_of_ble_eq_true rfl) (Nat.le_of_ble_eq_true rfl) (Nat.le_of_ble_eq_true rfl) (Nat.le_of_ble_eq_true rfl) hlocks hW hm

theorem ni_X9_coin_X2 : ∀ w ∈ wsX20, w ∈ wsX9_coin := by decide +kernel
theorem ni_X9_coin_X7 : ∀ w ∈ wsX70, w ∈ wsX9_coin := by decide +kernel
theorem ni_X9_coin_X9 : ∀ w ∈ wsX90, w ∈ wsX9_coin := by decide +kernel
def fX9_coin (S : zSt) (i_1 : Int32) : Option ((Nat × zSt) ⊕ (Int32 × zSt)) :=
cx (fX9_demandTable S i_1) fun r1 =>
cx (fX9_demandNoGame S r1) fun r5 =>
cl (fJ_size S 1) fun r9 =>
if r9 < (40 : Int32) then
fin (
st ((zI S (0, 1, 0) 2).toNatClampNeg) fun g13 =>
cl (fX6_copied S 0 r1 g13) fun S16 =>
cl (fX2_init S16 g13 i_1) fun S19 =>
cl (fJ_add S19 1 g13) fun S22 =>
cl (fJ_size S22 1) fun r24 =>
st (pI S22 (8, r1, 0) 4 (r24 - (1 : Int32))) fun S26 =>
st (pI S26 (8, r1, 0) 5 ((zI S26 (8, r1, 0) 5) + (zI S26 (8, r1, 0) 1))) fun S27 =>
st (pI S27 (8, r1, 0) 6 ((zI S27 (8, r1, 0) 6) + (zI S27 (8, r1, 0) 1))) fun S28 =>
some (((zI S28 (8, r1, 0) 4), S28)))
else
some (.inl (3, S))
abbrev rmX9_coin : Room := { frames := 8, cells := 9, slots := 2614, locals := 321 }
set_option maxHeartbeats 4000000 in
set_option maxRecDepth 100000 in
theorem tX9_coin (l : Launch) (Γ : zG) (lo0 : zId → Nat) (S : zSt) (X : va_W) {i_1 : Int32} (v_z : zV S (10, 0, 0) = true) {y : (Int32 × zSt)} (hf : fX9_coin S i_1 = some (Sum.inr y)) : Met l yX9_coin wsX9_coin rmX9_coin (zP2 Γ lo0 S X [.ref (lo0 (10, 0, 0)), .int i_1]) (zQn Γ lo0 S y.2 X (fun _ => some (.int y.1)) (fun _ => True)) 9 2614 (zA Γ) := by
  refine Met.ofW (cc := cX9_coin) (maxL := 3) (ret := (some .int)) (by decide) rfl ?_
  intro p e s m args below meth c s₁ B hml hv
  obtain ⟨rfl, hW, hKK, hKY⟩ := hv
  have hx := B.exec
  have hb := B.bytes
  have hr := B.returns
  have hts := atoms_spec (ws := wsX9_coin) B.pre
  have hown : s.vm.findClass RX9 = some m.cls := findClass_of_methodNamed B.named
  have hlocks := B.notSynchronized
  have hS : va_S (zA Γ) s.heap s.heap [] := va_S.rf
  have hB0 : Γ.2.2.1 ≤ s.heap.size := hW.1
  have hm : ∀ c, zV S c = true → zV S c = true := fun _ h => h
  have hl := lv_entry ([.ref (lo0 (10, 0, 0)), .int i_1]) (n := 3) (Nat.le_of_ble_eq_true rfl)
  rw [lg_entry_eq]
  generalize (lg_sl ([.ref (lo0 (10, 0, 0)), .int i_1]) ++ List.replicate (3 - (lg_sl ([.ref (lo0 (10, 0, 0)), .int i_1])).length) Slot.unset).toArray = ls at hl ⊢
  have hl : lv_has ls 3 [(0, .ref (lo0 (10, 0, 0))), (1, .int i_1)] := hl
  generalize ([.ref (lo0 (10, 0, 0)), .int i_1] : List Value).toArray = args at hts ⊢
  obtain ⟨H, hH0⟩ : ∃ H, H = s.heap := ⟨_, rfl⟩
  obtain ⟨locs, hlo0⟩ : ∃ L : List Loc, L = [] := ⟨_, rfl⟩
  have hS : va_S (zA Γ) s.heap H locs := by rw [hH0, hlo0]; exact hS
  have hW : Wd Γ lo0 S X H := by rw [hH0]; exact hW
  rw [← hH0, ← hlo0]
  obtain ⟨lo, hle⟩ : ∃ z : zId → Nat, z = lo0 := ⟨_, rfl⟩
  have hlo : ∀ d, zV S d = true → lo d = lo0 d := fun d _ => by rw [hle]
  have hW : Wd Γ lo S X H := by rw [hle]; exact hW
  have hl : lv_has ls 3 [(0, .ref (lo (10, 0, 0))), (1, .int i_1)] := by first | (rw [hle]; exact hl) | exact hl
  unfold fX9_coin at hf
  refine lv_aload_n hx hb dX9_coin_0 rfl (lv_at hl 0 rfl) ?_
  refine lv_iload_n hx hb dX9_coin_1 rfl (lv_at hl 1 rfl) ?_
  rcases op_cx hf with ⟨ee3, hc2, hf⟩ | ⟨r1, hc2, hf⟩
  · have hf := congrArg some hf
    have hf := Option.some.inj hf
    cases hf
  · skip
    refine z_callV (As := [.int i_1]) (rest := []) ⟨hx, hb, hml, hown, hts⟩ (tX9_demandTable l Γ lo S X v_z hc2) (cwV 1 hts gX9_coin_X9_demandTable rfl rfl rfl (by decide +kernel) ⟨Nat.le_of_ble_eq_true rfl, Nat.le_of_ble_eq_true rfl⟩) (wd_1 hW v_z) rfl hKK hW hS rfl hl.1 rfl (Nat.le_of_ble_eq_true rfl) dX9_coin_2 ⟨Nat.le_of_ble_eq_true rfl, Nat.le_of_ble_eq_true rfl⟩ (fun H locs hW hS hm1 hE => ?_)
    have v4 : zV S (8, r1, 0) = true := hE
    refine lv_astore_n (lv' := [(2, .ref (lo (8, r1, 0))), (0, .ref (lo (10, 0, 0))), (1, .int i_1)]) hx hb dX9_coin_5 rfl hl (by decide) rfl (fun ls hl => ?_)
    refine lv_aload_n hx hb dX9_coin_6 rfl (lv_at hl 0 rfl) ?_
    rcases op_cx hf with ⟨ee7, hc6, hf⟩ | ⟨r5, hc6, hf⟩
    · have hf := congrArg some hf
      have hf := Option.some.inj hf
      cases hf
    · skip
      refine z_callS (As := [.ref (lo (8, r1, 0))]) (rest := []) ⟨hx, hb, hml, hown, hts⟩ (tX9_demandNoGame l Γ lo S X v4 hc6) (va_cwS 1 hts gX9_coin_X9_demandNoGame rfl rfl rfl (by decide +kernel) ⟨Nat.le_of_ble_eq_true rfl, Nat.le_of_ble_eq_true rfl⟩) hKK hW hS rfl hl.1 rfl (Nat.le_of_ble_eq_true rfl) dX9_coin_7 ⟨Nat.le_of_ble_eq_true rfl, Nat.le_of_ble_eq_true rfl⟩ (fun H locs hW hS hm1 hE => ?_)
      refine lv_aload_n hx hb dX9_coin_10 rfl (lv_at hl 1 rfl) ?_
      refine va_get hx hb hts ni_X9_coin_X9 hown hKK.1 (wd_1 hW v_z) 0 rfl rfl 1 (by decide) (hts (.fieldLink RX9 16 "TiltRoute" "games" "Ljava/util/ArrayList;") (List.mem_of_getElem? (i := 3) rfl)) (fun _ h => h) rfl dX9_coin_11 ?_
      have v8 : zV S (0, 1, 0) = true := vf_10_1 hW v_z
      obtain ⟨r9, hc10, hf⟩ := op_cl hf
      refine z_callV (As := []) (rest := []) ⟨hx, hb, hml, hown, hts⟩ (tJ_size l Γ lo S X v8 hc10) (cwV 0 hts gX9_coin_Jx4a65c_size_8abf5 rfl rfl rfl (by decide +kernel) ⟨Nat.le_of_ble_eq_true rfl, Nat.le_of_ble_eq_true rfl⟩) (wd_1 hW v8) rfl hKK hW hS rfl hl.1 rfl (Nat.le_of_ble_eq_true rfl) dX9_coin_14 ⟨Nat.le_of_ble_eq_true rfl, Nat.le_of_ble_eq_true rfl⟩ (fun H locs hW hS hm1 hE => ?_)
      refine lv_bipush (v := (40)) hx hb dX9_coin_17 (by decide) ?_
      refine lv_icmp_lt (tgt := 32) hx hb dX9_coin_19 (by decide) (fun k19 => ?_) (fun k19 => ?_)
      · have hf := (op_if hf).1 k19
        refine lv_aload_n hx hb dX9_coin_32 rfl (lv_at hl 1 rfl) ?_
        refine va_get hx hb hts ni_X9_coin_X9 hown hKK.1 (wd_1 hW v_z) 0 rfl rfl 1 (by decide) (hts (.fieldLink RX9 16 "TiltRoute" "games" "Ljava/util/ArrayList;") (List.mem_of_getElem? (i := 3) rfl)) (fun _ h => h) rfl dX9_coin_33 ?_
        have v11 : zV S (0, 1, 0) = true := vf_10_1 hW v_z
        have hf := op_fin hf
        obtain ⟨g13, eg13, hf⟩ := op_st hf
        refine n_new hx hb hts ni_X9_coin_X2 tyX2 tyX2_ok hown (hts (.classLink RX9 143 RX2) (List.mem_of_getElem? (i := 4) rfl)) (hts (.instantiable RX2 6) (List.mem_of_getElem? (i := 5) rfl)) (hts (.initialized RX2) (List.mem_of_getElem? (i := 6) rfl)) hKK.1 hW hS hB0 (ci := 3) rfl (fs := [.int 0, .null, .null, .null, .int 0, .int 0]) df_X2 (Nat.le_of_ble_eq_true rfl) (Nat.le_of_ble_eq_true rfl) dX9_coin_36 (fun q12 H hW hS => ?_)
        refine lv_dup hx hb dX9_coin_39 rfl ?_
        refine lv_iload_n hx hb dX9_coin_40 rfl (lv_at hl 2 rfl) ?_
        refine lv_aload_n hx hb dX9_coin_41 rfl (lv_at hl 0 rfl) ?_
        refine va_get hx hb hts ni_X9_coin_X7 hown hKK.1 (wd_1 hW v4) 0 rfl rfl 3 (by decide) (hts (.fieldLink RX9 101 "TiltRoute$Table" "rules" "LTiltRoute$Rules;") (List.mem_of_getElem? (i := 7) rfl)) (fun _ h => h) rfl dX9_coin_42 ?_
        have v14 : zV S (7, 0, r1) = true := vf_8_3 hW v4
        obtain ⟨S16, hc15, hf⟩ := op_cl hf
        refine n_callV (As := []) (rest := [.int i_1, .ref q12, .ref q12, .ref (lo (0, 1, 0))]) ⟨hx, hb, hml, hown, hts⟩ (tX6_copied l Γ lo S ((q12, .inr (3, [.int 0, .null, .null, .null, .int 0, .int 0])) :: X) v14 hc15) (cwV 0 hts gX9_coin_X6_copied rfl rfl rfl (by decide +kernel) ⟨Nat.le_of_ble_eq_true rfl, Nat.le_of_ble_eq_true rfl⟩) (wd_1 hW v14) rfl hKK hKY hW hS rfl hl.1 rfl (Nat.le_of_ble_eq_true rfl) dX9_coin_45 ⟨Nat.le_of_ble_eq_true rfl, Nat.le_of_ble_eq_true rfl⟩ (fun lo1 H locs hW hS h1 hmo hE => ?_)
        rw [← h1 (10, 0, 0) v_z] at hl
        rw [← h1 (8, r1, 0) v4] at hl
        rw [← h1 (0, 1, 0) v11]
        have hlo : ∀ d, zV S d = true → lo1 d = lo0 d := fun d hd => (h1 d (hm d hd)).trans (hlo d hd)
        rename zId → Nat => lo
        have hm : ∀ c, zV S c = true → zV S16 c = true := fun c h => hmo c (hm c h)
        have v_z : zV S16 (10, 0, 0) = true := hmo _ v_z
        have v4 : zV S16 (8, r1, 0) = true := hmo _ v4
        have v11 : zV S16 (0, 1, 0) = true := hmo _ v11
        have v17 := hE
        obtain ⟨S19, hc18, hf⟩ := op_cl hf
        refine n_callI (As := [.int i_1, .ref (lo (7, 1, g13))]) (rest := [.ref q12, .ref (lo (0, 1, 0))]) ⟨hx, hb, hml, hown, hts⟩ (tX2_init l Γ lo S16 (X) q12 v17 hc18) (cwI 2 hts gX9_coin_X2_init rfl rfl rfl (hts (.initialized RX2) (List.mem_of_getElem? (i := 6) rfl)) (hts (.methodLink RX9 149 yX2_init) (List.mem_of_getElem? (i := 72) rfl)) (hts (.instanceMethod yX2_init) (List.mem_of_getElem? (i := 73) rfl)) rfl (by decide +kernel) ⟨Nat.le_of_ble_eq_true rfl, Nat.le_of_ble_eq_true rfl⟩) hKK hKY hW hS rfl hl.1 rfl (Nat.le_of_ble_eq_true rfl) dX9_coin_48 ⟨Nat.le_of_ble_eq_true rfl, Nat.le_of_ble_eq_true rfl⟩ (fun lo1 H locs hW hS h1 hmo hE => ?_)
        obtain ⟨hq, v20⟩ := hE
        rw [← hq]
        rw [← h1 (10, 0, 0) v_z] at hl
        rw [← h1 (8, r1, 0) v4] at hl
        rw [← h1 (0, 1, 0) v11]
        have hlo : ∀ d, zV S d = true → lo1 d = lo0 d := fun d hd => (h1 d (hm d hd)).trans (hlo d hd)
        rename zId → Nat => lo
        have hm : ∀ c, zV S c = true → zV S19 c = true := fun c h => hmo c (hm c h)
        have v_z : zV S19 (10, 0, 0) = true := hmo _ v_z
        have v4 : zV S19 (8, r1, 0) = true := hmo _ v4
        have v11 : zV S19 (0, 1, 0) = true := hmo _ v11
        obtain ⟨S22, hc21, hf⟩ := op_cl hf
        refine n_callV (As := [.ref (lo (3, g13, 0))]) (rest := []) ⟨hx, hb, hml, hown, hts⟩ (tJ_add l Γ lo S19 (X) v11 v20 hc21) (cwV 1 hts gX9_coin_Jx4a65c_add_9ea2d rfl rfl rfl (by decide +kernel) ⟨Nat.le_of_ble_eq_true rfl, Nat.le_of_ble_eq_true rfl⟩) (wd_1 hW v11) rfl hKK hKY hW hS rfl hl.1 rfl (Nat.le_of_ble_eq_true rfl) dX9_coin_51 ⟨Nat.le_of_ble_eq_true rfl, Nat.le_of_ble_eq_true rfl⟩ (fun lo1 H locs hW hS h1 hmo hE => ?_)
        rw [← h1 (10, 0, 0) v_z] at hl
        rw [← h1 (8, r1, 0) v4] at hl
        have hlo : ∀ d, zV S d = true → lo1 d = lo0 d := fun d hd => (h1 d (hm d hd)).trans (hlo d hd)
        rename zId → Nat => lo
        have hm : ∀ c, zV S c = true → zV S22 c = true := fun c h => hmo c (hm c h)
        have v_z : zV S22 (10, 0, 0) = true := hmo _ v_z
        have v4 : zV S22 (8, r1, 0) = true := hmo _ v4
        refine lv_pop hx hb dX9_coin_54 rfl ?_
        refine lv_aload_n hx hb dX9_coin_55 rfl (lv_at hl 0 rfl) ?_
        refine lv_aload_n hx hb dX9_coin_56 rfl (lv_at hl 1 rfl) ?_
        refine va_get hx hb hts ni_X9_coin_X9 hown hKK.1 (wd_1 hW v_z) 0 rfl rfl 1 (by decide) (hts (.fieldLink RX9 16 "TiltRoute" "games" "Ljava/util/ArrayList;") (List.mem_of_getElem? (i := 3) rfl)) (fun _ h => h) rfl dX9_coin_57 ?_
        have v23 : zV S22 (0, 1, 0) = true := vf_10_1 hW v_z
        obtain ⟨r24, hc25, hf⟩ := op_cl hf
        refine z_callV (As := []) (rest := [.ref (lo (8, r1, 0))]) ⟨hx, hb, hml, hown, hts⟩ (tJ_size l Γ lo S22 X v23 hc25) (cwV 0 hts gX9_coin_Jx4a65c_size_8abf5 rfl rfl rfl (by decide +kernel) ⟨Nat.le_of_ble_eq_true rfl, Nat.le_of_ble_eq_true rfl⟩) (wd_1 hW v23) rfl hKK hW hS rfl hl.1 rfl (Nat.le_of_ble_eq_true rfl) dX9_coin_60 ⟨Nat.le_of_ble_eq_true rfl, Nat.le_of_ble_eq_true rfl⟩ (fun H locs hW hS hm1 hE => ?_)
        refine lv_iconst (v := (1)) hx hb dX9_coin_63 (by decide) ?_
        refine lv_isub hx hb dX9_coin_64 ?_
        obtain ⟨S26, eS26, hf⟩ := op_st hf
        refine g_put hx hb hts ni_X9_coin_X7 tyX7 tyX7_ok nmX7 hown hKK.1 hW hS v4 rfl rfl 4 (by decide) (hts (.fieldLink RX9 152 "TiltRoute$Table" "game" "I") (List.mem_of_getElem? (i := 8) rfl)) rfl rfl rfl (show 4 < 8 by decide) rfl dX9_coin_65 eS26 (fun H locs hW hS => ?_)
        have hmo : ∀ c, zV S22 c = true → zV S26 c = true := fun c h => by rw [eS26]; exact h
        have hm : ∀ c, zV S c = true → zV S26 c = true := fun c h => hmo c (hm c h)
        have v_z : zV S26 (10, 0, 0) = true := hmo _ v_z
        have v4 : zV S26 (8, r1, 0) = true := hmo _ v4
        refine lv_aload_n hx hb dX9_coin_68 rfl (lv_at hl 0 rfl) ?_
        refine lv_dup hx hb dX9_coin_69 rfl ?_
        refine va_get hx hb hts ni_X9_coin_X7 hown hKK.1 (wd_1 hW v4) 0 rfl rfl 5 (by decide) (hts (.fieldLink RX9 155 "TiltRoute$Table" "box" "I") (List.mem_of_getElem? (i := 9) rfl)) (fun _ h => h) rfl dX9_coin_70 ?_
        refine lv_aload_n hx hb dX9_coin_73 rfl (lv_at hl 0 rfl) ?_
        refine va_get hx hb hts ni_X9_coin_X7 hown hKK.1 (wd_1 hW v4) 0 rfl rfl 1 (by decide) (hts (.fieldLink RX9 158 "TiltRoute$Table" "price" "I") (List.mem_of_getElem? (i := 10) rfl)) (fun _ h => h) rfl dX9_coin_74 ?_
        refine lv_iadd hx hb dX9_coin_77 ?_
        obtain ⟨S27, eS27, hf⟩ := op_st hf
        refine g_put hx hb hts ni_X9_coin_X7 tyX7 tyX7_ok nmX7 hown hKK.1 hW hS v4 rfl rfl 5 (by decide) (hts (.fieldLink RX9 155 "TiltRoute$Table" "box" "I") (List.mem_of_getElem? (i := 9) rfl)) rfl rfl rfl (show 5 < 8 by decide) rfl dX9_coin_78 eS27 (fun H locs hW hS => ?_)
        have hmo : ∀ c, zV S26 c = true → zV S27 c = true := fun c h => by rw [eS27]; exact h
        have hm : ∀ c, zV S c = true → zV S27 c = true := fun c h => hmo c (hm c h)
        have v_z : zV S27 (10, 0, 0) = true := hmo _ v_z
        have v4 : zV S27 (8, r1, 0) = true := hmo _ v4
        refine lv_aload_n hx hb dX9_coin_81 rfl (lv_at hl 0 rfl) ?_
        refine lv_dup hx hb dX9_coin_82 rfl ?_
        refine va_get hx hb hts ni_X9_coin_X7 hown hKK.1 (wd_1 hW v4) 0 rfl rfl 6 (by decide) (hts (.fieldLink RX9 161 "TiltRoute$Table" "brought" "I") (List.mem_of_getElem? (i := 11) rfl)) (fun _ h => h) rfl dX9_coin_83 ?_
        refine lv_aload_n hx hb dX9_coin_86 rfl (lv_at hl 0 rfl) ?_
        refine va_get hx hb hts ni_X9_coin_X7 hown hKK.1 (wd_1 hW v4) 0 rfl rfl 1 (by decide) (hts (.fieldLink RX9 158 "TiltRoute$Table" "price" "I") (List.mem_of_getElem? (i := 10) rfl)) (fun _ h => h) rfl dX9_coin_87 ?_
        refine lv_iadd hx hb dX9_coin_90 ?_
        obtain ⟨S28, eS28, hf⟩ := op_st hf
        refine g_put hx hb hts ni_X9_coin_X7 tyX7 tyX7_ok nmX7 hown hKK.1 hW hS v4 rfl rfl 6 (by decide) (hts (.fieldLink RX9 161 "TiltRoute$Table" "brought" "I") (List.mem_of_getElem? (i := 11) rfl)) rfl rfl rfl (show 6 < 8 by decide) rfl dX9_coin_91 eS28 (fun H locs hW hS => ?_)
        have hmo : ∀ c, zV S27 c = true → zV S28 c = true := fun c h => by rw [eS28]; exact h
        have hm : ∀ c, zV S c = true → zV S28 c = true := fun c h => hmo c (hm c h)
        have v_z : zV S28 (10, 0, 0) = true := hmo _ v_z
        have v4 : zV S28 (8, r1, 0) = true := hmo _ v4
        refine lv_aload_n hx hb dX9_coin_94 rfl (lv_at hl 0 rfl) ?_
        refine va_get hx hb hts ni_X9_coin_X7 hown hKK.1 (wd_1 hW v4) 0 rfl rfl 4 (by decide) (hts (.fieldLink RX9 152 "TiltRoute$Table" "game" "I") (List.mem_of_getElem? (i := 8) rfl)) (fun _ h => h) rfl dX9_coin_95 ?_
        have hf := Option.some.inj hf
        rw [← hf]
        exact n_iret hx hb hr hlocks (Nat.le_of_ble_eq_true rfl) (Nat.le_of_ble_eq_true rfl) rfl rfl hW hS hlo hm trivial dX9_coin_98
      · have hf := (op_if hf).2 k19
        have hf := Option.some.inj hf
        cases hf
theorem xs_X9_coin_22 : ∀ w ∈ (vx_atS "TiltRoute" 67 (zEx 3) zXn).filter goodWord, w ∈ wsX9_coin := by decide +kernel
theorem xs_X9_coin_22b : ∀ w ∈ (vx_atS "TiltRoute" 67 (zEx 3) zXn).filter (fun w => !goodWord w), w ∈ [Cond.castable (zEx 3) (zEx 3), .declares (Bundle.initS "java/lang/RuntimeException"), .declares (Bundle.initS "java/lang/Exception"), .declares (Bundle.initS Bundle.tN)] := by decide +kernel
theorem xs_X9_coin_22c : ∀ w ∈ Cond.classLink "TiltRoute" 63 (zEx 3) :: Cond.initialized (zEx 3) :: vx_atS "TiltRoute" 67 (zEx 3) zXn, vx_ot w = true := by decide +kernel
abbrev rnX9_coin : Room := { frames := 7, cells := 1, slots := 6, locals := 103 }
set_option maxHeartbeats 4000000 in
set_option maxRecDepth 100000 in
theorem uX9_coin (l : Launch) (hl0 : l.stackTraces = false) (Γ : zG) (lo : zId → Nat) (S : zSt) (X : va_W) {i_1 : Int32} (v_z : zV S (10, 0, 0) = true) {ee : Nat × zSt} (hf : fX9_coin S i_1 = some (Sum.inl ee)) : vx_Met l yX9_coin wsX9_coin rnX9_coin (zP1 Γ lo S X [.ref (lo (10, 0, 0)), .int i_1]) zF (zT Γ lo S X ee) 1 6 (zA Γ) := by
  refine vx_ofW (cc := cX9_coin) (maxL := 3) (ret := (some .int)) (by decide) rfl ?_
  intro p e s m args below meth c s₁ B hml ht hv
  obtain ⟨rfl, hW, hKK, hKX⟩ := hv
  have hx := B.exec
  have hb := B.bytes
  have hr := B.returns
  have hts := atoms_spec (ws := wsX9_coin) B.pre
  have hown : s.vm.findClass RX9 = some m.cls := findClass_of_methodNamed B.named
  have hlocks := B.notSynchronized
  have hS : va_S (zA Γ) s.heap s.heap [] := va_S.rf
  have hm : ∀ c, zV S c = zV S c := fun _ => rfl
  have hl := lv_entry ([.ref (lo (10, 0, 0)), .int i_1]) (n := 3) (Nat.le_of_ble_eq_true rfl)
  rw [lg_entry_eq]
  generalize (lg_sl ([.ref (lo (10, 0, 0)), .int i_1]) ++ List.replicate (3 - (lg_sl ([.ref (lo (10, 0, 0)), .int i_1])).length) Slot.unset).toArray = ls at hl ⊢
  have hl : lv_has ls 3 [(0, .ref (lo (10, 0, 0))), (1, .int i_1)] := hl
  obtain ⟨H, hH0⟩ : ∃ H, H = s.heap := ⟨_, rfl⟩
  obtain ⟨locs, hlo0⟩ : ∃ L : List Loc, L = [] := ⟨_, rfl⟩
  have hS : va_S (zA Γ) s.heap H locs := by rw [hH0, hlo0]; exact hS
  have hW : Wd Γ lo S X H := by rw [hH0]; exact hW
  rw [← hH0, ← hlo0]
  unfold fX9_coin at hf
  refine lv_aload_n hx hb dX9_coin_0 rfl (lv_at hl 0 rfl) ?_
  refine lv_iload_n hx hb dX9_coin_1 rfl (lv_at hl 1 rfl) ?_
  rcases op_cx hf with ⟨ee3, hc2, hf⟩ | ⟨r1, hc2, hf⟩
  · have hf := congrArg some hf
    have hf := Option.some.inj hf
    have hf := Sum.inl.inj hf
    rw [← hf]
    exact zx_callV (As := [.int i_1]) (rest := []) ⟨hx, hb, hml, hown, hts⟩ (uX9_demandTable l hl0 Γ lo S X v_z hc2) (cwV 1 hts gX9_coin_X9_demandTable rfl rfl rfl (by decide +kernel) ⟨Nat.le_of_ble_eq_true rfl, Nat.le_of_ble_eq_true rfl⟩) (wd_1 hW v_z) rfl hKK hKX hW hS hm rfl hl.1 rfl (Nat.le_of_ble_eq_true rfl) dX9_coin_2 ⟨Nat.le_of_ble_eq_true rfl, Nat.le_of_ble_eq_true rfl⟩ ht hlocks
  · skip
    refine z_callV (As := [.int i_1]) (rest := []) ⟨hx, hb, hml, hown, hts⟩ (tX9_demandTable l Γ lo S X v_z hc2) (cwV 1 hts gX9_coin_X9_demandTable rfl rfl rfl (by decide +kernel) ⟨Nat.le_of_ble_eq_true rfl, Nat.le_of_ble_eq_true rfl⟩) (wd_1 hW v_z) rfl hKK hW hS rfl hl.1 rfl (Nat.le_of_ble_eq_true rfl) dX9_coin_2 ⟨Nat.zero_le _, Nat.zero_le _⟩ (fun H locs hW hS hm1 hE => ?_)
    have v4 : zV S (8, r1, 0) = true := hE
    refine lv_astore_n (lv' := [(2, .ref (lo (8, r1, 0))), (0, .ref (lo (10, 0, 0))), (1, .int i_1)]) hx hb dX9_coin_5 rfl hl (by decide) rfl (fun ls hl => ?_)
    refine lv_aload_n hx hb dX9_coin_6 rfl (lv_at hl 0 rfl) ?_
    rcases op_cx hf with ⟨ee7, hc6, hf⟩ | ⟨r5, hc6, hf⟩
    · have hf := congrArg some hf
      have hf := Option.some.inj hf
      have hf := Sum.inl.inj hf
      rw [← hf]
      exact zx_callS (As := [.ref (lo (8, r1, 0))]) (rest := []) ⟨hx, hb, hml, hown, hts⟩ (uX9_demandNoGame l hl0 Γ lo S X v4 hc6) (va_cwS 1 hts gX9_coin_X9_demandNoGame rfl rfl rfl (by decide +kernel) ⟨Nat.le_of_ble_eq_true rfl, Nat.le_of_ble_eq_true rfl⟩) hKK hKX hW hS hm rfl hl.1 rfl (Nat.le_of_ble_eq_true rfl) dX9_coin_7 ⟨Nat.le_of_ble_eq_true rfl, Nat.le_of_ble_eq_true rfl⟩ ht hlocks
    · skip
      refine z_callS (As := [.ref (lo (8, r1, 0))]) (rest := []) ⟨hx, hb, hml, hown, hts⟩ (tX9_demandNoGame l Γ lo S X v4 hc6) (va_cwS 1 hts gX9_coin_X9_demandNoGame rfl rfl rfl (by decide +kernel) ⟨Nat.le_of_ble_eq_true rfl, Nat.le_of_ble_eq_true rfl⟩) hKK hW hS rfl hl.1 rfl (Nat.le_of_ble_eq_true rfl) dX9_coin_7 ⟨Nat.zero_le _, Nat.zero_le _⟩ (fun H locs hW hS hm1 hE => ?_)
      refine lv_aload_n hx hb dX9_coin_10 rfl (lv_at hl 1 rfl) ?_
      refine va_get hx hb hts ni_X9_coin_X9 hown hKK.1 (wd_1 hW v_z) 0 rfl rfl 1 (by decide) (hts (.fieldLink RX9 16 "TiltRoute" "games" "Ljava/util/ArrayList;") (List.mem_of_getElem? (i := 3) rfl)) (fun _ h => h) rfl dX9_coin_11 ?_
      have v8 : zV S (0, 1, 0) = true := vf_10_1 hW v_z
      obtain ⟨r9, hc10, hf⟩ := op_cl hf
      refine z_callV (As := []) (rest := []) ⟨hx, hb, hml, hown, hts⟩ (tJ_size l Γ lo S X v8 hc10) (cwV 0 hts gX9_coin_Jx4a65c_size_8abf5 rfl rfl rfl (by decide +kernel) ⟨Nat.le_of_ble_eq_true rfl, Nat.le_of_ble_eq_true rfl⟩) (wd_1 hW v8) rfl hKK hW hS rfl hl.1 rfl (Nat.le_of_ble_eq_true rfl) dX9_coin_14 ⟨Nat.zero_le _, Nat.zero_le _⟩ (fun H locs hW hS hm1 hE => ?_)
      refine lv_bipush (v := (40)) hx hb dX9_coin_17 (by decide) ?_
      refine lv_icmp_lt (tgt := 32) hx hb dX9_coin_19 (by decide) (fun k19 => ?_) (fun k19 => ?_)
      · have hf := (op_if hf).1 k19
        refine lv_aload_n hx hb dX9_coin_32 rfl (lv_at hl 1 rfl) ?_
        refine va_get hx hb hts ni_X9_coin_X9 hown hKK.1 (wd_1 hW v_z) 0 rfl rfl 1 (by decide) (hts (.fieldLink RX9 16 "TiltRoute" "games" "Ljava/util/ArrayList;") (List.mem_of_getElem? (i := 3) rfl)) (fun _ h => h) rfl dX9_coin_33 ?_
        have v11 : zV S (0, 1, 0) = true := vf_10_1 hW v_z
        exact (op_finT hf).elim
      · have hf := (op_if hf).2 k19
        have hf := Option.some.inj hf
        have hf := Sum.inl.inj hf
        rw [← hf]
        exact zx_thr (ee := (3, S)) hx hb hl0 hts hown (hts (.classLink RX9 63 "java/lang/IllegalStateException") (List.mem_of_getElem? (i := 1) rfl)) (hts (.initialized "java/lang/IllegalStateException") (List.mem_of_getElem? (i := 2) rfl)) (List.mem_of_getElem? (i := 4) rfl) xs_X9_coin_22 xs_X9_coin_22b (show Bundle.fit (zEx 3) = true by decide) xs_X9_coin_22c hKK hKX hS (hl.1.trans hml.symm) dX9_coin_22 dX9_coin_25 dX9_coin_26 dX9_coin_28 dX9_coin_31 ht (Nat.le_of_ble_eq_true rfl) (Nat.le_of_ble_eq_true rfl) (Nat.le_of_ble_eq_true rfl) (Nat.le_of_ble_eq_true rfl) hlocks hW hm

theorem ni_X9_shoot_X0 : ∀ w ∈ wsX00, w ∈ wsX9_shoot := by decide +kernel
theorem ni_X9_shoot_X2 : ∀ w ∈ wsX20, w ∈ wsX9_shoot := by decide +kernel
theorem ni_X9_shoot_X5 : ∀ w ∈ wsX50, w ∈ wsX9_shoot := by decide +kernel
theorem ni_X9_shoot_X7 : ∀ w ∈ wsX70, w ∈ wsX9_shoot := by decide +kernel
theorem ni_X9_shoot_X9 : ∀ w ∈ wsX90, w ∈ wsX9_shoot := by decide +kernel
def fX9_shoot (S : zSt) (i_1 : Int32) (i_2 : Int32) (i_3 : Int32) (i_4 : Int32) : Option ((Nat × zSt) ⊕ (Int32 × zSt)) :=
cx (fX9_demandTable S i_1) fun r1 =>
cx (fX9_demandRange S i_2 (0 : Int32) (159 : Int32)) fun r5 =>
cx (fX9_demandRange S i_3 (-30 : Int32) (30 : Int32)) fun r8 =>
cx (fX9_demandRange S i_4 (-30 : Int32) (30 : Int32)) fun r11 =>
st (fun (u_ : Unit) => (some (.inl (3, S)) : Option ((Nat × zSt) ⊕ (Int32 × zSt)))) fun j14 =>
if (zI S (8, r1, 0) 4) < 0 then
j14 ()
else
cl (fJ_size S 1) fun r16 =>
if (zI S (8, r1, 0) 4) < r16 then
cl (fJ_get S 1 (zI S (8, r1, 0) 4)) fun r19 =>
st (zI S (6, 0, r19) 3) fun x23 =>
fin (
cl (fX0_init S i_2 i_3 i_4) fun S26 =>
cl (fX9_runBall S26 r1 r19) fun S30 =>
st (pI S30 (3, r19, 0) 5 ((zI S30 (3, r19, 0) 5) + (1 : Int32))) fun S31 =>
cl (fX2_isOver S31 r19) fun r32 =>
st (fun (S35 : zSt) => (some ((((zI S35 (6, 0, r19) 3) - x23), S35)) : Option (Int32 × zSt))) fun j36 =>
if r32 = 0 then
j36 S31
else
st (pI S31 (8, r1, 0) 4 (-1 : Int32)) fun S38 =>
j36 S38)
else
j14 ()
abbrev rmX9_shoot : Room := { frames := 6, cells := 1, slots := 4, locals := 142 }
set_option maxHeartbeats 4000000 in
set_option maxRecDepth 100000 in
theorem tX9_shoot (l : Launch) (Γ : zG) (lo0 : zId → Nat) (S : zSt) (X : va_W) {i_1 : Int32} {i_2 : Int32} {i_3 : Int32} {i_4 : Int32} (v_z : zV S (10, 0, 0) = true) {y : (Int32 × zSt)} (hf : fX9_shoot S i_1 i_2 i_3 i_4 = some (Sum.inr y)) : Met l yX9_shoot wsX9_shoot rmX9_shoot (zP2 Γ lo0 S X [.ref (lo0 (10, 0, 0)), .int i_1, .int i_2, .int i_3, .int i_4]) (zQn Γ lo0 S y.2 X (fun _ => some (.int y.1)) (fun _ => True)) 1 4 (zA Γ) := by
  refine Met.ofW (cc := cX9_shoot) (maxL := 8) (ret := (some .int)) (by decide) rfl ?_
  intro p e s m args below meth c s₁ B hml hv
  obtain ⟨rfl, hW, hKK, hKY⟩ := hv
  have hx := B.exec
  have hb := B.bytes
  have hr := B.returns
  have hts := atoms_spec (ws := wsX9_shoot) B.pre
  have hown : s.vm.findClass RX9 = some m.cls := findClass_of_methodNamed B.named
  have hlocks := B.notSynchronized
  have hS : va_S (zA Γ) s.heap s.heap [] := va_S.rf
  have hB0 : Γ.2.2.1 ≤ s.heap.size := hW.1
  have hm : ∀ c, zV S c = true → zV S c = true := fun _ h => h
  have hl := lv_entry ([.ref (lo0 (10, 0, 0)), .int i_1, .int i_2, .int i_3, .int i_4]) (n := 8) (Nat.le_of_ble_eq_true rfl)
  rw [lg_entry_eq]
  generalize (lg_sl ([.ref (lo0 (10, 0, 0)), .int i_1, .int i_2, .int i_3, .int i_4]) ++ List.replicate (8 - (lg_sl ([.ref (lo0 (10, 0, 0)), .int i_1, .int i_2, .int i_3, .int i_4])).length) Slot.unset).toArray = ls at hl ⊢
  have hl : lv_has ls 8 [(0, .ref (lo0 (10, 0, 0))), (1, .int i_1), (2, .int i_2), (3, .int i_3), (4, .int i_4)] := hl
  generalize ([.ref (lo0 (10, 0, 0)), .int i_1, .int i_2, .int i_3, .int i_4] : List Value).toArray = args at hts ⊢
  obtain ⟨H, hH0⟩ : ∃ H, H = s.heap := ⟨_, rfl⟩
  obtain ⟨locs, hlo0⟩ : ∃ L : List Loc, L = [] := ⟨_, rfl⟩
  have hS : va_S (zA Γ) s.heap H locs := by rw [hH0, hlo0]; exact hS
  have hW : Wd Γ lo0 S X H := by rw [hH0]; exact hW
  rw [← hH0, ← hlo0]
  obtain ⟨lo, hle⟩ : ∃ z : zId → Nat, z = lo0 := ⟨_, rfl⟩
  have hlo : ∀ d, zV S d = true → lo d = lo0 d := fun d _ => by rw [hle]
  have hW : Wd Γ lo S X H := by rw [hle]; exact hW
  have hl : lv_has ls 8 [(0, .ref (lo (10, 0, 0))), (1, .int i_1), (2, .int i_2), (3, .int i_3), (4, .int i_4)] := by first | (rw [hle]; exact hl) | exact hl
  unfold fX9_shoot at hf
  refine lv_aload_n hx hb dX9_shoot_0 rfl (lv_at hl 0 rfl) ?_
  refine lv_iload_n hx hb dX9_shoot_1 rfl (lv_at hl 1 rfl) ?_
  rcases op_cx hf with ⟨ee3, hc2, hf⟩ | ⟨r1, hc2, hf⟩
  · have hf := congrArg some hf
    have hf := Option.some.inj hf
    cases hf
  · skip
    refine z_callV (As := [.int i_1]) (rest := []) ⟨hx, hb, hml, hown, hts⟩ (tX9_demandTable l Γ lo S X v_z hc2) (cwV 1 hts gX9_shoot_X9_demandTable rfl rfl rfl (by decide +kernel) ⟨Nat.le_of_ble_eq_true rfl, Nat.le_of_ble_eq_true rfl⟩) (wd_1 hW v_z) rfl hKK hW hS rfl hl.1 rfl (Nat.le_of_ble_eq_true rfl) dX9_shoot_2 ⟨Nat.le_of_ble_eq_true rfl, Nat.le_of_ble_eq_true rfl⟩ (fun H locs hW hS hm1 hE => ?_)
    have v4 : zV S (8, r1, 0) = true := hE
    refine lv_astore (lv' := [(5, .ref (lo (8, r1, 0))), (0, .ref (lo (10, 0, 0))), (1, .int i_1), (2, .int i_2), (3, .int i_3), (4, .int i_4)]) hx hb dX9_shoot_5 hl (by decide) rfl (fun ls hl => ?_)
    refine lv_iload_n hx hb dX9_shoot_7 rfl (lv_at hl 3 rfl) ?_
    refine lv_iconst (v := (0)) hx hb dX9_shoot_8 (by decide) ?_
    refine lv_sipush (v := (159)) hx hb dX9_shoot_9 (by decide) ?_
    rcases op_cx hf with ⟨ee7, hc6, hf⟩ | ⟨r5, hc6, hf⟩
    · have hf := congrArg some hf
      have hf := Option.some.inj hf
      cases hf
    · skip
      refine z_callS (As := [.int i_2, .int (0 : Int32), .int (159 : Int32)]) (rest := []) ⟨hx, hb, hml, hown, hts⟩ (tX9_demandRange l Γ lo S X  hc6) (va_cwS 3 hts gX9_shoot_X9_demandRange rfl rfl rfl (by decide +kernel) ⟨Nat.le_of_ble_eq_true rfl, Nat.le_of_ble_eq_true rfl⟩) hKK hW hS rfl hl.1 rfl (Nat.le_of_ble_eq_true rfl) dX9_shoot_12 ⟨Nat.le_of_ble_eq_true rfl, Nat.le_of_ble_eq_true rfl⟩ (fun H locs hW hS hm1 hE => ?_)
      refine lv_iload_n hx hb dX9_shoot_15 rfl (lv_at hl 4 rfl) ?_
      refine lv_bipush (v := (-30)) hx hb dX9_shoot_16 (by decide) ?_
      refine lv_bipush (v := (30)) hx hb dX9_shoot_18 (by decide) ?_
      rcases op_cx hf with ⟨ee10, hc9, hf⟩ | ⟨r8, hc9, hf⟩
      · have hf := congrArg some hf
        have hf := Option.some.inj hf
        cases hf
      · skip
        refine z_callS (As := [.int i_3, .int (-30 : Int32), .int (30 : Int32)]) (rest := []) ⟨hx, hb, hml, hown, hts⟩ (tX9_demandRange l Γ lo S X  hc9) (va_cwS 3 hts gX9_shoot_X9_demandRange rfl rfl rfl (by decide +kernel) ⟨Nat.le_of_ble_eq_true rfl, Nat.le_of_ble_eq_true rfl⟩) hKK hW hS rfl hl.1 rfl (Nat.le_of_ble_eq_true rfl) dX9_shoot_20 ⟨Nat.le_of_ble_eq_true rfl, Nat.le_of_ble_eq_true rfl⟩ (fun H locs hW hS hm1 hE => ?_)
        refine lv_iload hx hb dX9_shoot_23 (lv_at hl 5 rfl) ?_
        refine lv_bipush (v := (-30)) hx hb dX9_shoot_25 (by decide) ?_
        refine lv_bipush (v := (30)) hx hb dX9_shoot_27 (by decide) ?_
        rcases op_cx hf with ⟨ee13, hc12, hf⟩ | ⟨r11, hc12, hf⟩
        · have hf := congrArg some hf
          have hf := Option.some.inj hf
          cases hf
        · skip
          refine z_callS (As := [.int i_4, .int (-30 : Int32), .int (30 : Int32)]) (rest := []) ⟨hx, hb, hml, hown, hts⟩ (tX9_demandRange l Γ lo S X  hc12) (va_cwS 3 hts gX9_shoot_X9_demandRange rfl rfl rfl (by decide +kernel) ⟨Nat.le_of_ble_eq_true rfl, Nat.le_of_ble_eq_true rfl⟩) hKK hW hS rfl hl.1 rfl (Nat.le_of_ble_eq_true rfl) dX9_shoot_29 ⟨Nat.le_of_ble_eq_true rfl, Nat.le_of_ble_eq_true rfl⟩ (fun H locs hW hS hm1 hE => ?_)
          refine lv_aload hx hb dX9_shoot_32 (lv_at hl 0 rfl) ?_
          refine va_get hx hb hts ni_X9_shoot_X7 hown hKK.1 (wd_1 hW v4) 0 rfl rfl 4 (by decide) (hts (.fieldLink RX9 152 "TiltRoute$Table" "game" "I") (List.mem_of_getElem? (i := 3) rfl)) (fun _ h => h) rfl dX9_shoot_34 ?_
          obtain ⟨j14, ej14, hf⟩ := op_st hf
          have hj14 : ∀ (u_ : Unit) (H : Heap) (locs : List Loc) (ls : Array Slot) (lo : zId → Nat), lv_has ls 8 [] → Wd Γ lo S (X) H → va_S (zA Γ) s.heap H locs → ((∀ d, zV S d = true → lo d = lo0 d) ∧ (∀ c, zV S c = true → zV S c = true)) → j14 () = some (Sum.inr y) → W p l e (headSpec wsX9_shoot rmX9_shoot).room s m args below meth c H locs 0 0 (MQ below (zQn Γ lo0 S y.2 X (fun _ => some (.int y.1)) (fun _ => True)) args s 1 4 (zA Γ)) (F0 m 55 ls []) := by
            intro u_ H locs ls lo  hl hW hS hm hf
            obtain ⟨hlo, hm⟩ := hm
            rw [ej14] at hf
            have hf := Option.some.inj hf
            cases hf
          refine lv_if_lt (tgt := 55) hx hb dX9_shoot_37 (by decide) (fun k37 => ?_) (fun k37 => ?_)
          · have hf := (op_if hf).1 k37
            exact hj14 () H locs ls lo  (lv_sub hl [] rfl) hW hS ⟨hlo, hm⟩ hf
          · have hf := (op_if hf).2 k37
            refine lv_aload hx hb dX9_shoot_40 (lv_at hl 0 rfl) ?_
            refine va_get hx hb hts ni_X9_shoot_X7 hown hKK.1 (wd_1 hW v4) 0 rfl rfl 4 (by decide) (hts (.fieldLink RX9 152 "TiltRoute$Table" "game" "I") (List.mem_of_getElem? (i := 3) rfl)) (fun _ h => h) rfl dX9_shoot_42 ?_
            refine lv_aload_n hx hb dX9_shoot_45 rfl (lv_at hl 1 rfl) ?_
            refine va_get hx hb hts ni_X9_shoot_X9 hown hKK.1 (wd_1 hW v_z) 0 rfl rfl 1 (by decide) (hts (.fieldLink RX9 16 "TiltRoute" "games" "Ljava/util/ArrayList;") (List.mem_of_getElem? (i := 4) rfl)) (fun _ h => h) rfl dX9_shoot_46 ?_
            have v15 : zV S (0, 1, 0) = true := vf_10_1 hW v_z
            obtain ⟨r16, hc17, hf⟩ := op_cl hf
            refine z_callV (As := []) (rest := [.int (zI S (8, r1, 0) 4)]) ⟨hx, hb, hml, hown, hts⟩ (tJ_size l Γ lo S X v15 hc17) (cwV 0 hts gX9_shoot_Jx4a65c_size_8abf5 rfl rfl rfl (by decide +kernel) ⟨Nat.le_of_ble_eq_true rfl, Nat.le_of_ble_eq_true rfl⟩) (wd_1 hW v15) rfl hKK hW hS rfl hl.1 rfl (Nat.le_of_ble_eq_true rfl) dX9_shoot_49 ⟨Nat.le_of_ble_eq_true rfl, Nat.le_of_ble_eq_true rfl⟩ (fun H locs hW hS hm1 hE => ?_)
            refine lv_icmp_lt (tgt := 65) hx hb dX9_shoot_52 (by decide) (fun k52 => ?_) (fun k52 => ?_)
            · have hf := (op_if hf).1 k52
              refine lv_aload_n hx hb dX9_shoot_65 rfl (lv_at hl 1 rfl) ?_
              refine va_get hx hb hts ni_X9_shoot_X9 hown hKK.1 (wd_1 hW v_z) 0 rfl rfl 1 (by decide) (hts (.fieldLink RX9 16 "TiltRoute" "games" "Ljava/util/ArrayList;") (List.mem_of_getElem? (i := 4) rfl)) (fun _ h => h) rfl dX9_shoot_66 ?_
              have v18 : zV S (0, 1, 0) = true := vf_10_1 hW v_z
              refine lv_aload hx hb dX9_shoot_69 (lv_at hl 0 rfl) ?_
              refine va_get hx hb hts ni_X9_shoot_X7 hown hKK.1 (wd_1 hW v4) 0 rfl rfl 4 (by decide) (hts (.fieldLink RX9 152 "TiltRoute$Table" "game" "I") (List.mem_of_getElem? (i := 3) rfl)) (fun _ h => h) rfl dX9_shoot_71 ?_
              obtain ⟨r19, hc20, hf⟩ := op_cl hf
              refine z_callV (As := [.int (zI S (8, r1, 0) 4)]) (rest := []) ⟨hx, hb, hml, hown, hts⟩ (tJ_get l Γ lo S X v18 hc20) (cwV 1 hts gX9_shoot_Jx4a65c_get_915e3 rfl rfl rfl (by decide +kernel) ⟨Nat.le_of_ble_eq_true rfl, Nat.le_of_ble_eq_true rfl⟩) (wd_1 hW v18) rfl hKK hW hS rfl hl.1 rfl (Nat.le_of_ble_eq_true rfl) dX9_shoot_74 ⟨Nat.le_of_ble_eq_true rfl, Nat.le_of_ble_eq_true rfl⟩ (fun H locs hW hS hm1 hE => ?_)
              have v21 : zV S (3, r19, 0) = true := hE
              refine va_castE hx hb hown (hts (.classLink RX9 143 "TiltRoute$Game") (List.mem_of_getElem? (i := 5) rfl)) (va_recv (q0 := 0) hKK.1 (wd_1 hW v21) (ci := 3) rfl rfl) dX9_shoot_77 ?_
              refine lv_astore (lv' := [(6, .ref (lo (3, r19, 0))), (5, .ref (lo (8, r1, 0))), (0, .ref (lo (10, 0, 0))), (1, .int i_1), (2, .int i_2), (3, .int i_3), (4, .int i_4)]) hx hb dX9_shoot_80 hl (by decide) rfl (fun ls hl => ?_)
              refine lv_aload hx hb dX9_shoot_82 (lv_at hl 0 rfl) ?_
              refine va_get hx hb hts ni_X9_shoot_X2 hown hKK.1 (wd_1 hW v21) 0 rfl rfl 2 (by decide) (hts (.fieldLink RX9 170 "TiltRoute$Game" "play" "LTiltRoute$Play;") (List.mem_of_getElem? (i := 6) rfl)) (fun _ h => h) rfl dX9_shoot_84 ?_
              have v22 : zV S (6, 0, r19) = true := vf_3_2 hW v21
              refine va_get hx hb hts ni_X9_shoot_X5 hown hKK.1 (wd_1 hW v22) 0 rfl rfl 3 (by decide) (hts (.fieldLink RX9 173 "TiltRoute$Play" "score" "I") (List.mem_of_getElem? (i := 7) rfl)) (fun _ h => h) rfl dX9_shoot_87 ?_
              obtain ⟨x23, ex23, hf⟩ := op_st hf
              refine z_ist (lv' := [(7, .int x23), (6, .ref (lo (3, r19, 0))), (5, .ref (lo (8, r1, 0))), (0, .ref (lo (10, 0, 0))), (1, .int i_1), (2, .int i_2), (3, .int i_3), (4, .int i_4)]) ex23 hx hb dX9_shoot_90 hl (by decide) rfl (fun ls hl => ?_)
              refine lv_aload hx hb dX9_shoot_92 (lv_at hl 2 rfl) ?_
              refine lv_aload hx hb dX9_shoot_94 (lv_at hl 1 rfl) ?_
              have hf := op_fin hf
              refine n_new hx hb hts ni_X9_shoot_X0 tyX0 tyX0_ok hown (hts (.classLink RX9 176 RX0) (List.mem_of_getElem? (i := 8) rfl)) (hts (.instantiable RX0 4) (List.mem_of_getElem? (i := 9) rfl)) (hts (.initialized RX0) (List.mem_of_getElem? (i := 10) rfl)) hKK.1 hW hS hB0 (ci := 1) rfl (fs := [.int 0, .int 0, .int 0, .int 0]) df_X0 (Nat.le_of_ble_eq_true rfl) (Nat.le_of_ble_eq_true rfl) dX9_shoot_96 (fun q24 H hW hS => ?_)
              refine lv_dup hx hb dX9_shoot_99 rfl ?_
              refine lv_iload_n hx hb dX9_shoot_100 rfl (lv_at hl 5 rfl) ?_
              refine lv_iload_n hx hb dX9_shoot_101 rfl (lv_at hl 6 rfl) ?_
              refine lv_iload hx hb dX9_shoot_102 (lv_at hl 7 rfl) ?_
              obtain ⟨S26, hc25, hf⟩ := op_cl hf
              refine n_callI (As := [.int i_2, .int i_3, .int i_4]) (rest := [.ref q24, .ref (lo (3, r19, 0)), .ref (lo (8, r1, 0))]) ⟨hx, hb, hml, hown, hts⟩ (tX0_init l Γ lo S (X) q24  hc25) (cwI 3 hts gX9_shoot_X0_init rfl rfl rfl (hts (.initialized RX0) (List.mem_of_getElem? (i := 10) rfl)) (hts (.methodLink RX9 178 yX0_init) (List.mem_of_getElem? (i := 49) rfl)) (hts (.instanceMethod yX0_init) (List.mem_of_getElem? (i := 50) rfl)) rfl (by decide +kernel) ⟨Nat.le_of_ble_eq_true rfl, Nat.le_of_ble_eq_true rfl⟩) hKK hKY hW hS rfl hl.1 rfl (Nat.le_of_ble_eq_true rfl) dX9_shoot_104 ⟨Nat.le_of_ble_eq_true rfl, Nat.le_of_ble_eq_true rfl⟩ (fun lo1 H locs hW hS h1 hmo hE => ?_)
              obtain ⟨hq, v27⟩ := hE
              rw [← hq]
              rw [← h1 (10, 0, 0) v_z] at hl
              rw [← h1 (8, r1, 0) v4] at hl
              rw [← h1 (3, r19, 0) v21] at hl
              rw [← h1 (8, r1, 0) v4]
              rw [← h1 (3, r19, 0) v21]
              have hlo : ∀ d, zV S d = true → lo1 d = lo0 d := fun d hd => (h1 d (hm d hd)).trans (hlo d hd)
              rename zId → Nat => lo
              have hm : ∀ c, zV S c = true → zV S26 c = true := fun c h => hmo c (hm c h)
              have v_z : zV S26 (10, 0, 0) = true := hmo _ v_z
              have v4 : zV S26 (8, r1, 0) = true := hmo _ v4
              have v21 : zV S26 (3, r19, 0) = true := hmo _ v21
              obtain ⟨S30, hc29, hf⟩ := op_cl hf
              refine z_callS (As := [.ref (lo (8, r1, 0)), .ref (lo (3, r19, 0)), .ref (lo (1, 0, 0))]) (rest := []) ⟨hx, hb, hml, hown, hts⟩ (tX9_runBall l Γ lo S26 X v4 v21 v27 hc29) (va_cwS 3 hts gX9_shoot_X9_runBall rfl rfl rfl (by decide +kernel) ⟨Nat.le_of_ble_eq_true rfl, Nat.le_of_ble_eq_true rfl⟩) hKK hW hS rfl hl.1 rfl (Nat.le_of_ble_eq_true rfl) dX9_shoot_107 ⟨Nat.le_of_ble_eq_true rfl, Nat.le_of_ble_eq_true rfl⟩ (fun H locs hW hS hm1 hE => ?_)
              have hmo : ∀ c, zV S26 c = true → zV S30 c = true := fun c h => (hm1 c).trans h
              have hm : ∀ c, zV S c = true → zV S30 c = true := fun c h => hmo c (hm c h)
              have v_z : zV S30 (10, 0, 0) = true := hmo _ v_z
              have v4 : zV S30 (8, r1, 0) = true := hmo _ v4
              have v21 : zV S30 (3, r19, 0) = true := hmo _ v21
              refine lv_aload hx hb dX9_shoot_110 (lv_at hl 1 rfl) ?_
              refine lv_dup hx hb dX9_shoot_112 rfl ?_
              refine va_get hx hb hts ni_X9_shoot_X2 hown hKK.1 (wd_1 hW v21) 0 rfl rfl 5 (by decide) (hts (.fieldLink RX9 184 "TiltRoute$Game" "ballsShot" "I") (List.mem_of_getElem? (i := 11) rfl)) (fun _ h => h) rfl dX9_shoot_113 ?_
              refine lv_iconst (v := (1)) hx hb dX9_shoot_116 (by decide) ?_
              refine lv_iadd hx hb dX9_shoot_117 ?_
              obtain ⟨S31, eS31, hf⟩ := op_st hf
              refine g_put hx hb hts ni_X9_shoot_X2 tyX2 tyX2_ok nmX2 hown hKK.1 hW hS v21 rfl rfl 5 (by decide) (hts (.fieldLink RX9 184 "TiltRoute$Game" "ballsShot" "I") (List.mem_of_getElem? (i := 11) rfl)) rfl rfl rfl (show 5 < 6 by decide) rfl dX9_shoot_118 eS31 (fun H locs hW hS => ?_)
              have hmo : ∀ c, zV S30 c = true → zV S31 c = true := fun c h => by rw [eS31]; exact h
              have hm : ∀ c, zV S c = true → zV S31 c = true := fun c h => hmo c (hm c h)
              have v_z : zV S31 (10, 0, 0) = true := hmo _ v_z
              have v4 : zV S31 (8, r1, 0) = true := hmo _ v4
              have v21 : zV S31 (3, r19, 0) = true := hmo _ v21
              refine lv_aload hx hb dX9_shoot_121 (lv_at hl 1 rfl) ?_
              obtain ⟨r32, hc33, hf⟩ := op_cl hf
              refine z_callV (As := []) (rest := []) ⟨hx, hb, hml, hown, hts⟩ (tX2_isOver l Γ lo S31 X v21 hc33) (cwV 0 hts gX9_shoot_X2_isOver rfl rfl rfl (by decide +kernel) ⟨Nat.le_of_ble_eq_true rfl, Nat.le_of_ble_eq_true rfl⟩) (wd_1 hW v21) rfl hKK hW hS rfl hl.1 rfl (Nat.le_of_ble_eq_true rfl) dX9_shoot_123 ⟨Nat.le_of_ble_eq_true rfl, Nat.le_of_ble_eq_true rfl⟩ (fun H locs hW hS hm1 hE => ?_)
              have b34 := hE
              obtain ⟨j36, ej36, hf⟩ := op_st hf
              have hj36 : ∀ (S35 : zSt) (H : Heap) (locs : List Loc) (ls : Array Slot) (lo : zId → Nat), lv_has ls 8 [(7, .int x23), (6, .ref (lo (3, r19, 0)))] → Wd Γ lo S35 (X) H → va_S (zA Γ) s.heap H locs → ((∀ d, zV S d = true → lo d = lo0 d) ∧ (∀ c, zV S c = true → zV S35 c = true) ∧ zV S35 (3, r19, 0) = true) → j36 S35 = some y → W p l e (headSpec wsX9_shoot rmX9_shoot).room s m args below meth c H locs 1 4 (MQ below (zQn Γ lo0 S y.2 X (fun _ => some (.int y.1)) (fun _ => True)) args s 1 4 (zA Γ)) (F0 m 135 ls []) := by
                intro S35 H locs ls lo  hl hW hS hm hf
                obtain ⟨hlo, hm, v21⟩ := hm
                rw [ej36] at hf
                refine lv_aload hx hb dX9_shoot_135 (lv_at hl 1 rfl) ?_
                refine va_get hx hb hts ni_X9_shoot_X2 hown hKK.1 (wd_1 hW v21) 0 rfl rfl 2 (by decide) (hts (.fieldLink RX9 170 "TiltRoute$Game" "play" "LTiltRoute$Play;") (List.mem_of_getElem? (i := 6) rfl)) (fun _ h => h) rfl dX9_shoot_137 ?_
                have v37 : zV S35 (6, 0, r19) = true := vf_3_2 hW v21
                refine va_get hx hb hts ni_X9_shoot_X5 hown hKK.1 (wd_1 hW v37) 0 rfl rfl 3 (by decide) (hts (.fieldLink RX9 173 "TiltRoute$Play" "score" "I") (List.mem_of_getElem? (i := 7) rfl)) (fun _ h => h) rfl dX9_shoot_140 ?_
                refine lv_iload hx hb dX9_shoot_143 (lv_at hl 0 rfl) ?_
                refine lv_isub hx hb dX9_shoot_145 ?_
                have hf := Option.some.inj hf
                rw [← hf]
                exact n_iret hx hb hr hlocks (Nat.le_of_ble_eq_true rfl) (Nat.le_of_ble_eq_true rfl) rfl rfl hW hS hlo hm trivial dX9_shoot_146
              refine lv_if_eq (tgt := 135) hx hb dX9_shoot_126 (by decide) (fun k126 => ?_) (fun k126 => ?_)
              · have hf := (op_if hf).1 k126
                exact hj36 S31 H locs ls lo  (lv_sub hl [0, 1] rfl) hW hS ⟨hlo, hm, v21⟩ hf
              · have hf := (op_if hf).2 k126
                refine lv_aload hx hb dX9_shoot_129 (lv_at hl 2 rfl) ?_
                refine lv_iconst (v := (-1)) hx hb dX9_shoot_131 (by decide) ?_
                obtain ⟨S38, eS38, hf⟩ := op_st hf
                refine g_put hx hb hts ni_X9_shoot_X7 tyX7 tyX7_ok nmX7 hown hKK.1 hW hS v4 rfl rfl 4 (by decide) (hts (.fieldLink RX9 152 "TiltRoute$Table" "game" "I") (List.mem_of_getElem? (i := 3) rfl)) rfl rfl rfl (show 4 < 8 by decide) rfl dX9_shoot_132 eS38 (fun H locs hW hS => ?_)
                have hmo : ∀ c, zV S31 c = true → zV S38 c = true := fun c h => by rw [eS38]; exact h
                have hm : ∀ c, zV S c = true → zV S38 c = true := fun c h => hmo c (hm c h)
                have v_z : zV S38 (10, 0, 0) = true := hmo _ v_z
                have v4 : zV S38 (8, r1, 0) = true := hmo _ v4
                have v21 : zV S38 (3, r19, 0) = true := hmo _ v21
                exact hj36 S38 H locs ls lo  (lv_sub hl [0, 1] rfl) hW hS ⟨hlo, hm, v21⟩ hf
            · have hf := (op_if hf).2 k52
              exact hj14 () H locs ls lo  (lv_sub hl [] rfl) hW hS ⟨hlo, hm⟩ hf
theorem xs_X9_shoot_55 : ∀ w ∈ (vx_atS "TiltRoute" 67 (zEx 3) zXn).filter goodWord, w ∈ wsX9_shoot := by decide +kernel
theorem xs_X9_shoot_55b : ∀ w ∈ (vx_atS "TiltRoute" 67 (zEx 3) zXn).filter (fun w => !goodWord w), w ∈ [Cond.castable (zEx 3) (zEx 3), .declares (Bundle.initS "java/lang/RuntimeException"), .declares (Bundle.initS "java/lang/Exception"), .declares (Bundle.initS Bundle.tN)] := by decide +kernel
theorem xs_X9_shoot_55c : ∀ w ∈ Cond.classLink "TiltRoute" 63 (zEx 3) :: Cond.initialized (zEx 3) :: vx_atS "TiltRoute" 67 (zEx 3) zXn, vx_ot w = true := by decide +kernel
abbrev rnX9_shoot : Room := { frames := 7, cells := 1, slots := 6, locals := 104 }
set_option maxHeartbeats 4000000 in
set_option maxRecDepth 100000 in
theorem uX9_shoot (l : Launch) (hl0 : l.stackTraces = false) (Γ : zG) (lo : zId → Nat) (S : zSt) (X : va_W) {i_1 : Int32} {i_2 : Int32} {i_3 : Int32} {i_4 : Int32} (v_z : zV S (10, 0, 0) = true) {ee : Nat × zSt} (hf : fX9_shoot S i_1 i_2 i_3 i_4 = some (Sum.inl ee)) : vx_Met l yX9_shoot wsX9_shoot rnX9_shoot (zP1 Γ lo S X [.ref (lo (10, 0, 0)), .int i_1, .int i_2, .int i_3, .int i_4]) zF (zT Γ lo S X ee) 1 6 (zA Γ) := by
  refine vx_ofW (cc := cX9_shoot) (maxL := 8) (ret := (some .int)) (by decide) rfl ?_
  intro p e s m args below meth c s₁ B hml ht hv
  obtain ⟨rfl, hW, hKK, hKX⟩ := hv
  have hx := B.exec
  have hb := B.bytes
  have hr := B.returns
  have hts := atoms_spec (ws := wsX9_shoot) B.pre
  have hown : s.vm.findClass RX9 = some m.cls := findClass_of_methodNamed B.named
  have hlocks := B.notSynchronized
  have hS : va_S (zA Γ) s.heap s.heap [] := va_S.rf
  have hm : ∀ c, zV S c = zV S c := fun _ => rfl
  have hl := lv_entry ([.ref (lo (10, 0, 0)), .int i_1, .int i_2, .int i_3, .int i_4]) (n := 8) (Nat.le_of_ble_eq_true rfl)
  rw [lg_entry_eq]
  generalize (lg_sl ([.ref (lo (10, 0, 0)), .int i_1, .int i_2, .int i_3, .int i_4]) ++ List.replicate (8 - (lg_sl ([.ref (lo (10, 0, 0)), .int i_1, .int i_2, .int i_3, .int i_4])).length) Slot.unset).toArray = ls at hl ⊢
  have hl : lv_has ls 8 [(0, .ref (lo (10, 0, 0))), (1, .int i_1), (2, .int i_2), (3, .int i_3), (4, .int i_4)] := hl
  obtain ⟨H, hH0⟩ : ∃ H, H = s.heap := ⟨_, rfl⟩
  obtain ⟨locs, hlo0⟩ : ∃ L : List Loc, L = [] := ⟨_, rfl⟩
  have hS : va_S (zA Γ) s.heap H locs := by rw [hH0, hlo0]; exact hS
  have hW : Wd Γ lo S X H := by rw [hH0]; exact hW
  rw [← hH0, ← hlo0]
  unfold fX9_shoot at hf
  refine lv_aload_n hx hb dX9_shoot_0 rfl (lv_at hl 0 rfl) ?_
  refine lv_iload_n hx hb dX9_shoot_1 rfl (lv_at hl 1 rfl) ?_
  rcases op_cx hf with ⟨ee3, hc2, hf⟩ | ⟨r1, hc2, hf⟩
  · have hf := congrArg some hf
    have hf := Option.some.inj hf
    have hf := Sum.inl.inj hf
    rw [← hf]
    exact zx_callV (As := [.int i_1]) (rest := []) ⟨hx, hb, hml, hown, hts⟩ (uX9_demandTable l hl0 Γ lo S X v_z hc2) (cwV 1 hts gX9_shoot_X9_demandTable rfl rfl rfl (by decide +kernel) ⟨Nat.le_of_ble_eq_true rfl, Nat.le_of_ble_eq_true rfl⟩) (wd_1 hW v_z) rfl hKK hKX hW hS hm rfl hl.1 rfl (Nat.le_of_ble_eq_true rfl) dX9_shoot_2 ⟨Nat.le_of_ble_eq_true rfl, Nat.le_of_ble_eq_true rfl⟩ ht hlocks
  · skip
    refine z_callV (As := [.int i_1]) (rest := []) ⟨hx, hb, hml, hown, hts⟩ (tX9_demandTable l Γ lo S X v_z hc2) (cwV 1 hts gX9_shoot_X9_demandTable rfl rfl rfl (by decide +kernel) ⟨Nat.le_of_ble_eq_true rfl, Nat.le_of_ble_eq_true rfl⟩) (wd_1 hW v_z) rfl hKK hW hS rfl hl.1 rfl (Nat.le_of_ble_eq_true rfl) dX9_shoot_2 ⟨Nat.zero_le _, Nat.zero_le _⟩ (fun H locs hW hS hm1 hE => ?_)
    have v4 : zV S (8, r1, 0) = true := hE
    refine lv_astore (lv' := [(5, .ref (lo (8, r1, 0))), (0, .ref (lo (10, 0, 0))), (1, .int i_1), (2, .int i_2), (3, .int i_3), (4, .int i_4)]) hx hb dX9_shoot_5 hl (by decide) rfl (fun ls hl => ?_)
    refine lv_iload_n hx hb dX9_shoot_7 rfl (lv_at hl 3 rfl) ?_
    refine lv_iconst (v := (0)) hx hb dX9_shoot_8 (by decide) ?_
    refine lv_sipush (v := (159)) hx hb dX9_shoot_9 (by decide) ?_
    rcases op_cx hf with ⟨ee7, hc6, hf⟩ | ⟨r5, hc6, hf⟩
    · have hf := congrArg some hf
      have hf := Option.some.inj hf
      have hf := Sum.inl.inj hf
      rw [← hf]
      exact zx_callS (As := [.int i_2, .int (0 : Int32), .int (159 : Int32)]) (rest := []) ⟨hx, hb, hml, hown, hts⟩ (uX9_demandRange l hl0 Γ lo S X  hc6) (va_cwS 3 hts gX9_shoot_X9_demandRange rfl rfl rfl (by decide +kernel) ⟨Nat.le_of_ble_eq_true rfl, Nat.le_of_ble_eq_true rfl⟩) hKK hKX hW hS hm rfl hl.1 rfl (Nat.le_of_ble_eq_true rfl) dX9_shoot_12 ⟨Nat.le_of_ble_eq_true rfl, Nat.le_of_ble_eq_true rfl⟩ ht hlocks
    · skip
      refine z_callS (As := [.int i_2, .int (0 : Int32), .int (159 : Int32)]) (rest := []) ⟨hx, hb, hml, hown, hts⟩ (tX9_demandRange l Γ lo S X  hc6) (va_cwS 3 hts gX9_shoot_X9_demandRange rfl rfl rfl (by decide +kernel) ⟨Nat.le_of_ble_eq_true rfl, Nat.le_of_ble_eq_true rfl⟩) hKK hW hS rfl hl.1 rfl (Nat.le_of_ble_eq_true rfl) dX9_shoot_12 ⟨Nat.zero_le _, Nat.zero_le _⟩ (fun H locs hW hS hm1 hE => ?_)
      refine lv_iload_n hx hb dX9_shoot_15 rfl (lv_at hl 4 rfl) ?_
      refine lv_bipush (v := (-30)) hx hb dX9_shoot_16 (by decide) ?_
      refine lv_bipush (v := (30)) hx hb dX9_shoot_18 (by decide) ?_
      rcases op_cx hf with ⟨ee10, hc9, hf⟩ | ⟨r8, hc9, hf⟩
      · have hf := congrArg some hf
        have hf := Option.some.inj hf
        have hf := Sum.inl.inj hf
        rw [← hf]
        exact zx_callS (As := [.int i_3, .int (-30 : Int32), .int (30 : Int32)]) (rest := []) ⟨hx, hb, hml, hown, hts⟩ (uX9_demandRange l hl0 Γ lo S X  hc9) (va_cwS 3 hts gX9_shoot_X9_demandRange rfl rfl rfl (by decide +kernel) ⟨Nat.le_of_ble_eq_true rfl, Nat.le_of_ble_eq_true rfl⟩) hKK hKX hW hS hm rfl hl.1 rfl (Nat.le_of_ble_eq_true rfl) dX9_shoot_20 ⟨Nat.le_of_ble_eq_true rfl, Nat.le_of_ble_eq_true rfl⟩ ht hlocks
      · skip
        refine z_callS (As := [.int i_3, .int (-30 : Int32), .int (30 : Int32)]) (rest := []) ⟨hx, hb, hml, hown, hts⟩ (tX9_demandRange l Γ lo S X  hc9) (va_cwS 3 hts gX9_shoot_X9_demandRange rfl rfl rfl (by decide +kernel) ⟨Nat.le_of_ble_eq_true rfl, Nat.le_of_ble_eq_true rfl⟩) hKK hW hS rfl hl.1 rfl (Nat.le_of_ble_eq_true rfl) dX9_shoot_20 ⟨Nat.zero_le _, Nat.zero_le _⟩ (fun H locs hW hS hm1 hE => ?_)
        refine lv_iload hx hb dX9_shoot_23 (lv_at hl 5 rfl) ?_
        refine lv_bipush (v := (-30)) hx hb dX9_shoot_25 (by decide) ?_
        refine lv_bipush (v := (30)) hx hb dX9_shoot_27 (by decide) ?_
        rcases op_cx hf with ⟨ee13, hc12, hf⟩ | ⟨r11, hc12, hf⟩
        · have hf := congrArg some hf
          have hf := Option.some.inj hf
          have hf := Sum.inl.inj hf
          rw [← hf]
          exact zx_callS (As := [.int i_4, .int (-30 : Int32), .int (30 : Int32)]) (rest := []) ⟨hx, hb, hml, hown, hts⟩ (uX9_demandRange l hl0 Γ lo S X  hc12) (va_cwS 3 hts gX9_shoot_X9_demandRange rfl rfl rfl (by decide +kernel) ⟨Nat.le_of_ble_eq_true rfl, Nat.le_of_ble_eq_true rfl⟩) hKK hKX hW hS hm rfl hl.1 rfl (Nat.le_of_ble_eq_true rfl) dX9_shoot_29 ⟨Nat.le_of_ble_eq_true rfl, Nat.le_of_ble_eq_true rfl⟩ ht hlocks
        · skip
          refine z_callS (As := [.int i_4, .int (-30 : Int32), .int (30 : Int32)]) (rest := []) ⟨hx, hb, hml, hown, hts⟩ (tX9_demandRange l Γ lo S X  hc12) (va_cwS 3 hts gX9_shoot_X9_demandRange rfl rfl rfl (by decide +kernel) ⟨Nat.le_of_ble_eq_true rfl, Nat.le_of_ble_eq_true rfl⟩) hKK hW hS rfl hl.1 rfl (Nat.le_of_ble_eq_true rfl) dX9_shoot_29 ⟨Nat.zero_le _, Nat.zero_le _⟩ (fun H locs hW hS hm1 hE => ?_)
          refine lv_aload hx hb dX9_shoot_32 (lv_at hl 0 rfl) ?_
          refine va_get hx hb hts ni_X9_shoot_X7 hown hKK.1 (wd_1 hW v4) 0 rfl rfl 4 (by decide) (hts (.fieldLink RX9 152 "TiltRoute$Table" "game" "I") (List.mem_of_getElem? (i := 3) rfl)) (fun _ h => h) rfl dX9_shoot_34 ?_
          obtain ⟨j14, ej14, hf⟩ := op_st hf
          have hj14 : ∀ (u_ : Unit) (H : Heap) (locs : List Loc) (ls : Array Slot), lv_has ls 8 [] → Wd Γ lo S X H → va_S (zA Γ) s.heap H locs → (∀ c, zV S c = zV S c) → j14 () = some (Sum.inl ee) → W p l e (headSpec wsX9_shoot rnX9_shoot).room s m ([.ref (lo (10, 0, 0)), .int i_1, .int i_2, .int i_3, .int i_4] : List Value).toArray below meth c H locs 0 0 (vx_MQ below zF (zT Γ lo S X ee) ([.ref (lo (10, 0, 0)), .int i_1, .int i_2, .int i_3, .int i_4] : List Value).toArray s 1 6 (zA Γ)) (F0 m 55 ls []) := by
            intro u_ H locs ls  hl hW hS hm hf
            rw [ej14] at hf
            have hf := Option.some.inj hf
            have hf := Sum.inl.inj hf
            rw [← hf]
            exact zx_thr (ee := (3, S)) hx hb hl0 hts hown (hts (.classLink RX9 63 "java/lang/IllegalStateException") (List.mem_of_getElem? (i := 1) rfl)) (hts (.initialized "java/lang/IllegalStateException") (List.mem_of_getElem? (i := 2) rfl)) (List.mem_of_getElem? (i := 5) rfl) xs_X9_shoot_55 xs_X9_shoot_55b (show Bundle.fit (zEx 3) = true by decide) xs_X9_shoot_55c hKK hKX hS (hl.1.trans hml.symm) dX9_shoot_55 dX9_shoot_58 dX9_shoot_59 dX9_shoot_61 dX9_shoot_64 ht (Nat.le_of_ble_eq_true rfl) (Nat.le_of_ble_eq_true rfl) (Nat.le_of_ble_eq_true rfl) (Nat.le_of_ble_eq_true rfl) hlocks hW hm
          refine lv_if_lt (tgt := 55) hx hb dX9_shoot_37 (by decide) (fun k37 => ?_) (fun k37 => ?_)
          · have hf := (op_if hf).1 k37
            exact hj14 () H locs ls  (lv_sub hl [] rfl) hW hS hm hf
          · have hf := (op_if hf).2 k37
            refine lv_aload hx hb dX9_shoot_40 (lv_at hl 0 rfl) ?_
            refine va_get hx hb hts ni_X9_shoot_X7 hown hKK.1 (wd_1 hW v4) 0 rfl rfl 4 (by decide) (hts (.fieldLink RX9 152 "TiltRoute$Table" "game" "I") (List.mem_of_getElem? (i := 3) rfl)) (fun _ h => h) rfl dX9_shoot_42 ?_
            refine lv_aload_n hx hb dX9_shoot_45 rfl (lv_at hl 1 rfl) ?_
            refine va_get hx hb hts ni_X9_shoot_X9 hown hKK.1 (wd_1 hW v_z) 0 rfl rfl 1 (by decide) (hts (.fieldLink RX9 16 "TiltRoute" "games" "Ljava/util/ArrayList;") (List.mem_of_getElem? (i := 4) rfl)) (fun _ h => h) rfl dX9_shoot_46 ?_
            have v15 : zV S (0, 1, 0) = true := vf_10_1 hW v_z
            obtain ⟨r16, hc17, hf⟩ := op_cl hf
            refine z_callV (As := []) (rest := [.int (zI S (8, r1, 0) 4)]) ⟨hx, hb, hml, hown, hts⟩ (tJ_size l Γ lo S X v15 hc17) (cwV 0 hts gX9_shoot_Jx4a65c_size_8abf5 rfl rfl rfl (by decide +kernel) ⟨Nat.le_of_ble_eq_true rfl, Nat.le_of_ble_eq_true rfl⟩) (wd_1 hW v15) rfl hKK hW hS rfl hl.1 rfl (Nat.le_of_ble_eq_true rfl) dX9_shoot_49 ⟨Nat.zero_le _, Nat.zero_le _⟩ (fun H locs hW hS hm1 hE => ?_)
            refine lv_icmp_lt (tgt := 65) hx hb dX9_shoot_52 (by decide) (fun k52 => ?_) (fun k52 => ?_)
            · have hf := (op_if hf).1 k52
              refine lv_aload_n hx hb dX9_shoot_65 rfl (lv_at hl 1 rfl) ?_
              refine va_get hx hb hts ni_X9_shoot_X9 hown hKK.1 (wd_1 hW v_z) 0 rfl rfl 1 (by decide) (hts (.fieldLink RX9 16 "TiltRoute" "games" "Ljava/util/ArrayList;") (List.mem_of_getElem? (i := 4) rfl)) (fun _ h => h) rfl dX9_shoot_66 ?_
              have v18 : zV S (0, 1, 0) = true := vf_10_1 hW v_z
              refine lv_aload hx hb dX9_shoot_69 (lv_at hl 0 rfl) ?_
              refine va_get hx hb hts ni_X9_shoot_X7 hown hKK.1 (wd_1 hW v4) 0 rfl rfl 4 (by decide) (hts (.fieldLink RX9 152 "TiltRoute$Table" "game" "I") (List.mem_of_getElem? (i := 3) rfl)) (fun _ h => h) rfl dX9_shoot_71 ?_
              obtain ⟨r19, hc20, hf⟩ := op_cl hf
              refine z_callV (As := [.int (zI S (8, r1, 0) 4)]) (rest := []) ⟨hx, hb, hml, hown, hts⟩ (tJ_get l Γ lo S X v18 hc20) (cwV 1 hts gX9_shoot_Jx4a65c_get_915e3 rfl rfl rfl (by decide +kernel) ⟨Nat.le_of_ble_eq_true rfl, Nat.le_of_ble_eq_true rfl⟩) (wd_1 hW v18) rfl hKK hW hS rfl hl.1 rfl (Nat.le_of_ble_eq_true rfl) dX9_shoot_74 ⟨Nat.zero_le _, Nat.zero_le _⟩ (fun H locs hW hS hm1 hE => ?_)
              have v21 : zV S (3, r19, 0) = true := hE
              refine va_castE hx hb hown (hts (.classLink RX9 143 "TiltRoute$Game") (List.mem_of_getElem? (i := 5) rfl)) (va_recv (q0 := 0) hKK.1 (wd_1 hW v21) (ci := 3) rfl rfl) dX9_shoot_77 ?_
              refine lv_astore (lv' := [(6, .ref (lo (3, r19, 0))), (5, .ref (lo (8, r1, 0))), (0, .ref (lo (10, 0, 0))), (1, .int i_1), (2, .int i_2), (3, .int i_3), (4, .int i_4)]) hx hb dX9_shoot_80 hl (by decide) rfl (fun ls hl => ?_)
              refine lv_aload hx hb dX9_shoot_82 (lv_at hl 0 rfl) ?_
              refine va_get hx hb hts ni_X9_shoot_X2 hown hKK.1 (wd_1 hW v21) 0 rfl rfl 2 (by decide) (hts (.fieldLink RX9 170 "TiltRoute$Game" "play" "LTiltRoute$Play;") (List.mem_of_getElem? (i := 6) rfl)) (fun _ h => h) rfl dX9_shoot_84 ?_
              have v22 : zV S (6, 0, r19) = true := vf_3_2 hW v21
              refine va_get hx hb hts ni_X9_shoot_X5 hown hKK.1 (wd_1 hW v22) 0 rfl rfl 3 (by decide) (hts (.fieldLink RX9 173 "TiltRoute$Play" "score" "I") (List.mem_of_getElem? (i := 7) rfl)) (fun _ h => h) rfl dX9_shoot_87 ?_
              obtain ⟨x23, ex23, hf⟩ := op_st hf
              refine z_ist (lv' := [(7, .int x23), (6, .ref (lo (3, r19, 0))), (5, .ref (lo (8, r1, 0))), (0, .ref (lo (10, 0, 0))), (1, .int i_1), (2, .int i_2), (3, .int i_3), (4, .int i_4)]) ex23 hx hb dX9_shoot_90 hl (by decide) rfl (fun ls hl => ?_)
              refine lv_aload hx hb dX9_shoot_92 (lv_at hl 2 rfl) ?_
              refine lv_aload hx hb dX9_shoot_94 (lv_at hl 1 rfl) ?_
              exact (op_finT hf).elim
            · have hf := (op_if hf).2 k52
              exact hj14 () H locs ls  (lv_sub hl [] rfl) hW hS hm hf

theorem ni_X9_setMode_X3 : ∀ w ∈ wsX30, w ∈ wsX9_setMode := by decide +kernel
theorem ni_X9_setMode_X7 : ∀ w ∈ wsX70, w ∈ wsX9_setMode := by decide +kernel
def fX9_setMode (S : zSt) (i_1 : Int32) (i_2 : Int32) (i_3 : Int32) (i_4 : Int32) (i_5 : Int32) : Option ((Nat × zSt) ⊕ (Int32 × zSt)) :=
cx (fX9_demandTable S i_1) fun r1 =>
cx (fX9_demandIndex S i_2 (4 : Int32)) fun r5 =>
st (fun (u_ : Unit) => (cx (fX9_demandLeast S i_3 (-1 : Int32)) fun r9 =>
cx (fX9_demandRange S (i_4 / (100 : Int32)) (1 : Int32) (20 : Int32)) fun r12 =>
cx (fX9_demandRange S (i_4 - i_4 / (100 : Int32) * (100 : Int32)) (2 : Int32) (9 : Int32)) fun r15 =>
cx (fX9_demandRange S i_5 (0 : Int32) (5000 : Int32)) fun r18 =>
cx (fX9_demandNoGame S r1) fun r21 =>
cl (fX6_modeOf S 0 r1 i_2) fun r25 =>
st (fun (y28 : Int32) => (st y28 fun x31 =>
if i_3 = (-1 : Int32) then
cl (fX6_changeMode S 0 r1 i_2 none) fun S43 =>
some (.inr (x31, S43))
else
fin (
st (zN S (10, 0, 0) 0) fun g34 =>
cl (fX3_init S g34 (i_3 / (10 : Int32)) (i_3 - i_3 / (10 : Int32) * (10 : Int32)) (i_4 / (100 : Int32)) (i_4 - i_4 / (100 : Int32) * (100 : Int32)) i_5) fun S36 =>
cl (fX6_changeMode S36 0 r1 i_2 (some g34)) fun S40 =>
some ((x31, S40))) : Option ((Nat × zSt) ⊕ (Int32 × zSt)))) fun j30 =>
om r25 (
j30 (0 : Int32)) fun n44 =>
j30 (1 : Int32) : Option ((Nat × zSt) ⊕ (Int32 × zSt)))) fun j8 =>
if i_3 < 0 then
j8 ()
else
cx (fX9_demandBumper S r1 (i_3 / (10 : Int32))) fun r46 =>
cx (fX9_demandBumper S r1 (i_3 - i_3 / (10 : Int32) * (10 : Int32))) fun r50 =>
j8 ()
abbrev rmX9_setMode : Room := { frames := 4, cells := 1, slots := 5, locals := 85 }
set_option maxHeartbeats 4000000 in
set_option maxRecDepth 100000 in
theorem tX9_setMode (l : Launch) (Γ : zG) (lo0 : zId → Nat) (S : zSt) (X : va_W) {i_1 : Int32} {i_2 : Int32} {i_3 : Int32} {i_4 : Int32} {i_5 : Int32} (v_z : zV S (10, 0, 0) = true) {y : (Int32 × zSt)} (hf : fX9_setMode S i_1 i_2 i_3 i_4 i_5 = some (Sum.inr y)) : Met l yX9_setMode wsX9_setMode rmX9_setMode (zP2 Γ lo0 S X [.ref (lo0 (10, 0, 0)), .int i_1, .int i_2, .int i_3, .int i_4, .int i_5]) (zQn Γ lo0 S y.2 X (fun _ => some (.int y.1)) (fun _ => y.1 = 0 ∨ y.1 = 1)) 1 5 (zA Γ) := by
  refine Met.ofW (cc := cX9_setMode) (maxL := 8) (ret := (some .boolean)) (by decide) rfl ?_
  intro p e s m args below meth c s₁ B hml hv
  obtain ⟨rfl, hW, hKK, hKY⟩ := hv
  have hx := B.exec
  have hb := B.bytes
  have hr := B.returns
  have hts := atoms_spec (ws := wsX9_setMode) B.pre
  have hown : s.vm.findClass RX9 = some m.cls := findClass_of_methodNamed B.named
  have hlocks := B.notSynchronized
  have hS : va_S (zA Γ) s.heap s.heap [] := va_S.rf
  have hB0 : Γ.2.2.1 ≤ s.heap.size := hW.1
  have hm : ∀ c, zV S c = true → zV S c = true := fun _ h => h
  have hl := lv_entry ([.ref (lo0 (10, 0, 0)), .int i_1, .int i_2, .int i_3, .int i_4, .int i_5]) (n := 8) (Nat.le_of_ble_eq_true rfl)
  rw [lg_entry_eq]
  generalize (lg_sl ([.ref (lo0 (10, 0, 0)), .int i_1, .int i_2, .int i_3, .int i_4, .int i_5]) ++ List.replicate (8 - (lg_sl ([.ref (lo0 (10, 0, 0)), .int i_1, .int i_2, .int i_3, .int i_4, .int i_5])).length) Slot.unset).toArray = ls at hl ⊢
  have hl : lv_has ls 8 [(0, .ref (lo0 (10, 0, 0))), (1, .int i_1), (2, .int i_2), (3, .int i_3), (4, .int i_4), (5, .int i_5)] := hl
  generalize ([.ref (lo0 (10, 0, 0)), .int i_1, .int i_2, .int i_3, .int i_4, .int i_5] : List Value).toArray = args at hts ⊢
  obtain ⟨H, hH0⟩ : ∃ H, H = s.heap := ⟨_, rfl⟩
  obtain ⟨locs, hlo0⟩ : ∃ L : List Loc, L = [] := ⟨_, rfl⟩
  have hS : va_S (zA Γ) s.heap H locs := by rw [hH0, hlo0]; exact hS
  have hW : Wd Γ lo0 S X H := by rw [hH0]; exact hW
  rw [← hH0, ← hlo0]
  obtain ⟨lo, hle⟩ : ∃ z : zId → Nat, z = lo0 := ⟨_, rfl⟩
  have hlo : ∀ d, zV S d = true → lo d = lo0 d := fun d _ => by rw [hle]
  have hW : Wd Γ lo S X H := by rw [hle]; exact hW
  have hl : lv_has ls 8 [(0, .ref (lo (10, 0, 0))), (1, .int i_1), (2, .int i_2), (3, .int i_3), (4, .int i_4), (5, .int i_5)] := by first | (rw [hle]; exact hl) | exact hl
  unfold fX9_setMode at hf
  refine lv_aload_n hx hb dX9_setMode_0 rfl (lv_at hl 0 rfl) ?_
  refine lv_iload_n hx hb dX9_setMode_1 rfl (lv_at hl 1 rfl) ?_
  rcases op_cx hf with ⟨ee3, hc2, hf⟩ | ⟨r1, hc2, hf⟩
  · have hf := congrArg some hf
    have hf := Option.some.inj hf
    cases hf
  · skip
    refine z_callV (As := [.int i_1]) (rest := []) ⟨hx, hb, hml, hown, hts⟩ (tX9_demandTable l Γ lo S X v_z hc2) (cwV 1 hts gX9_setMode_X9_demandTable rfl rfl rfl (by decide +kernel) ⟨Nat.le_of_ble_eq_true rfl, Nat.le_of_ble_eq_true rfl⟩) (wd_1 hW v_z) rfl hKK hW hS rfl hl.1 rfl (Nat.le_of_ble_eq_true rfl) dX9_setMode_2 ⟨Nat.le_of_ble_eq_true rfl, Nat.le_of_ble_eq_true rfl⟩ (fun H locs hW hS hm1 hE => ?_)
    have v4 : zV S (8, r1, 0) = true := hE
    refine lv_astore (lv' := [(6, .ref (lo (8, r1, 0))), (0, .ref (lo (10, 0, 0))), (1, .int i_1), (2, .int i_2), (3, .int i_3), (4, .int i_4), (5, .int i_5)]) hx hb dX9_setMode_5 hl (by decide) rfl (fun ls hl => ?_)
    refine lv_iload_n hx hb dX9_setMode_7 rfl (lv_at hl 3 rfl) ?_
    refine lv_iconst (v := (4)) hx hb dX9_setMode_8 (by decide) ?_
    rcases op_cx hf with ⟨ee7, hc6, hf⟩ | ⟨r5, hc6, hf⟩
    · have hf := congrArg some hf
      have hf := Option.some.inj hf
      cases hf
    · skip
      refine z_callS (As := [.int i_2, .int (4 : Int32)]) (rest := []) ⟨hx, hb, hml, hown, hts⟩ (tX9_demandIndex l Γ lo S X  hc6) (va_cwS 2 hts gX9_setMode_X9_demandIndex rfl rfl rfl (by decide +kernel) ⟨Nat.le_of_ble_eq_true rfl, Nat.le_of_ble_eq_true rfl⟩) hKK hW hS rfl hl.1 rfl (Nat.le_of_ble_eq_true rfl) dX9_setMode_9 ⟨Nat.le_of_ble_eq_true rfl, Nat.le_of_ble_eq_true rfl⟩ (fun H locs hW hS hm1 hE => ?_)
      refine lv_iload_n hx hb dX9_setMode_12 rfl (lv_at hl 4 rfl) ?_
      obtain ⟨j8, ej8, hf⟩ := op_st hf
      have hj8 : ∀ (u_ : Unit) (H : Heap) (locs : List Loc) (ls : Array Slot) (lo : zId → Nat), lv_has ls 8 [(6, .ref (lo (8, r1, 0))), (2, .int i_2), (3, .int i_3), (4, .int i_4), (5, .int i_5)] → Wd Γ lo S (X) H → va_S (zA Γ) s.heap H locs → ((∀ d, zV S d = true → lo d = lo0 d) ∧ (∀ c, zV S c = true → zV S c = true) ∧ zV S (8, r1, 0) = true) → j8 () = some (Sum.inr y) → W p l e (headSpec wsX9_setMode rmX9_setMode).room s m args below meth c H locs 0 0 (MQ below (zQn Γ lo0 S y.2 X (fun _ => some (.int y.1)) (fun _ => y.1 = 0 ∨ y.1 = 1)) args s 1 5 (zA Γ)) (F0 m 36 ls []) := by
        intro u_ H locs ls lo  hl hW hS hm hf
        obtain ⟨hlo, hm, v4⟩ := hm
        rw [ej8] at hf
        refine lv_iload_n hx hb dX9_setMode_36 rfl (lv_at hl 2 rfl) ?_
        refine lv_iconst (v := (-1)) hx hb dX9_setMode_37 (by decide) ?_
        rcases op_cx hf with ⟨ee11, hc10, hf⟩ | ⟨r9, hc10, hf⟩
        · have hf := congrArg some hf
          have hf := Option.some.inj hf
          cases hf
        · skip
          refine z_callS (As := [.int i_3, .int (-1 : Int32)]) (rest := []) ⟨hx, hb, hml, hown, hts⟩ (tX9_demandLeast l Γ lo S X  hc10) (va_cwS 2 hts gX9_setMode_X9_demandLeast rfl rfl rfl (by decide +kernel) ⟨Nat.le_of_ble_eq_true rfl, Nat.le_of_ble_eq_true rfl⟩) hKK hW hS rfl hl.1 rfl (Nat.le_of_ble_eq_true rfl) dX9_setMode_38 ⟨Nat.le_of_ble_eq_true rfl, Nat.le_of_ble_eq_true rfl⟩ (fun H locs hW hS hm1 hE => ?_)
          refine lv_iload hx hb dX9_setMode_41 (lv_at hl 3 rfl) ?_
          refine lv_bipush (v := (100)) hx hb dX9_setMode_43 (by decide) ?_
          refine lv_idiv hx hb dX9_setMode_45 (by decide) ?_
          refine lv_iconst (v := (1)) hx hb dX9_setMode_46 (by decide) ?_
          refine lv_bipush (v := (20)) hx hb dX9_setMode_47 (by decide) ?_
          rcases op_cx hf with ⟨ee14, hc13, hf⟩ | ⟨r12, hc13, hf⟩
          · have hf := congrArg some hf
            have hf := Option.some.inj hf
            cases hf
          · skip
            refine z_callS (As := [.int (i_4 / (100 : Int32)), .int (1 : Int32), .int (20 : Int32)]) (rest := []) ⟨hx, hb, hml, hown, hts⟩ (tX9_demandRange l Γ lo S X  hc13) (va_cwS 3 hts gX9_setMode_X9_demandRange rfl rfl rfl (by decide +kernel) ⟨Nat.le_of_ble_eq_true rfl, Nat.le_of_ble_eq_true rfl⟩) hKK hW hS rfl hl.1 rfl (Nat.le_of_ble_eq_true rfl) dX9_setMode_49 ⟨Nat.le_of_ble_eq_true rfl, Nat.le_of_ble_eq_true rfl⟩ (fun H locs hW hS hm1 hE => ?_)
            refine lv_iload hx hb dX9_setMode_52 (lv_at hl 3 rfl) ?_
            refine lv_bipush (v := (100)) hx hb dX9_setMode_54 (by decide) ?_
            refine lv_irem hx hb dX9_setMode_56 (by decide) ?_
            refine lv_iconst (v := (2)) hx hb dX9_setMode_57 (by decide) ?_
            refine lv_bipush (v := (9)) hx hb dX9_setMode_58 (by decide) ?_
            rcases op_cx hf with ⟨ee17, hc16, hf⟩ | ⟨r15, hc16, hf⟩
            · have hf := congrArg some hf
              have hf := Option.some.inj hf
              cases hf
            · skip
              refine z_callS (As := [.int (i_4 - i_4 / (100 : Int32) * (100 : Int32)), .int (2 : Int32), .int (9 : Int32)]) (rest := []) ⟨hx, hb, hml, hown, hts⟩ (tX9_demandRange l Γ lo S X  hc16) (va_cwS 3 hts gX9_setMode_X9_demandRange rfl rfl rfl (by decide +kernel) ⟨Nat.le_of_ble_eq_true rfl, Nat.le_of_ble_eq_true rfl⟩) hKK hW hS rfl hl.1 rfl (Nat.le_of_ble_eq_true rfl) dX9_setMode_60 ⟨Nat.le_of_ble_eq_true rfl, Nat.le_of_ble_eq_true rfl⟩ (fun H locs hW hS hm1 hE => ?_)
              refine lv_iload hx hb dX9_setMode_63 (lv_at hl 4 rfl) ?_
              refine lv_iconst (v := (0)) hx hb dX9_setMode_65 (by decide) ?_
              refine lv_sipush (v := (5000)) hx hb dX9_setMode_66 (by decide) ?_
              rcases op_cx hf with ⟨ee20, hc19, hf⟩ | ⟨r18, hc19, hf⟩
              · have hf := congrArg some hf
                have hf := Option.some.inj hf
                cases hf
              · skip
                refine z_callS (As := [.int i_5, .int (0 : Int32), .int (5000 : Int32)]) (rest := []) ⟨hx, hb, hml, hown, hts⟩ (tX9_demandRange l Γ lo S X  hc19) (va_cwS 3 hts gX9_setMode_X9_demandRange rfl rfl rfl (by decide +kernel) ⟨Nat.le_of_ble_eq_true rfl, Nat.le_of_ble_eq_true rfl⟩) hKK hW hS rfl hl.1 rfl (Nat.le_of_ble_eq_true rfl) dX9_setMode_69 ⟨Nat.le_of_ble_eq_true rfl, Nat.le_of_ble_eq_true rfl⟩ (fun H locs hW hS hm1 hE => ?_)
                refine lv_aload hx hb dX9_setMode_72 (lv_at hl 0 rfl) ?_
                rcases op_cx hf with ⟨ee23, hc22, hf⟩ | ⟨r21, hc22, hf⟩
                · have hf := congrArg some hf
                  have hf := Option.some.inj hf
                  cases hf
                · skip
                  refine z_callS (As := [.ref (lo (8, r1, 0))]) (rest := []) ⟨hx, hb, hml, hown, hts⟩ (tX9_demandNoGame l Γ lo S X v4 hc22) (va_cwS 1 hts gX9_setMode_X9_demandNoGame rfl rfl rfl (by decide +kernel) ⟨Nat.le_of_ble_eq_true rfl, Nat.le_of_ble_eq_true rfl⟩) hKK hW hS rfl hl.1 rfl (Nat.le_of_ble_eq_true rfl) dX9_setMode_74 ⟨Nat.le_of_ble_eq_true rfl, Nat.le_of_ble_eq_true rfl⟩ (fun H locs hW hS hm1 hE => ?_)
                  refine lv_aload hx hb dX9_setMode_77 (lv_at hl 0 rfl) ?_
                  refine va_get hx hb hts ni_X9_setMode_X7 hown hKK.1 (wd_1 hW v4) 0 rfl rfl 3 (by decide) (hts (.fieldLink RX9 101 "TiltRoute$Table" "rules" "LTiltRoute$Rules;") (List.mem_of_getElem? (i := 1) rfl)) (fun _ h => h) rfl dX9_setMode_79 ?_
                  have v24 : zV S (7, 0, r1) = true := vf_8_3 hW v4
                  refine lv_iload_n hx hb dX9_setMode_82 rfl (lv_at hl 1 rfl) ?_
                  obtain ⟨r25, hc26, hf⟩ := op_cl hf
                  refine z_callV (As := [.int i_2]) (rest := []) ⟨hx, hb, hml, hown, hts⟩ (tX6_modeOf l Γ lo S X v24 hc26) (cwV 1 hts gX9_setMode_X6_modeOf rfl rfl rfl (by decide +kernel) ⟨Nat.le_of_ble_eq_true rfl, Nat.le_of_ble_eq_true rfl⟩) (wd_1 hW v24) rfl hKK hW hS rfl hl.1 rfl (Nat.le_of_ble_eq_true rfl) dX9_setMode_83 ⟨Nat.le_of_ble_eq_true rfl, Nat.le_of_ble_eq_true rfl⟩ (fun H locs hW hS hm1 hE => ?_)
                  have v27 : ∀ n, r25 = some n → zV S (4, n, 0) = true := fun n h => hE n h
                  obtain ⟨j30, ej30, hf⟩ := op_st hf
                  have hj30 : ∀ (y28 : Int32) (H : Heap) (locs : List Loc) (ls : Array Slot) (lo : zId → Nat) (b29 : y28 = 0 ∨ y28 = 1), lv_has ls 8 [(6, .ref (lo (8, r1, 0))), (2, .int i_2), (3, .int i_3), (4, .int i_4), (5, .int i_5)] → Wd Γ lo S (X) H → va_S (zA Γ) s.heap H locs → ((∀ d, zV S d = true → lo d = lo0 d) ∧ (∀ c, zV S c = true → zV S c = true) ∧ zV S (8, r1, 0) = true) → j30 y28 = some (Sum.inr y) → W p l e (headSpec wsX9_setMode rmX9_setMode).room s m args below meth c H locs 0 0 (MQ below (zQn Γ lo0 S y.2 X (fun _ => some (.int y.1)) (fun _ => y.1 = 0 ∨ y.1 = 1)) args s 1 5 (zA Γ)) (F0 m 94 ls [.int y28]) := by
                    intro y28 H locs ls lo b29 hl hW hS hm hf
                    obtain ⟨hlo, hm, v4⟩ := hm
                    rw [ej30] at hf
                    obtain ⟨x31, ex31, hf⟩ := op_st hf
                    have bx31 : x31 = 0 ∨ x31 = 1 := by rw [ex31]; exact b29
                    refine z_ist (lv' := [(7, .int x31), (6, .ref (lo (8, r1, 0))), (2, .int i_2), (3, .int i_3), (4, .int i_4), (5, .int i_5)]) ex31 hx hb dX9_setMode_94 hl (by decide) rfl (fun ls hl => ?_)
                    refine lv_aload hx hb dX9_setMode_96 (lv_at hl 1 rfl) ?_
                    refine va_get hx hb hts ni_X9_setMode_X7 hown hKK.1 (wd_1 hW v4) 0 rfl rfl 3 (by decide) (hts (.fieldLink RX9 101 "TiltRoute$Table" "rules" "LTiltRoute$Rules;") (List.mem_of_getElem? (i := 1) rfl)) (fun _ h => h) rfl dX9_setMode_98 ?_
                    have v32 : zV S (7, 0, r1) = true := vf_8_3 hW v4
                    refine lv_iload_n hx hb dX9_setMode_101 rfl (lv_at hl 2 rfl) ?_
                    refine lv_iload_n hx hb dX9_setMode_102 rfl (lv_at hl 3 rfl) ?_
                    refine lv_iconst (v := (-1)) hx hb dX9_setMode_103 (by decide) ?_
                    refine lv_icmp_ne (tgt := 111) hx hb dX9_setMode_104 (by decide) (fun k104 => ?_) (fun k104 => ?_)
                    · have hf := (op_if hf).2 k104
                      have hf := op_fin hf
                      obtain ⟨g34, eg34, hf⟩ := op_st hf
                      refine n_new hx hb hts ni_X9_setMode_X3 tyX3 tyX3_ok hown (hts (.classLink RX9 124 RX3) (List.mem_of_getElem? (i := 2) rfl)) (hts (.instantiable RX3 5) (List.mem_of_getElem? (i := 3) rfl)) (hts (.initialized RX3) (List.mem_of_getElem? (i := 4) rfl)) hKK.1 hW hS hB0 (ci := 4) rfl (fs := [.int 0, .int 0, .int 0, .int 0, .int 0]) df_X3 (Nat.le_of_ble_eq_true rfl) (Nat.le_of_ble_eq_true rfl) dX9_setMode_111 (fun q33 H hW hS => ?_)
                      refine lv_dup hx hb dX9_setMode_114 rfl ?_
                      refine lv_iload_n hx hb dX9_setMode_115 rfl (lv_at hl 3 rfl) ?_
                      refine lv_bipush (v := (10)) hx hb dX9_setMode_116 (by decide) ?_
                      refine lv_idiv hx hb dX9_setMode_118 (by decide) ?_
                      refine lv_iload_n hx hb dX9_setMode_119 rfl (lv_at hl 3 rfl) ?_
                      refine lv_bipush (v := (10)) hx hb dX9_setMode_120 (by decide) ?_
                      refine lv_irem hx hb dX9_setMode_122 (by decide) ?_
                      refine lv_iload hx hb dX9_setMode_123 (lv_at hl 4 rfl) ?_
                      refine lv_bipush (v := (100)) hx hb dX9_setMode_125 (by decide) ?_
                      refine lv_idiv hx hb dX9_setMode_127 (by decide) ?_
                      refine lv_iload hx hb dX9_setMode_128 (lv_at hl 4 rfl) ?_
                      refine lv_bipush (v := (100)) hx hb dX9_setMode_130 (by decide) ?_
                      refine lv_irem hx hb dX9_setMode_132 (by decide) ?_
                      refine lv_iload hx hb dX9_setMode_133 (lv_at hl 5 rfl) ?_
                      obtain ⟨S36, hc35, hf⟩ := op_cl hf
                      refine n_callI (As := [.int (i_3 / (10 : Int32)), .int (i_3 - i_3 / (10 : Int32) * (10 : Int32)), .int (i_4 / (100 : Int32)), .int (i_4 - i_4 / (100 : Int32) * (100 : Int32)), .int i_5]) (rest := [.ref q33, .int i_2, .ref (lo (7, 0, r1))]) ⟨hx, hb, hml, hown, hts⟩ (tX3_init l Γ lo S (X) q33  hc35) (cwI 5 hts gX9_setMode_X3_init rfl rfl rfl (hts (.initialized RX3) (List.mem_of_getElem? (i := 4) rfl)) (hts (.methodLink RX9 126 yX3_init) (List.mem_of_getElem? (i := 65) rfl)) (hts (.instanceMethod yX3_init) (List.mem_of_getElem? (i := 66) rfl)) rfl (by decide +kernel) ⟨Nat.le_of_ble_eq_true rfl, Nat.le_of_ble_eq_true rfl⟩) hKK hKY hW hS rfl hl.1 rfl (Nat.le_of_ble_eq_true rfl) dX9_setMode_135 ⟨Nat.le_of_ble_eq_true rfl, Nat.le_of_ble_eq_true rfl⟩ (fun lo1 H locs hW hS h1 hmo hE => ?_)
                      obtain ⟨hq, v37⟩ := hE
                      rw [← hq]
                      rw [← h1 (8, r1, 0) v4] at hl
                      rw [← h1 (7, 0, r1) v32]
                      have hlo : ∀ d, zV S d = true → lo1 d = lo0 d := fun d hd => (h1 d (hm d hd)).trans (hlo d hd)
                      rename zId → Nat => lo
                      have hm : ∀ c, zV S c = true → zV S36 c = true := fun c h => hmo c (hm c h)
                      have v4 : zV S36 (8, r1, 0) = true := hmo _ v4
                      have v32 : zV S36 (7, 0, r1) = true := hmo _ v32
                      obtain ⟨S40, hc39, hf⟩ := op_cl hf
                      refine z_callV (As := [.int i_2, .ref (lo (4, g34, 0))]) (rest := []) ⟨hx, hb, hml, hown, hts⟩ (tX6_changeMode l Γ lo S36 X v32 (fun n h => by cases h; exact v37) hc39) (cwV 2 hts gX9_setMode_X6_changeMode rfl rfl rfl (by decide +kernel) ⟨Nat.le_of_ble_eq_true rfl, Nat.le_of_ble_eq_true rfl⟩) (wd_1 hW v32) rfl hKK hW hS rfl hl.1 rfl (Nat.le_of_ble_eq_true rfl) dX9_setMode_138 ⟨Nat.le_of_ble_eq_true rfl, Nat.le_of_ble_eq_true rfl⟩ (fun H locs hW hS hm1 hE => ?_)
                      have hmo : ∀ c, zV S36 c = true → zV S40 c = true := fun c h => (hm1 c).trans h
                      have hm : ∀ c, zV S c = true → zV S40 c = true := fun c h => hmo c (hm c h)
                      have v4 : zV S40 (8, r1, 0) = true := hmo _ v4
                      refine lv_iload hx hb dX9_setMode_141 (lv_at hl 0 rfl) ?_
                      have hf := Option.some.inj hf
                      rw [← hf]
                      exact n_iret hx hb hr hlocks (Nat.le_of_ble_eq_true rfl) (Nat.le_of_ble_eq_true rfl) (z_bb bx31) rfl hW hS hlo hm bx31 dX9_setMode_143
                    · have hf := (op_if hf).1 k104
                      refine lv_null hx hb dX9_setMode_107 ?_
                      refine lv_goto (tgt := 138) hx hb dX9_setMode_108 (by decide) ?_
                      obtain ⟨S43, hc42, hf⟩ := op_cl hf
                      refine z_callV (As := [.int i_2, .null]) (rest := []) ⟨hx, hb, hml, hown, hts⟩ (tX6_changeMode l Γ lo S X v32 (fun _ h => by cases h) hc42) (cwV 2 hts gX9_setMode_X6_changeMode rfl rfl rfl (by decide +kernel) ⟨Nat.le_of_ble_eq_true rfl, Nat.le_of_ble_eq_true rfl⟩) (wd_1 hW v32) rfl hKK hW hS rfl hl.1 rfl (Nat.le_of_ble_eq_true rfl) dX9_setMode_138 ⟨Nat.le_of_ble_eq_true rfl, Nat.le_of_ble_eq_true rfl⟩ (fun H locs hW hS hm1 hE => ?_)
                      have hmo : ∀ c, zV S c = true → zV S43 c = true := fun c h => (hm1 c).trans h
                      have hm : ∀ c, zV S c = true → zV S43 c = true := fun c h => hmo c (hm c h)
                      have v4 : zV S43 (8, r1, 0) = true := hmo _ v4
                      refine lv_iload hx hb dX9_setMode_141 (lv_at hl 0 rfl) ?_
                      have hf := Option.some.inj hf
                      have hf := Sum.inr.inj hf
                      rw [← hf]
                      exact n_iret hx hb hr hlocks (Nat.le_of_ble_eq_true rfl) (Nat.le_of_ble_eq_true rfl) (z_bb bx31) rfl hW hS hlo hm bx31 dX9_setMode_143
                  rcases ho45 : r25 with _ | n44
                  · rw [ho45] at hf
                    have hf := op_omN hf
                    refine lv_ifnullN (tgt := 93) hx hb dX9_setMode_86 (by decide) ?_
                    refine lv_iconst (v := (0)) hx hb dX9_setMode_93 (by decide) ?_
                    exact hj30 (0 : Int32) H locs ls lo (Or.inl rfl) (lv_sub hl [0, 1, 2, 3, 4] rfl) hW hS ⟨hlo, hm, v4⟩ hf
                  · rw [ho45] at hf
                    have hf := op_omS hf
                    refine lv_ifnull hx hb dX9_setMode_86 ?_
                    refine lv_iconst (v := (1)) hx hb dX9_setMode_89 (by decide) ?_
                    refine lv_goto (tgt := 94) hx hb dX9_setMode_90 (by decide) ?_
                    exact hj30 (1 : Int32) H locs ls lo (Or.inr rfl) (lv_sub hl [0, 1, 2, 3, 4] rfl) hW hS ⟨hlo, hm, v4⟩ hf
      refine lv_if_lt (tgt := 36) hx hb dX9_setMode_13 (by decide) (fun k13 => ?_) (fun k13 => ?_)
      · have hf := (op_if hf).1 k13
        exact hj8 () H locs ls lo  (lv_sub hl [0, 3, 4, 5, 6] rfl) hW hS ⟨hlo, hm, v4⟩ hf
      · have hf := (op_if hf).2 k13
        refine lv_aload hx hb dX9_setMode_16 (lv_at hl 0 rfl) ?_
        refine lv_iload_n hx hb dX9_setMode_18 rfl (lv_at hl 4 rfl) ?_
        refine lv_bipush (v := (10)) hx hb dX9_setMode_19 (by decide) ?_
        refine lv_idiv hx hb dX9_setMode_21 (by decide) ?_
        rcases op_cx hf with ⟨ee48, hc47, hf⟩ | ⟨r46, hc47, hf⟩
        · have hf := congrArg some hf
          have hf := Option.some.inj hf
          cases hf
        · skip
          refine z_callS (As := [.ref (lo (8, r1, 0)), .int (i_3 / (10 : Int32))]) (rest := []) ⟨hx, hb, hml, hown, hts⟩ (tX9_demandBumper l Γ lo S X v4 hc47) (va_cwS 2 hts gX9_setMode_X9_demandBumper rfl rfl rfl (by decide +kernel) ⟨Nat.le_of_ble_eq_true rfl, Nat.le_of_ble_eq_true rfl⟩) hKK hW hS rfl hl.1 rfl (Nat.le_of_ble_eq_true rfl) dX9_setMode_22 ⟨Nat.le_of_ble_eq_true rfl, Nat.le_of_ble_eq_true rfl⟩ (fun H locs hW hS hm1 hE => ?_)
          have v49 : zV S (2, r46.1, r46.2) = true := hE
          refine lv_pop hx hb dX9_setMode_25 rfl ?_
          refine lv_aload hx hb dX9_setMode_26 (lv_at hl 0 rfl) ?_
          refine lv_iload_n hx hb dX9_setMode_28 rfl (lv_at hl 4 rfl) ?_
          refine lv_bipush (v := (10)) hx hb dX9_setMode_29 (by decide) ?_
          refine lv_irem hx hb dX9_setMode_31 (by decide) ?_
          rcases op_cx hf with ⟨ee52, hc51, hf⟩ | ⟨r50, hc51, hf⟩
          · have hf := congrArg some hf
            have hf := Option.some.inj hf
            cases hf
          · skip
            refine z_callS (As := [.ref (lo (8, r1, 0)), .int (i_3 - i_3 / (10 : Int32) * (10 : Int32))]) (rest := []) ⟨hx, hb, hml, hown, hts⟩ (tX9_demandBumper l Γ lo S X v4 hc51) (va_cwS 2 hts gX9_setMode_X9_demandBumper rfl rfl rfl (by decide +kernel) ⟨Nat.le_of_ble_eq_true rfl, Nat.le_of_ble_eq_true rfl⟩) hKK hW hS rfl hl.1 rfl (Nat.le_of_ble_eq_true rfl) dX9_setMode_32 ⟨Nat.le_of_ble_eq_true rfl, Nat.le_of_ble_eq_true rfl⟩ (fun H locs hW hS hm1 hE => ?_)
            have v53 : zV S (2, r50.1, r50.2) = true := hE
            refine lv_pop hx hb dX9_setMode_35 rfl ?_
            exact hj8 () H locs ls lo  (lv_sub hl [0, 3, 4, 5, 6] rfl) hW hS ⟨hlo, hm, v4⟩ hf
abbrev rnX9_setMode : Room := { frames := 7, cells := 1, slots := 6, locals := 104 }
set_option maxHeartbeats 4000000 in
set_option maxRecDepth 100000 in
theorem uX9_setMode (l : Launch) (hl0 : l.stackTraces = false) (Γ : zG) (lo : zId → Nat) (S : zSt) (X : va_W) {i_1 : Int32} {i_2 : Int32} {i_3 : Int32} {i_4 : Int32} {i_5 : Int32} (v_z : zV S (10, 0, 0) = true) {ee : Nat × zSt} (hf : fX9_setMode S i_1 i_2 i_3 i_4 i_5 = some (Sum.inl ee)) : vx_Met l yX9_setMode wsX9_setMode rnX9_setMode (zP1 Γ lo S X [.ref (lo (10, 0, 0)), .int i_1, .int i_2, .int i_3, .int i_4, .int i_5]) zF (zT Γ lo S X ee) 1 6 (zA Γ) := by
  refine vx_ofW (cc := cX9_setMode) (maxL := 8) (ret := (some .boolean)) (by decide) rfl ?_
  intro p e s m args below meth c s₁ B hml ht hv
  obtain ⟨rfl, hW, hKK, hKX⟩ := hv
  have hx := B.exec
  have hb := B.bytes
  have hr := B.returns
  have hts := atoms_spec (ws := wsX9_setMode) B.pre
  have hown : s.vm.findClass RX9 = some m.cls := findClass_of_methodNamed B.named
  have hlocks := B.notSynchronized
  have hS : va_S (zA Γ) s.heap s.heap [] := va_S.rf
  have hm : ∀ c, zV S c = zV S c := fun _ => rfl
  have hl := lv_entry ([.ref (lo (10, 0, 0)), .int i_1, .int i_2, .int i_3, .int i_4, .int i_5]) (n := 8) (Nat.le_of_ble_eq_true rfl)
  rw [lg_entry_eq]
  generalize (lg_sl ([.ref (lo (10, 0, 0)), .int i_1, .int i_2, .int i_3, .int i_4, .int i_5]) ++ List.replicate (8 - (lg_sl ([.ref (lo (10, 0, 0)), .int i_1, .int i_2, .int i_3, .int i_4, .int i_5])).length) Slot.unset).toArray = ls at hl ⊢
  have hl : lv_has ls 8 [(0, .ref (lo (10, 0, 0))), (1, .int i_1), (2, .int i_2), (3, .int i_3), (4, .int i_4), (5, .int i_5)] := hl
  obtain ⟨H, hH0⟩ : ∃ H, H = s.heap := ⟨_, rfl⟩
  obtain ⟨locs, hlo0⟩ : ∃ L : List Loc, L = [] := ⟨_, rfl⟩
  have hS : va_S (zA Γ) s.heap H locs := by rw [hH0, hlo0]; exact hS
  have hW : Wd Γ lo S X H := by rw [hH0]; exact hW
  rw [← hH0, ← hlo0]
  unfold fX9_setMode at hf
  refine lv_aload_n hx hb dX9_setMode_0 rfl (lv_at hl 0 rfl) ?_
  refine lv_iload_n hx hb dX9_setMode_1 rfl (lv_at hl 1 rfl) ?_
  rcases op_cx hf with ⟨ee3, hc2, hf⟩ | ⟨r1, hc2, hf⟩
  · have hf := congrArg some hf
    have hf := Option.some.inj hf
    have hf := Sum.inl.inj hf
    rw [← hf]
    exact zx_callV (As := [.int i_1]) (rest := []) ⟨hx, hb, hml, hown, hts⟩ (uX9_demandTable l hl0 Γ lo S X v_z hc2) (cwV 1 hts gX9_setMode_X9_demandTable rfl rfl rfl (by decide +kernel) ⟨Nat.le_of_ble_eq_true rfl, Nat.le_of_ble_eq_true rfl⟩) (wd_1 hW v_z) rfl hKK hKX hW hS hm rfl hl.1 rfl (Nat.le_of_ble_eq_true rfl) dX9_setMode_2 ⟨Nat.le_of_ble_eq_true rfl, Nat.le_of_ble_eq_true rfl⟩ ht hlocks
  · skip
    refine z_callV (As := [.int i_1]) (rest := []) ⟨hx, hb, hml, hown, hts⟩ (tX9_demandTable l Γ lo S X v_z hc2) (cwV 1 hts gX9_setMode_X9_demandTable rfl rfl rfl (by decide +kernel) ⟨Nat.le_of_ble_eq_true rfl, Nat.le_of_ble_eq_true rfl⟩) (wd_1 hW v_z) rfl hKK hW hS rfl hl.1 rfl (Nat.le_of_ble_eq_true rfl) dX9_setMode_2 ⟨Nat.zero_le _, Nat.zero_le _⟩ (fun H locs hW hS hm1 hE => ?_)
    have v4 : zV S (8, r1, 0) = true := hE
    refine lv_astore (lv' := [(6, .ref (lo (8, r1, 0))), (0, .ref (lo (10, 0, 0))), (1, .int i_1), (2, .int i_2), (3, .int i_3), (4, .int i_4), (5, .int i_5)]) hx hb dX9_setMode_5 hl (by decide) rfl (fun ls hl => ?_)
    refine lv_iload_n hx hb dX9_setMode_7 rfl (lv_at hl 3 rfl) ?_
    refine lv_iconst (v := (4)) hx hb dX9_setMode_8 (by decide) ?_
    rcases op_cx hf with ⟨ee7, hc6, hf⟩ | ⟨r5, hc6, hf⟩
    · have hf := congrArg some hf
      have hf := Option.some.inj hf
      have hf := Sum.inl.inj hf
      rw [← hf]
      exact zx_callS (As := [.int i_2, .int (4 : Int32)]) (rest := []) ⟨hx, hb, hml, hown, hts⟩ (uX9_demandIndex l hl0 Γ lo S X  hc6) (va_cwS 2 hts gX9_setMode_X9_demandIndex rfl rfl rfl (by decide +kernel) ⟨Nat.le_of_ble_eq_true rfl, Nat.le_of_ble_eq_true rfl⟩) hKK hKX hW hS hm rfl hl.1 rfl (Nat.le_of_ble_eq_true rfl) dX9_setMode_9 ⟨Nat.le_of_ble_eq_true rfl, Nat.le_of_ble_eq_true rfl⟩ ht hlocks
    · skip
      refine z_callS (As := [.int i_2, .int (4 : Int32)]) (rest := []) ⟨hx, hb, hml, hown, hts⟩ (tX9_demandIndex l Γ lo S X  hc6) (va_cwS 2 hts gX9_setMode_X9_demandIndex rfl rfl rfl (by decide +kernel) ⟨Nat.le_of_ble_eq_true rfl, Nat.le_of_ble_eq_true rfl⟩) hKK hW hS rfl hl.1 rfl (Nat.le_of_ble_eq_true rfl) dX9_setMode_9 ⟨Nat.zero_le _, Nat.zero_le _⟩ (fun H locs hW hS hm1 hE => ?_)
      refine lv_iload_n hx hb dX9_setMode_12 rfl (lv_at hl 4 rfl) ?_
      obtain ⟨j8, ej8, hf⟩ := op_st hf
      have hj8 : ∀ (u_ : Unit) (H : Heap) (locs : List Loc) (ls : Array Slot), lv_has ls 8 [(6, .ref (lo (8, r1, 0))), (2, .int i_2), (3, .int i_3), (4, .int i_4), (5, .int i_5)] → Wd Γ lo S X H → va_S (zA Γ) s.heap H locs → (∀ c, zV S c = zV S c) → j8 () = some (Sum.inl ee) → W p l e (headSpec wsX9_setMode rnX9_setMode).room s m ([.ref (lo (10, 0, 0)), .int i_1, .int i_2, .int i_3, .int i_4, .int i_5] : List Value).toArray below meth c H locs 0 0 (vx_MQ below zF (zT Γ lo S X ee) ([.ref (lo (10, 0, 0)), .int i_1, .int i_2, .int i_3, .int i_4, .int i_5] : List Value).toArray s 1 6 (zA Γ)) (F0 m 36 ls []) := by
        intro u_ H locs ls  hl hW hS hm hf
        rw [ej8] at hf
        refine lv_iload_n hx hb dX9_setMode_36 rfl (lv_at hl 2 rfl) ?_
        refine lv_iconst (v := (-1)) hx hb dX9_setMode_37 (by decide) ?_
        rcases op_cx hf with ⟨ee11, hc10, hf⟩ | ⟨r9, hc10, hf⟩
        · have hf := congrArg some hf
          have hf := Option.some.inj hf
          have hf := Sum.inl.inj hf
          rw [← hf]
          exact zx_callS (As := [.int i_3, .int (-1 : Int32)]) (rest := []) ⟨hx, hb, hml, hown, hts⟩ (uX9_demandLeast l hl0 Γ lo S X  hc10) (va_cwS 2 hts gX9_setMode_X9_demandLeast rfl rfl rfl (by decide +kernel) ⟨Nat.le_of_ble_eq_true rfl, Nat.le_of_ble_eq_true rfl⟩) hKK hKX hW hS hm rfl hl.1 rfl (Nat.le_of_ble_eq_true rfl) dX9_setMode_38 ⟨Nat.le_of_ble_eq_true rfl, Nat.le_of_ble_eq_true rfl⟩ ht hlocks
        · skip
          refine z_callS (As := [.int i_3, .int (-1 : Int32)]) (rest := []) ⟨hx, hb, hml, hown, hts⟩ (tX9_demandLeast l Γ lo S X  hc10) (va_cwS 2 hts gX9_setMode_X9_demandLeast rfl rfl rfl (by decide +kernel) ⟨Nat.le_of_ble_eq_true rfl, Nat.le_of_ble_eq_true rfl⟩) hKK hW hS rfl hl.1 rfl (Nat.le_of_ble_eq_true rfl) dX9_setMode_38 ⟨Nat.zero_le _, Nat.zero_le _⟩ (fun H locs hW hS hm1 hE => ?_)
          refine lv_iload hx hb dX9_setMode_41 (lv_at hl 3 rfl) ?_
          refine lv_bipush (v := (100)) hx hb dX9_setMode_43 (by decide) ?_
          refine lv_idiv hx hb dX9_setMode_45 (by decide) ?_
          refine lv_iconst (v := (1)) hx hb dX9_setMode_46 (by decide) ?_
          refine lv_bipush (v := (20)) hx hb dX9_setMode_47 (by decide) ?_
          rcases op_cx hf with ⟨ee14, hc13, hf⟩ | ⟨r12, hc13, hf⟩
          · have hf := congrArg some hf
            have hf := Option.some.inj hf
            have hf := Sum.inl.inj hf
            rw [← hf]
            exact zx_callS (As := [.int (i_4 / (100 : Int32)), .int (1 : Int32), .int (20 : Int32)]) (rest := []) ⟨hx, hb, hml, hown, hts⟩ (uX9_demandRange l hl0 Γ lo S X  hc13) (va_cwS 3 hts gX9_setMode_X9_demandRange rfl rfl rfl (by decide +kernel) ⟨Nat.le_of_ble_eq_true rfl, Nat.le_of_ble_eq_true rfl⟩) hKK hKX hW hS hm rfl hl.1 rfl (Nat.le_of_ble_eq_true rfl) dX9_setMode_49 ⟨Nat.le_of_ble_eq_true rfl, Nat.le_of_ble_eq_true rfl⟩ ht hlocks
          · skip
            refine z_callS (As := [.int (i_4 / (100 : Int32)), .int (1 : Int32), .int (20 : Int32)]) (rest := []) ⟨hx, hb, hml, hown, hts⟩ (tX9_demandRange l Γ lo S X  hc13) (va_cwS 3 hts gX9_setMode_X9_demandRange rfl rfl rfl (by decide +kernel) ⟨Nat.le_of_ble_eq_true rfl, Nat.le_of_ble_eq_true rfl⟩) hKK hW hS rfl hl.1 rfl (Nat.le_of_ble_eq_true rfl) dX9_setMode_49 ⟨Nat.zero_le _, Nat.zero_le _⟩ (fun H locs hW hS hm1 hE => ?_)
            refine lv_iload hx hb dX9_setMode_52 (lv_at hl 3 rfl) ?_
            refine lv_bipush (v := (100)) hx hb dX9_setMode_54 (by decide) ?_
            refine lv_irem hx hb dX9_setMode_56 (by decide) ?_
            refine lv_iconst (v := (2)) hx hb dX9_setMode_57 (by decide) ?_
            refine lv_bipush (v := (9)) hx hb dX9_setMode_58 (by decide) ?_
            rcases op_cx hf with ⟨ee17, hc16, hf⟩ | ⟨r15, hc16, hf⟩
            · have hf := congrArg some hf
              have hf := Option.some.inj hf
              have hf := Sum.inl.inj hf
              rw [← hf]
              exact zx_callS (As := [.int (i_4 - i_4 / (100 : Int32) * (100 : Int32)), .int (2 : Int32), .int (9 : Int32)]) (rest := []) ⟨hx, hb, hml, hown, hts⟩ (uX9_demandRange l hl0 Γ lo S X  hc16) (va_cwS 3 hts gX9_setMode_X9_demandRange rfl rfl rfl (by decide +kernel) ⟨Nat.le_of_ble_eq_true rfl, Nat.le_of_ble_eq_true rfl⟩) hKK hKX hW hS hm rfl hl.1 rfl (Nat.le_of_ble_eq_true rfl) dX9_setMode_60 ⟨Nat.le_of_ble_eq_true rfl, Nat.le_of_ble_eq_true rfl⟩ ht hlocks
            · skip
              refine z_callS (As := [.int (i_4 - i_4 / (100 : Int32) * (100 : Int32)), .int (2 : Int32), .int (9 : Int32)]) (rest := []) ⟨hx, hb, hml, hown, hts⟩ (tX9_demandRange l Γ lo S X  hc16) (va_cwS 3 hts gX9_setMode_X9_demandRange rfl rfl rfl (by decide +kernel) ⟨Nat.le_of_ble_eq_true rfl, Nat.le_of_ble_eq_true rfl⟩) hKK hW hS rfl hl.1 rfl (Nat.le_of_ble_eq_true rfl) dX9_setMode_60 ⟨Nat.zero_le _, Nat.zero_le _⟩ (fun H locs hW hS hm1 hE => ?_)
              refine lv_iload hx hb dX9_setMode_63 (lv_at hl 4 rfl) ?_
              refine lv_iconst (v := (0)) hx hb dX9_setMode_65 (by decide) ?_
              refine lv_sipush (v := (5000)) hx hb dX9_setMode_66 (by decide) ?_
              rcases op_cx hf with ⟨ee20, hc19, hf⟩ | ⟨r18, hc19, hf⟩
              · have hf := congrArg some hf
                have hf := Option.some.inj hf
                have hf := Sum.inl.inj hf
                rw [← hf]
                exact zx_callS (As := [.int i_5, .int (0 : Int32), .int (5000 : Int32)]) (rest := []) ⟨hx, hb, hml, hown, hts⟩ (uX9_demandRange l hl0 Γ lo S X  hc19) (va_cwS 3 hts gX9_setMode_X9_demandRange rfl rfl rfl (by decide +kernel) ⟨Nat.le_of_ble_eq_true rfl, Nat.le_of_ble_eq_true rfl⟩) hKK hKX hW hS hm rfl hl.1 rfl (Nat.le_of_ble_eq_true rfl) dX9_setMode_69 ⟨Nat.le_of_ble_eq_true rfl, Nat.le_of_ble_eq_true rfl⟩ ht hlocks
              · skip
                refine z_callS (As := [.int i_5, .int (0 : Int32), .int (5000 : Int32)]) (rest := []) ⟨hx, hb, hml, hown, hts⟩ (tX9_demandRange l Γ lo S X  hc19) (va_cwS 3 hts gX9_setMode_X9_demandRange rfl rfl rfl (by decide +kernel) ⟨Nat.le_of_ble_eq_true rfl, Nat.le_of_ble_eq_true rfl⟩) hKK hW hS rfl hl.1 rfl (Nat.le_of_ble_eq_true rfl) dX9_setMode_69 ⟨Nat.zero_le _, Nat.zero_le _⟩ (fun H locs hW hS hm1 hE => ?_)
                refine lv_aload hx hb dX9_setMode_72 (lv_at hl 0 rfl) ?_
                rcases op_cx hf with ⟨ee23, hc22, hf⟩ | ⟨r21, hc22, hf⟩
                · have hf := congrArg some hf
                  have hf := Option.some.inj hf
                  have hf := Sum.inl.inj hf
                  rw [← hf]
                  exact zx_callS (As := [.ref (lo (8, r1, 0))]) (rest := []) ⟨hx, hb, hml, hown, hts⟩ (uX9_demandNoGame l hl0 Γ lo S X v4 hc22) (va_cwS 1 hts gX9_setMode_X9_demandNoGame rfl rfl rfl (by decide +kernel) ⟨Nat.le_of_ble_eq_true rfl, Nat.le_of_ble_eq_true rfl⟩) hKK hKX hW hS hm rfl hl.1 rfl (Nat.le_of_ble_eq_true rfl) dX9_setMode_74 ⟨Nat.le_of_ble_eq_true rfl, Nat.le_of_ble_eq_true rfl⟩ ht hlocks
                · skip
                  refine z_callS (As := [.ref (lo (8, r1, 0))]) (rest := []) ⟨hx, hb, hml, hown, hts⟩ (tX9_demandNoGame l Γ lo S X v4 hc22) (va_cwS 1 hts gX9_setMode_X9_demandNoGame rfl rfl rfl (by decide +kernel) ⟨Nat.le_of_ble_eq_true rfl, Nat.le_of_ble_eq_true rfl⟩) hKK hW hS rfl hl.1 rfl (Nat.le_of_ble_eq_true rfl) dX9_setMode_74 ⟨Nat.zero_le _, Nat.zero_le _⟩ (fun H locs hW hS hm1 hE => ?_)
                  refine lv_aload hx hb dX9_setMode_77 (lv_at hl 0 rfl) ?_
                  refine va_get hx hb hts ni_X9_setMode_X7 hown hKK.1 (wd_1 hW v4) 0 rfl rfl 3 (by decide) (hts (.fieldLink RX9 101 "TiltRoute$Table" "rules" "LTiltRoute$Rules;") (List.mem_of_getElem? (i := 1) rfl)) (fun _ h => h) rfl dX9_setMode_79 ?_
                  have v24 : zV S (7, 0, r1) = true := vf_8_3 hW v4
                  refine lv_iload_n hx hb dX9_setMode_82 rfl (lv_at hl 1 rfl) ?_
                  obtain ⟨r25, hc26, hf⟩ := op_cl hf
                  refine z_callV (As := [.int i_2]) (rest := []) ⟨hx, hb, hml, hown, hts⟩ (tX6_modeOf l Γ lo S X v24 hc26) (cwV 1 hts gX9_setMode_X6_modeOf rfl rfl rfl (by decide +kernel) ⟨Nat.le_of_ble_eq_true rfl, Nat.le_of_ble_eq_true rfl⟩) (wd_1 hW v24) rfl hKK hW hS rfl hl.1 rfl (Nat.le_of_ble_eq_true rfl) dX9_setMode_83 ⟨Nat.zero_le _, Nat.zero_le _⟩ (fun H locs hW hS hm1 hE => ?_)
                  have v27 : ∀ n, r25 = some n → zV S (4, n, 0) = true := fun n h => hE n h
                  obtain ⟨j30, ej30, hf⟩ := op_st hf
                  have hj30 : ∀ (y28 : Int32) (H : Heap) (locs : List Loc) (ls : Array Slot) (b29 : y28 = 0 ∨ y28 = 1), lv_has ls 8 [(6, .ref (lo (8, r1, 0))), (2, .int i_2), (3, .int i_3), (4, .int i_4), (5, .int i_5)] → Wd Γ lo S X H → va_S (zA Γ) s.heap H locs → (∀ c, zV S c = zV S c) → j30 y28 = some (Sum.inl ee) → W p l e (headSpec wsX9_setMode rnX9_setMode).room s m ([.ref (lo (10, 0, 0)), .int i_1, .int i_2, .int i_3, .int i_4, .int i_5] : List Value).toArray below meth c H locs 0 0 (vx_MQ below zF (zT Γ lo S X ee) ([.ref (lo (10, 0, 0)), .int i_1, .int i_2, .int i_3, .int i_4, .int i_5] : List Value).toArray s 1 6 (zA Γ)) (F0 m 94 ls [.int y28]) := by
                    intro y28 H locs ls b29 hl hW hS hm hf
                    rw [ej30] at hf
                    obtain ⟨x31, ex31, hf⟩ := op_st hf
                    have bx31 : x31 = 0 ∨ x31 = 1 := by rw [ex31]; exact b29
                    refine z_ist (lv' := [(7, .int x31), (6, .ref (lo (8, r1, 0))), (2, .int i_2), (3, .int i_3), (4, .int i_4), (5, .int i_5)]) ex31 hx hb dX9_setMode_94 hl (by decide) rfl (fun ls hl => ?_)
                    refine lv_aload hx hb dX9_setMode_96 (lv_at hl 1 rfl) ?_
                    refine va_get hx hb hts ni_X9_setMode_X7 hown hKK.1 (wd_1 hW v4) 0 rfl rfl 3 (by decide) (hts (.fieldLink RX9 101 "TiltRoute$Table" "rules" "LTiltRoute$Rules;") (List.mem_of_getElem? (i := 1) rfl)) (fun _ h => h) rfl dX9_setMode_98 ?_
                    have v32 : zV S (7, 0, r1) = true := vf_8_3 hW v4
                    refine lv_iload_n hx hb dX9_setMode_101 rfl (lv_at hl 2 rfl) ?_
                    refine lv_iload_n hx hb dX9_setMode_102 rfl (lv_at hl 3 rfl) ?_
                    refine lv_iconst (v := (-1)) hx hb dX9_setMode_103 (by decide) ?_
                    refine lv_icmp_ne (tgt := 111) hx hb dX9_setMode_104 (by decide) (fun k104 => ?_) (fun k104 => ?_)
                    · have hf := (op_if hf).2 k104
                      exact (op_finT hf).elim
                    · have hf := (op_if hf).1 k104
                      refine lv_null hx hb dX9_setMode_107 ?_
                      refine lv_goto (tgt := 138) hx hb dX9_setMode_108 (by decide) ?_
                      obtain ⟨S35, hc34, hf⟩ := op_cl hf
                      refine z_callV (As := [.int i_2, .null]) (rest := []) ⟨hx, hb, hml, hown, hts⟩ (tX6_changeMode l Γ lo S X v32 (fun _ h => by cases h) hc34) (cwV 2 hts gX9_setMode_X6_changeMode rfl rfl rfl (by decide +kernel) ⟨Nat.le_of_ble_eq_true rfl, Nat.le_of_ble_eq_true rfl⟩) (wd_1 hW v32) rfl hKK hW hS rfl hl.1 rfl (Nat.le_of_ble_eq_true rfl) dX9_setMode_138 ⟨Nat.zero_le _, Nat.zero_le _⟩ (fun H locs hW hS hm1 hE => ?_)
                      have hm : ∀ c, zV S35 c = zV S c := hm1
                      refine lv_iload hx hb dX9_setMode_141 (lv_at hl 0 rfl) ?_
                      have hf := Option.some.inj hf
                      cases hf
                  rcases ho37 : r25 with _ | n36
                  · rw [ho37] at hf
                    have hf := op_omN hf
                    refine lv_ifnullN (tgt := 93) hx hb dX9_setMode_86 (by decide) ?_
                    refine lv_iconst (v := (0)) hx hb dX9_setMode_93 (by decide) ?_
                    exact hj30 (0 : Int32) H locs ls (Or.inl rfl) (lv_sub hl [0, 1, 2, 3, 4] rfl) hW hS hm hf
                  · rw [ho37] at hf
                    have hf := op_omS hf
                    refine lv_ifnull hx hb dX9_setMode_86 ?_
                    refine lv_iconst (v := (1)) hx hb dX9_setMode_89 (by decide) ?_
                    refine lv_goto (tgt := 94) hx hb dX9_setMode_90 (by decide) ?_
                    exact hj30 (1 : Int32) H locs ls (Or.inr rfl) (lv_sub hl [0, 1, 2, 3, 4] rfl) hW hS hm hf
      refine lv_if_lt (tgt := 36) hx hb dX9_setMode_13 (by decide) (fun k13 => ?_) (fun k13 => ?_)
      · have hf := (op_if hf).1 k13
        exact hj8 () H locs ls  (lv_sub hl [0, 3, 4, 5, 6] rfl) hW hS hm hf
      · have hf := (op_if hf).2 k13
        refine lv_aload hx hb dX9_setMode_16 (lv_at hl 0 rfl) ?_
        refine lv_iload_n hx hb dX9_setMode_18 rfl (lv_at hl 4 rfl) ?_
        refine lv_bipush (v := (10)) hx hb dX9_setMode_19 (by decide) ?_
        refine lv_idiv hx hb dX9_setMode_21 (by decide) ?_
        rcases op_cx hf with ⟨ee40, hc39, hf⟩ | ⟨r38, hc39, hf⟩
        · have hf := congrArg some hf
          have hf := Option.some.inj hf
          have hf := Sum.inl.inj hf
          rw [← hf]
          exact zx_callS (As := [.ref (lo (8, r1, 0)), .int (i_3 / (10 : Int32))]) (rest := []) ⟨hx, hb, hml, hown, hts⟩ (uX9_demandBumper l hl0 Γ lo S X v4 hc39) (va_cwS 2 hts gX9_setMode_X9_demandBumper rfl rfl rfl (by decide +kernel) ⟨Nat.le_of_ble_eq_true rfl, Nat.le_of_ble_eq_true rfl⟩) hKK hKX hW hS hm rfl hl.1 rfl (Nat.le_of_ble_eq_true rfl) dX9_setMode_22 ⟨Nat.le_of_ble_eq_true rfl, Nat.le_of_ble_eq_true rfl⟩ ht hlocks
        · skip
          refine z_callS (As := [.ref (lo (8, r1, 0)), .int (i_3 / (10 : Int32))]) (rest := []) ⟨hx, hb, hml, hown, hts⟩ (tX9_demandBumper l Γ lo S X v4 hc39) (va_cwS 2 hts gX9_setMode_X9_demandBumper rfl rfl rfl (by decide +kernel) ⟨Nat.le_of_ble_eq_true rfl, Nat.le_of_ble_eq_true rfl⟩) hKK hW hS rfl hl.1 rfl (Nat.le_of_ble_eq_true rfl) dX9_setMode_22 ⟨Nat.zero_le _, Nat.zero_le _⟩ (fun H locs hW hS hm1 hE => ?_)
          have v41 : zV S (2, r38.1, r38.2) = true := hE
          refine lv_pop hx hb dX9_setMode_25 rfl ?_
          refine lv_aload hx hb dX9_setMode_26 (lv_at hl 0 rfl) ?_
          refine lv_iload_n hx hb dX9_setMode_28 rfl (lv_at hl 4 rfl) ?_
          refine lv_bipush (v := (10)) hx hb dX9_setMode_29 (by decide) ?_
          refine lv_irem hx hb dX9_setMode_31 (by decide) ?_
          rcases op_cx hf with ⟨ee44, hc43, hf⟩ | ⟨r42, hc43, hf⟩
          · have hf := congrArg some hf
            have hf := Option.some.inj hf
            have hf := Sum.inl.inj hf
            rw [← hf]
            exact zx_callS (As := [.ref (lo (8, r1, 0)), .int (i_3 - i_3 / (10 : Int32) * (10 : Int32))]) (rest := []) ⟨hx, hb, hml, hown, hts⟩ (uX9_demandBumper l hl0 Γ lo S X v4 hc43) (va_cwS 2 hts gX9_setMode_X9_demandBumper rfl rfl rfl (by decide +kernel) ⟨Nat.le_of_ble_eq_true rfl, Nat.le_of_ble_eq_true rfl⟩) hKK hKX hW hS hm rfl hl.1 rfl (Nat.le_of_ble_eq_true rfl) dX9_setMode_32 ⟨Nat.le_of_ble_eq_true rfl, Nat.le_of_ble_eq_true rfl⟩ ht hlocks
          · skip
            refine z_callS (As := [.ref (lo (8, r1, 0)), .int (i_3 - i_3 / (10 : Int32) * (10 : Int32))]) (rest := []) ⟨hx, hb, hml, hown, hts⟩ (tX9_demandBumper l Γ lo S X v4 hc43) (va_cwS 2 hts gX9_setMode_X9_demandBumper rfl rfl rfl (by decide +kernel) ⟨Nat.le_of_ble_eq_true rfl, Nat.le_of_ble_eq_true rfl⟩) hKK hW hS rfl hl.1 rfl (Nat.le_of_ble_eq_true rfl) dX9_setMode_32 ⟨Nat.zero_le _, Nat.zero_le _⟩ (fun H locs hW hS hm1 hE => ?_)
            have v45 : zV S (2, r42.1, r42.2) = true := hE
            refine lv_pop hx hb dX9_setMode_35 rfl ?_
            exact hj8 () H locs ls  (lv_sub hl [0, 3, 4, 5, 6] rfl) hW hS hm hf

