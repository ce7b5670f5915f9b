theorem ni_X10_bad_X10 : ∀ w ∈ wsX100, w ∈ wsX10_bad := by decide +kernel
def fX10_bad (M : zMs) (i_1 : Int32) (i_2 : Int32) : Option Int32 :=
st (0 : Int32) fun x1 =>
st ((8 : Int32) * i_1) fun x2 =>
lp (fun (q3 : (Int32 × Int32)) => (gd (¬ (i_1 < 0 ∨ 6 ≤ i_1.toNatClampNeg)) (
if (((8 : Int32) * i_1) + (M 8 i_1.toNatClampNeg)) ≤ q3.2 then
some (.inr (q3.1))
else
cl (fX10_isBad M q3.2 i_2) fun r9 =>
st (fun (y12 : Int32) => (st (q3.1 + y12) fun x15 =>
st (q3.2 + (1 : Int32)) fun x16 =>
some (.inl (x15, x16)) : Option ((Int32 × Int32) ⊕ Int32))) fun j14 =>
if r9 = 0 then
j14 (0 : Int32)
else
j14 (1 : Int32)) : Option ((Int32 × Int32) ⊕ Int32))) 40000 (x1, x2)
abbrev rmX10_bad : Room := { frames := 1, cells := 0, slots := 0, locals := 22 }
set_option maxHeartbeats 4000000 in
set_option maxRecDepth 100000 in
theorem tX10_bad (l : Launch) (Γ : zG) (lo : zId → Nat) (S : zSt) (q : Nat → Nat) (M : zMs) (Y : va_W) {i_1 : Int32} {i_2 : Int32}  {y : Int32} (hf : fX10_bad M i_1 i_2 = some y) : Met l yX10_bad wsX10_bad rmX10_bad (zP0 Γ lo S (mcl Γ q M ++ Y) [.ref (q 0), .int i_1, .int i_2]) (zQ0 Γ lo S S (mcl Γ q M ++ Y) (some (.int y)) True) 0 0 (zA Γ) := by
  refine Met.ofW (cc := cX10_bad) (maxL := 5) (ret := (some .int)) (by decide) rfl ?_
  intro p e s m args below meth c s₁ B hml hv
  obtain ⟨rfl, hW, hKK⟩ := hv
  have hx := B.exec
  have hb := B.bytes
  have hr := B.returns
  have hts := atoms_spec (ws := wsX10_bad) B.pre
  have hown : s.vm.findClass RX10 = some m.cls := findClass_of_methodNamed B.named
  have hlocks := B.notSynchronized
  have hS : va_S (zA Γ) s.heap s.heap [] := va_S.rf
  have hm : ∀ c, zV S c = zV S c := fun _ => rfl
  have hl := lv_entry ([.ref (q 0), .int i_1, .int i_2]) (n := 5) (Nat.le_of_ble_eq_true rfl)
  rw [lg_entry_eq]
  generalize (lg_sl ([.ref (q 0), .int i_1, .int i_2]) ++ List.replicate (5 - (lg_sl ([.ref (q 0), .int i_1, .int i_2])).length) Slot.unset).toArray = ls at hl ⊢
  have hl : lv_has ls 5 [(0, .ref (q 0)), (1, .int i_1), (2, .int i_2)] := hl
  obtain ⟨H, hH0⟩ : ∃ H, H = s.heap := ⟨_, rfl⟩
  obtain ⟨locs, hlo0⟩ : ∃ L : List Loc, L = [] := ⟨_, rfl⟩
  have hS : va_S (zA Γ) s.heap H locs := by rw [hH0, hlo0]; exact hS
  have hW : Wd Γ lo S (mcl Γ q M ++ Y) H := by rw [hH0]; exact hW
  rw [← hH0, ← hlo0]
  unfold fX10_bad at hf
  refine lv_iconst (v := (0)) hx hb dX10_bad_0 (by decide) ?_
  obtain ⟨x1, ex1, hf⟩ := op_st hf
  have bx1 : x1 = 0 ∨ x1 = 1 := Or.inl ex1
  refine z_istn (lv' := [(3, .int x1), (0, .ref (q 0)), (1, .int i_1), (2, .int i_2)]) ex1 hx hb dX10_bad_1 rfl hl (by decide) rfl (fun ls hl => ?_)
  refine lv_bipush (v := (8)) hx hb dX10_bad_2 (by decide) ?_
  refine lv_iload_n hx hb dX10_bad_4 rfl (lv_at hl 2 rfl) ?_
  refine lv_imul hx hb dX10_bad_5 ?_
  obtain ⟨x2, ex2, hf⟩ := op_st hf
  refine z_ist (lv' := [(4, .int x2), (3, .int x1), (0, .ref (q 0)), (1, .int i_1), (2, .int i_2)]) ex2 hx hb dX10_bad_6 hl (by decide) rfl (fun ls hl => ?_)
  obtain ⟨w5, q30, ew5, eq30, hf⟩ := op_lb hf
  have hw5 : ∀ n8 : Nat, ∀ (q3 : (Int32 × Int32)) (H : Heap) (locs : List Loc) (ls : Array Slot), lv_has ls 5 [(4, .int q3.2), (3, .int q3.1), (0, .ref (q 0)), (1, .int i_1), (2, .int i_2)] → Wd Γ lo S (mcl Γ q M ++ Y) H → va_S (zA Γ) s.heap H locs → (∀ c, zV S c = zV S c) → lp w5 n8 q3 = some y → W p l e (headSpec wsX10_bad rmX10_bad).room s m ([.ref (q 0), .int i_1, .int i_2] : List Value).toArray below meth c H locs 0 0 (MQ below (zQ0 Γ lo S S (mcl Γ q M ++ Y) (some (.int y)) True) ([.ref (q 0), .int i_1, .int i_2] : List Value).toArray s 0 0 (zA Γ)) (F0 m 8 ls []) := by
    intro n8
    induction n8 with
    | zero => intro q3 H locs ls hl hW hS hm hf; cases hf
    | succ n8 ih6 =>
      intro q3 H locs ls hl hW hS hm hf
      obtain ⟨n_, r4, hn_, hf, hr7⟩ := op_lq hf
      cases hn_
      rw [ew5] at hf
      refine lv_iload hx hb dX10_bad_8 (lv_at hl 0 rfl) ?_
      refine lv_bipush (v := (8)) hx hb dX10_bad_10 (by decide) ?_
      refine lv_iload_n hx hb dX10_bad_12 rfl (lv_at hl 3 rfl) ?_
      refine lv_imul hx hb dX10_bad_13 ?_
      refine lv_aload_n hx hb dX10_bad_14 rfl (lv_at hl 2 rfl) ?_
      refine va_get hx hb hts ni_X10_bad_X10 hown hKK.1 (wd_x hW (k := 0) rfl) 0 rfl rfl 8 (by decide) (hts (.fieldLink RX10 28 "TiltRouteModel" "bumpers" "[I") (List.mem_of_getElem? (i := 1) rfl)) (fun _ h => h) rfl dX10_bad_15 ?_
      refine lv_iload_n hx hb dX10_bad_18 rfl (lv_at hl 3 rfl) ?_
      obtain ⟨h19, hf⟩ := op_gd hf
      refine va_iald hx hb hKK.1 (wd_x hW (k := 7) rfl) 0 0 (n := 6) rfl rfl h19 dX10_bad_19 ?_
      refine lv_iadd hx hb dX10_bad_20 ?_
      refine lv_icmp_ge (tgt := 48) hx hb dX10_bad_21 (by decide) (fun k21 => ?_) (fun k21 => ?_)
      · have hf := (op_if hf).1 k21
        refine lv_iload_n hx hb dX10_bad_48 rfl (lv_at hl 1 rfl) ?_
        have hf := zr_r hf hr7
        rw [← hf]
        exact z_iret hx hb hr hlocks rfl hW hS hm trivial dX10_bad_49
      · have hf := (op_if hf).2 k21
        refine lv_iload_n hx hb dX10_bad_24 rfl (lv_at hl 1 rfl) ?_
        refine lv_aload_n hx hb dX10_bad_25 rfl (lv_at hl 2 rfl) ?_
        refine lv_iload hx hb dX10_bad_26 (lv_at hl 0 rfl) ?_
        refine lv_iload_n hx hb dX10_bad_28 rfl (lv_at hl 4 rfl) ?_
        obtain ⟨r9, hc10, hf⟩ := op_cl hf
        refine z_callV (As := [.int q3.2, .int i_2]) (rest := [.int q3.1]) ⟨hx, hb, hml, hown, hts⟩ (tX10_isBad l Γ lo S q M Y  hc10) (cwV 2 hts gX10_bad_X10_isBad rfl rfl rfl (by decide +kernel) ⟨Nat.le_of_ble_eq_true rfl, Nat.le_of_ble_eq_true rfl⟩) (wd_x hW (k := 0) rfl) rfl hKK hW hS rfl hl.1 rfl (Nat.le_of_ble_eq_true rfl) dX10_bad_29 ⟨Nat.zero_le _, Nat.zero_le _⟩ (fun H locs hW hS hm1 hE => ?_)
        have b11 := hE
        obtain ⟨j14, ej14, hf⟩ := op_st hf
        have hj14 : ∀ (y12 : Int32) (H : Heap) (locs : List Loc) (ls : Array Slot) (b13 : y12 = 0 ∨ y12 = 1), lv_has ls 5 [(4, .int q3.2), (0, .ref (q 0)), (1, .int i_1), (2, .int i_2)] → Wd Γ lo S (mcl Γ q M ++ Y) H → va_S (zA Γ) s.heap H locs → (∀ c, zV S c = zV S c) → j14 y12 = some r4 → W p l e (headSpec wsX10_bad rmX10_bad).room s m ([.ref (q 0), .int i_1, .int i_2] : List Value).toArray below meth c H locs 0 0 (MQ below (zQ0 Γ lo S S (mcl Γ q M ++ Y) (some (.int y)) True) ([.ref (q 0), .int i_1, .int i_2] : List Value).toArray s 0 0 (zA Γ)) (F0 m 40 ls [.int y12, .int q3.1]) := by
          intro y12 H locs ls b13 hl hW hS hm hf
          rw [ej14] at hf
          refine lv_iadd hx hb dX10_bad_40 ?_
          obtain ⟨x15, ex15, hf⟩ := op_st hf
          refine z_istn (lv' := [(3, .int x15), (4, .int q3.2), (0, .ref (q 0)), (1, .int i_1), (2, .int i_2)]) ex15 hx hb dX10_bad_41 rfl hl (by decide) rfl (fun ls hl => ?_)
          obtain ⟨x16, ex16, hf⟩ := op_st hf
          refine lv_iinc (v := x16) (lv' := [(4, .int x16), (3, .int x15), (0, .ref (q 0)), (1, .int i_1), (2, .int i_2)]) hx hb dX10_bad_42 hl (k := 1) rfl (by rw [ex16]; rfl) (by decide) rfl (fun ls hl => ?_)
          refine lv_goto (tgt := 8) hx hb dX10_bad_45 (by decide) ?_
          have hf := zr_l hf hr7
          exact ih6 (x15, x16) H locs ls (lv_sub hl [0, 1, 2, 3, 4] rfl) hW hS hm hf
        refine lv_if_eq (tgt := 39) hx hb dX10_bad_32 (by decide) (fun k32 => ?_) (fun k32 => ?_)
        · have hf := (op_if hf).1 k32
          refine lv_iconst (v := (0)) hx hb dX10_bad_39 (by decide) ?_
          exact hj14 (0 : Int32) H locs ls (Or.inl rfl) (lv_sub hl [0, 2, 3, 4] rfl) hW hS hm hf
        · have hf := (op_if hf).2 k32
          refine lv_iconst (v := (1)) hx hb dX10_bad_35 (by decide) ?_
          refine lv_goto (tgt := 40) hx hb dX10_bad_36 (by decide) ?_
          exact hj14 (1 : Int32) H locs ls (Or.inr rfl) (lv_sub hl [0, 2, 3, 4] rfl) hW hS hm hf
  rw [eq30] at hf
  exact hw5 _ (x1, x2) H locs ls (lv_sub hl [0, 1, 2, 3, 4] rfl) hW hS hm hf

theorem ni_X10_wanted_X10 : ∀ w ∈ wsX100, w ∈ wsX10_wanted := by decide +kernel
def fX10_wanted (M : zMs) (i_1 : Int32) : Option (Int32 × zMs) :=
cl (fX10_in M i_1 (0 : Int32) (1 : Int32)) fun r1 =>
st (fun (y4 : Int32) => (cl2 (fX10_refused M y4) fun r7 M9 =>
if r7 = 0 then
gd (¬ (i_1 < 0 ∨ 4 ≤ i_1.toNatClampNeg)) (
gd (¬ (((2 : Int32) + i_1) < 0 ∨ 4 ≤ ((2 : Int32) + i_1).toNatClampNeg)) (
st ((-(M9 50 i_1.toNatClampNeg)) - (M9 50 ((2 : Int32) + i_1).toNatClampNeg)) fun x11 =>
st (0 : Int32) fun x12 =>
lp (fun (q13 : (Int32 × Int32)) => (if (M9 1 0) ≤ q13.2 then
if 0 ≤ q13.1 then
some (.inr ((q13.1, M9)))
else
some (.inr (((0 : Int32), M9)))
else
cl (fX10_bad M9 q13.2 i_1) fun r19 =>
st (q13.1 + r19) fun x21 =>
st (q13.2 + (1 : Int32)) fun x22 =>
some (.inl (x21, x22)) : Option ((Int32 × Int32) ⊕ (Int32 × zMs)))) 40000 (x11, x12)))
else
some (((0 : Int32), M9)) : Option (Int32 × zMs))) fun j6 =>
if r1 = 0 then
j6 (1 : Int32)
else
j6 (0 : Int32)
abbrev rmX10_wanted : Room := { frames := 2, cells := 0, slots := 0, locals := 46 }
set_option maxHeartbeats 4000000 in
set_option maxRecDepth 100000 in
theorem tX10_wanted (l : Launch) (Γ : zG) (lo : zId → Nat) (S : zSt) (q : Nat → Nat) (M : zMs) (Y : va_W) {i_1 : Int32}  {y : (Int32 × zMs)} (hf : fX10_wanted M i_1 = some y) : Met l yX10_wanted wsX10_wanted rmX10_wanted (zP0 Γ lo S (mcl Γ q M ++ Y) [.ref (q 0), .int i_1]) (zQ0 Γ lo S S (mcl Γ q y.2 ++ Y) (some (.int y.1)) True) 0 0 (zA Γ) := by
  refine Met.ofW (cc := cX10_wanted) (maxL := 4) (ret := (some .int)) (by decide) rfl ?_
  intro p e s m args below meth c s₁ B hml hv
  obtain ⟨rfl, hW, hKK⟩ := hv
  have hx := B.exec
  have hb := B.bytes
  have hr := B.returns
  have hts := atoms_spec (ws := wsX10_wanted) B.pre
  have hown : s.vm.findClass RX10 = some m.cls := findClass_of_methodNamed B.named
  have hlocks := B.notSynchronized
  have hS : va_S (zA Γ) s.heap s.heap [] := va_S.rf
  have hm : ∀ c, zV S c = zV S c := fun _ => rfl
  have hl := lv_entry ([.ref (q 0), .int i_1]) (n := 4) (Nat.le_of_ble_eq_true rfl)
  rw [lg_entry_eq]
  generalize (lg_sl ([.ref (q 0), .int i_1]) ++ List.replicate (4 - (lg_sl ([.ref (q 0), .int i_1])).length) Slot.unset).toArray = ls at hl ⊢
  have hl : lv_has ls 4 [(0, .ref (q 0)), (1, .int i_1)] := hl
  obtain ⟨H, hH0⟩ : ∃ H, H = s.heap := ⟨_, rfl⟩
  obtain ⟨locs, hlo0⟩ : ∃ L : List Loc, L = [] := ⟨_, rfl⟩
  have hS : va_S (zA Γ) s.heap H locs := by rw [hH0, hlo0]; exact hS
  have hW : Wd Γ lo S (mcl Γ q M ++ Y) H := by rw [hH0]; exact hW
  rw [← hH0, ← hlo0]
  unfold fX10_wanted at hf
  refine lv_aload_n hx hb dX10_wanted_0 rfl (lv_at hl 0 rfl) ?_
  refine lv_iload_n hx hb dX10_wanted_1 rfl (lv_at hl 1 rfl) ?_
  refine lv_iconst (v := (0)) hx hb dX10_wanted_2 (by decide) ?_
  refine lv_iconst (v := (1)) hx hb dX10_wanted_3 (by decide) ?_
  obtain ⟨r1, hc2, hf⟩ := op_cl hf
  refine z_callS (As := [.int i_1, .int (0 : Int32), .int (1 : Int32)]) (rest := [.ref (q 0)]) ⟨hx, hb, hml, hown, hts⟩ (tX10_in l Γ lo S q M Y  hc2) (va_cwS 3 hts gX10_wanted_X10_in rfl rfl rfl (by decide +kernel) ⟨Nat.le_of_ble_eq_true rfl, Nat.le_of_ble_eq_true rfl⟩) hKK hW hS rfl hl.1 rfl (Nat.le_of_ble_eq_true rfl) dX10_wanted_4 ⟨Nat.zero_le _, Nat.zero_le _⟩ (fun H locs hW hS hm1 hE => ?_)
  have b3 := hE
  obtain ⟨j6, ej6, hf⟩ := op_st hf
  have hj6 : ∀ (y4 : Int32) (H : Heap) (locs : List Loc) (ls : Array Slot) (b5 : y4 = 0 ∨ y4 = 1), lv_has ls 4 [(0, .ref (q 0)), (1, .int i_1)] → Wd Γ lo S (mcl Γ q M ++ Y) H → va_S (zA Γ) s.heap H locs → (∀ c, zV S c = zV S c) → j6 y4 = some y → W p l e (headSpec wsX10_wanted rmX10_wanted).room s m ([.ref (q 0), .int i_1] : List Value).toArray below meth c H locs 0 0 (MQ below (zQ0 Γ lo S S (mcl Γ q y.2 ++ Y) (some (.int y.1)) True) ([.ref (q 0), .int i_1] : List Value).toArray s 0 0 (zA Γ)) (F0 m 15 ls [.int y4, .ref (q 0)]) := by
    intro y4 H locs ls b5 hl hW hS hm hf
    rw [ej6] at hf
    obtain ⟨r7, M9, hc8, hf⟩ := op_cl2 hf
    refine z_callV (As := [.int y4]) (rest := []) ⟨hx, hb, hml, hown, hts⟩ (tX10_refused l Γ lo S q M Y  hc8) (cwV 1 hts gX10_wanted_X10_refused rfl rfl rfl (by decide +kernel) ⟨Nat.le_of_ble_eq_true rfl, Nat.le_of_ble_eq_true rfl⟩) (wd_x hW (k := 0) rfl) rfl hKK hW hS rfl hl.1 rfl (Nat.le_of_ble_eq_true rfl) dX10_wanted_15 ⟨Nat.zero_le _, Nat.zero_le _⟩ (fun H locs hW hS hm1 hE => ?_)
    have b10 := hE
    refine lv_if_eq (tgt := 23) hx hb dX10_wanted_18 (by decide) (fun k18 => ?_) (fun k18 => ?_)
    · have hf := (op_if hf).1 k18
      refine lv_aload_n hx hb dX10_wanted_23 rfl (lv_at hl 0 rfl) ?_
      refine va_get hx hb hts ni_X10_wanted_X10 hown hKK.1 (wd_x hW (k := 0) rfl) 0 rfl rfl 50 (by decide) (hts (.fieldLink RX10 141 "TiltRouteModel" "spares" "[I") (List.mem_of_getElem? (i := 1) rfl)) (fun _ h => h) rfl dX10_wanted_24 ?_
      refine lv_iload_n hx hb dX10_wanted_27 rfl (lv_at hl 1 rfl) ?_
      obtain ⟨h28, hf⟩ := op_gd hf
      refine va_iald hx hb hKK.1 (wd_x hW (k := 44) rfl) 0 0 (n := 4) rfl rfl h28 dX10_wanted_28 ?_
      refine lv_ineg hx hb dX10_wanted_29 ?_
      refine lv_aload_n hx hb dX10_wanted_30 rfl (lv_at hl 0 rfl) ?_
      refine va_get hx hb hts ni_X10_wanted_X10 hown hKK.1 (wd_x hW (k := 0) rfl) 0 rfl rfl 50 (by decide) (hts (.fieldLink RX10 141 "TiltRouteModel" "spares" "[I") (List.mem_of_getElem? (i := 1) rfl)) (fun _ h => h) rfl dX10_wanted_31 ?_
      refine lv_iconst (v := (2)) hx hb dX10_wanted_34 (by decide) ?_
      refine lv_iload_n hx hb dX10_wanted_35 rfl (lv_at hl 1 rfl) ?_
      refine lv_iadd hx hb dX10_wanted_36 ?_
      obtain ⟨h37, hf⟩ := op_gd hf
      refine va_iald hx hb hKK.1 (wd_x hW (k := 44) rfl) 0 0 (n := 4) rfl rfl h37 dX10_wanted_37 ?_
      refine lv_isub hx hb dX10_wanted_38 ?_
      obtain ⟨x11, ex11, hf⟩ := op_st hf
      refine z_istn (lv' := [(2, .int x11), (0, .ref (q 0)), (1, .int i_1)]) ex11 hx hb dX10_wanted_39 rfl hl (by decide) rfl (fun ls hl => ?_)
      refine lv_iconst (v := (0)) hx hb dX10_wanted_40 (by decide) ?_
      obtain ⟨x12, ex12, hf⟩ := op_st hf
      have bx12 : x12 = 0 ∨ x12 = 1 := Or.inl ex12
      refine z_istn (lv' := [(3, .int x12), (2, .int x11), (0, .ref (q 0)), (1, .int i_1)]) ex12 hx hb dX10_wanted_41 rfl hl (by decide) rfl (fun ls hl => ?_)
      obtain ⟨w15, q130, ew15, eq130, hf⟩ := op_lb hf
      have hw15 : ∀ n18 : Nat, ∀ (q13 : (Int32 × Int32)) (H : Heap) (locs : List Loc) (ls : Array Slot), lv_has ls 4 [(3, .int q13.2), (2, .int q13.1), (0, .ref (q 0)), (1, .int i_1)] → Wd Γ lo S (mcl Γ q M9 ++ Y) H → va_S (zA Γ) s.heap H locs → (∀ c, zV S c = zV S c) → lp w15 n18 q13 = some y → W p l e (headSpec wsX10_wanted rmX10_wanted).room s m ([.ref (q 0), .int i_1] : List Value).toArray below meth c H locs 0 0 (MQ below (zQ0 Γ lo S S (mcl Γ q y.2 ++ Y) (some (.int y.1)) True) ([.ref (q 0), .int i_1] : List Value).toArray s 0 0 (zA Γ)) (F0 m 42 ls []) := by
        intro n18
        induction n18 with
        | zero => intro q13 H locs ls hl hW hS hm hf; cases hf
        | succ n18 ih16 =>
          intro q13 H locs ls hl hW hS hm hf
          obtain ⟨n_, r14, hn_, hf, hr17⟩ := op_lq hf
          cases hn_
          rw [ew15] at hf
          refine lv_iload_n hx hb dX10_wanted_42 rfl (lv_at hl 0 rfl) ?_
          refine lv_aload_n hx hb dX10_wanted_43 rfl (lv_at hl 2 rfl) ?_
          refine va_get hx hb hts ni_X10_wanted_X10 hown hKK.1 (wd_x hW (k := 0) rfl) 0 rfl rfl 1 (by decide) (hts (.fieldLink RX10 154 "TiltRouteModel" "tables" "I") (List.mem_of_getElem? (i := 2) rfl)) (fun _ h => h) rfl dX10_wanted_44 ?_
          refine lv_icmp_ge (tgt := 65) hx hb dX10_wanted_47 (by decide) (fun k47 => ?_) (fun k47 => ?_)
          · have hf := (op_if hf).1 k47
            refine lv_iload_n hx hb dX10_wanted_65 rfl (lv_at hl 1 rfl) ?_
            refine lv_if_ge (tgt := 73) hx hb dX10_wanted_66 (by decide) (fun k66 => ?_) (fun k66 => ?_)
            · have hf := (op_if hf).1 k66
              refine lv_iload_n hx hb dX10_wanted_73 rfl (lv_at hl 1 rfl) ?_
              have hf := zr_r hf hr17
              rw [← hf]
              exact z_iret hx hb hr hlocks rfl hW hS hm trivial dX10_wanted_74
            · have hf := (op_if hf).2 k66
              refine lv_iconst (v := (0)) hx hb dX10_wanted_69 (by decide) ?_
              refine lv_goto (tgt := 74) hx hb dX10_wanted_70 (by decide) ?_
              have hf := zr_r hf hr17
              rw [← hf]
              exact z_iret hx hb hr hlocks rfl hW hS hm trivial dX10_wanted_74
          · have hf := (op_if hf).2 k47
            refine lv_iload_n hx hb dX10_wanted_50 rfl (lv_at hl 1 rfl) ?_
            refine lv_aload_n hx hb dX10_wanted_51 rfl (lv_at hl 2 rfl) ?_
            refine lv_iload_n hx hb dX10_wanted_52 rfl (lv_at hl 0 rfl) ?_
            refine lv_iload_n hx hb dX10_wanted_53 rfl (lv_at hl 3 rfl) ?_
            obtain ⟨r19, hc20, hf⟩ := op_cl hf
            refine z_callV (As := [.int q13.2, .int i_1]) (rest := [.int q13.1]) ⟨hx, hb, hml, hown, hts⟩ (tX10_bad l Γ lo S q M9 Y  hc20) (cwV 2 hts gX10_wanted_X10_bad rfl rfl rfl (by decide +kernel) ⟨Nat.le_of_ble_eq_true rfl, Nat.le_of_ble_eq_true rfl⟩) (wd_x hW (k := 0) rfl) rfl hKK hW hS rfl hl.1 rfl (Nat.le_of_ble_eq_true rfl) dX10_wanted_54 ⟨Nat.zero_le _, Nat.zero_le _⟩ (fun H locs hW hS hm1 hE => ?_)
            refine lv_iadd hx hb dX10_wanted_57 ?_
            obtain ⟨x21, ex21, hf⟩ := op_st hf
            refine z_istn (lv' := [(2, .int x21), (3, .int q13.2), (0, .ref (q 0)), (1, .int i_1)]) ex21 hx hb dX10_wanted_58 rfl hl (by decide) rfl (fun ls hl => ?_)
            obtain ⟨x22, ex22, hf⟩ := op_st hf
            refine lv_iinc (v := x22) (lv' := [(3, .int x22), (2, .int x21), (0, .ref (q 0)), (1, .int i_1)]) hx hb dX10_wanted_59 hl (k := 1) rfl (by rw [ex22]; rfl) (by decide) rfl (fun ls hl => ?_)
            refine lv_goto (tgt := 42) hx hb dX10_wanted_62 (by decide) ?_
            have hf := zr_l hf hr17
            exact ih16 (x21, x22) H locs ls (lv_sub hl [0, 1, 2, 3] rfl) hW hS hm hf
      rw [eq130] at hf
      exact hw15 _ (x11, x12) H locs ls (lv_sub hl [0, 1, 2, 3] rfl) hW hS hm hf
    · have hf := (op_if hf).2 k18
      refine lv_iconst (v := (0)) hx hb dX10_wanted_21 (by decide) ?_
      have hf := Option.some.inj hf
      rw [← hf]
      exact z_iret hx hb hr hlocks rfl hW hS hm trivial dX10_wanted_22
  refine lv_if_eq (tgt := 14) hx hb dX10_wanted_7 (by decide) (fun k7 => ?_) (fun k7 => ?_)
  · have hf := (op_if hf).1 k7
    refine lv_iconst (v := (1)) hx hb dX10_wanted_14 (by decide) ?_
    exact hj6 (1 : Int32) H locs ls (Or.inr rfl) (lv_sub hl [0, 1] rfl) hW hS hm hf
  · have hf := (op_if hf).2 k7
    refine lv_iconst (v := (0)) hx hb dX10_wanted_10 (by decide) ?_
    refine lv_goto (tgt := 15) hx hb dX10_wanted_11 (by decide) ?_
    exact hj6 (0 : Int32) H locs ls (Or.inl rfl) (lv_sub hl [0, 1] rfl) hW hS hm hf

theorem ni_X10_needsService_X10 : ∀ w ∈ wsX100, w ∈ wsX10_needsService := by decide +kernel
def fX10_needsService (M : zMs) (i_1 : Int32) : Option Int32 :=
cl (fX10_isFree M i_1) fun r1 =>
st (fun (u_ : Unit) => (some ((0 : Int32)) : Option Int32)) fun j4 =>
if r1 = 0 then
j4 ()
else
gd (¬ (i_1 < 0 ∨ 6 ≤ i_1.toNatClampNeg)) (
st (fun (u_ : Unit) => (some ((1 : Int32)) : Option Int32)) fun j5 =>
if (20 : Int32) ≤ (M 4 i_1.toNatClampNeg) then
j5 ()
else
cl (fX10_bad M i_1 (0 : Int32)) fun r6 =>
if 0 < r6 then
j5 ()
else
cl (fX10_bad M i_1 (1 : Int32)) fun r8 =>
if r8 ≤ 0 then
j4 ()
else
j5 ())
abbrev rmX10_needsService : Room := { frames := 2, cells := 0, slots := 0, locals := 46 }
set_option maxHeartbeats 4000000 in
set_option maxRecDepth 100000 in
theorem tX10_needsService (l : Launch) (Γ : zG) (lo : zId → Nat) (S : zSt) (q : Nat → Nat) (M : zMs) (Y : va_W) {i_1 : Int32}  {y : Int32} (hf : fX10_needsService M i_1 = some y) : Met l yX10_needsService wsX10_needsService rmX10_needsService (zP0 Γ lo S (mcl Γ q M ++ Y) [.ref (q 0), .int i_1]) (zQ0 Γ lo S S (mcl Γ q M ++ Y) (some (.int y)) (y = 0 ∨ y = 1)) 0 0 (zA Γ) := by
  refine Met.ofW (cc := cX10_needsService) (maxL := 2) (ret := (some .boolean)) (by decide) rfl ?_
  intro p e s m args below meth c s₁ B hml hv
  obtain ⟨rfl, hW, hKK⟩ := hv
  have hx := B.exec
  have hb := B.bytes
  have hr := B.returns
  have hts := atoms_spec (ws := wsX10_needsService) B.pre
  have hown : s.vm.findClass RX10 = some m.cls := findClass_of_methodNamed B.named
  have hlocks := B.notSynchronized
  have hS : va_S (zA Γ) s.heap s.heap [] := va_S.rf
  have hm : ∀ c, zV S c = zV S c := fun _ => rfl
  have hl := lv_entry ([.ref (q 0), .int i_1]) (n := 2) (Nat.le_of_ble_eq_true rfl)
  rw [lg_entry_eq]
  generalize (lg_sl ([.ref (q 0), .int i_1]) ++ List.replicate (2 - (lg_sl ([.ref (q 0), .int i_1])).length) Slot.unset).toArray = ls at hl ⊢
  have hl : lv_has ls 2 [(0, .ref (q 0)), (1, .int i_1)] := hl
  obtain ⟨H, hH0⟩ : ∃ H, H = s.heap := ⟨_, rfl⟩
  obtain ⟨locs, hlo0⟩ : ∃ L : List Loc, L = [] := ⟨_, rfl⟩
  have hS : va_S (zA Γ) s.heap H locs := by rw [hH0, hlo0]; exact hS
  have hW : Wd Γ lo S (mcl Γ q M ++ Y) H := by rw [hH0]; exact hW
  rw [← hH0, ← hlo0]
  unfold fX10_needsService at hf
  refine lv_aload_n hx hb dX10_needsService_0 rfl (lv_at hl 0 rfl) ?_
  refine lv_iload_n hx hb dX10_needsService_1 rfl (lv_at hl 1 rfl) ?_
  obtain ⟨r1, hc2, hf⟩ := op_cl hf
  refine z_callV (As := [.int i_1]) (rest := []) ⟨hx, hb, hml, hown, hts⟩ (tX10_isFree l Γ lo S q M Y  hc2) (cwV 1 hts gX10_needsService_X10_isFree rfl rfl rfl (by decide +kernel) ⟨Nat.le_of_ble_eq_true rfl, Nat.le_of_ble_eq_true rfl⟩) (wd_x hW (k := 0) rfl) rfl hKK hW hS rfl hl.1 rfl (Nat.le_of_ble_eq_true rfl) dX10_needsService_2 ⟨Nat.zero_le _, Nat.zero_le _⟩ (fun H locs hW hS hm1 hE => ?_)
  have b3 := hE
  obtain ⟨j4, ej4, hf⟩ := op_st hf
  have hj4 : ∀ (u_ : Unit) (H : Heap) (locs : List Loc) (ls : Array Slot), lv_has ls 2 [] → Wd Γ lo S (mcl Γ q M ++ Y) H → va_S (zA Γ) s.heap H locs → (∀ c, zV S c = zV S c) → j4 () = some y → W p l e (headSpec wsX10_needsService rmX10_needsService).room s m ([.ref (q 0), .int i_1] : List Value).toArray below meth c H locs 0 0 (MQ below (zQ0 Γ lo S S (mcl Γ q M ++ Y) (some (.int y)) (y = 0 ∨ y = 1)) ([.ref (q 0), .int i_1] : List Value).toArray s 0 0 (zA Γ)) (F0 m 41 ls []) := by
    intro u_ H locs ls  hl hW hS hm hf
    rw [ej4] at hf
    refine lv_iconst (v := (0)) hx hb dX10_needsService_41 (by decide) ?_
    have hf := Option.some.inj hf
    rw [← hf]
    exact z_iret hx hb hr hlocks (z_bb (Or.inl rfl)) hW hS hm (Or.inl rfl) dX10_needsService_42
  refine lv_if_eq (tgt := 41) hx hb dX10_needsService_5 (by decide) (fun k5 => ?_) (fun k5 => ?_)
  · have hf := (op_if hf).1 k5
    exact hj4 () H locs ls  (lv_sub hl [] rfl) hW hS hm hf
  · have hf := (op_if hf).2 k5
    refine lv_aload_n hx hb dX10_needsService_8 rfl (lv_at hl 0 rfl) ?_
    refine va_get hx hb hts ni_X10_needsService_X10 hown hKK.1 (wd_x hW (k := 0) rfl) 0 rfl rfl 4 (by decide) (hts (.fieldLink RX10 16 "TiltRouteModel" "boxes" "[I") (List.mem_of_getElem? (i := 1) rfl)) (fun _ h => h) rfl dX10_needsService_9 ?_
    refine lv_iload_n hx hb dX10_needsService_12 rfl (lv_at hl 1 rfl) ?_
    obtain ⟨h13, hf⟩ := op_gd hf
    refine va_iald hx hb hKK.1 (wd_x hW (k := 3) rfl) 0 0 (n := 6) rfl rfl h13 dX10_needsService_13 ?_
    refine lv_bipush (v := (20)) hx hb dX10_needsService_14 (by decide) ?_
    obtain ⟨j5, ej5, hf⟩ := op_st hf
    have hj5 : ∀ (u_ : Unit) (H : Heap) (locs : List Loc) (ls : Array Slot), lv_has ls 2 [] → Wd Γ lo S (mcl Γ q M ++ Y) H → va_S (zA Γ) s.heap H locs → (∀ c, zV S c = zV S c) → j5 () = some y → W p l e (headSpec wsX10_needsService rmX10_needsService).room s m ([.ref (q 0), .int i_1] : List Value).toArray below meth c H locs 0 0 (MQ below (zQ0 Γ lo S S (mcl Γ q M ++ Y) (some (.int y)) (y = 0 ∨ y = 1)) ([.ref (q 0), .int i_1] : List Value).toArray s 0 0 (zA Γ)) (F0 m 37 ls []) := by
      intro u_ H locs ls  hl hW hS hm hf
      rw [ej5] at hf
      refine lv_iconst (v := (1)) hx hb dX10_needsService_37 (by decide) ?_
      refine lv_goto (tgt := 42) hx hb dX10_needsService_38 (by decide) ?_
      have hf := Option.some.inj hf
      rw [← hf]
      exact z_iret hx hb hr hlocks (z_bb (Or.inr rfl)) hW hS hm (Or.inr rfl) dX10_needsService_42
    refine lv_icmp_ge (tgt := 37) hx hb dX10_needsService_16 (by decide) (fun k16 => ?_) (fun k16 => ?_)
    · have hf := (op_if hf).1 k16
      exact hj5 () H locs ls  (lv_sub hl [] rfl) hW hS hm hf
    · have hf := (op_if hf).2 k16
      refine lv_aload_n hx hb dX10_needsService_19 rfl (lv_at hl 0 rfl) ?_
      refine lv_iload_n hx hb dX10_needsService_20 rfl (lv_at hl 1 rfl) ?_
      refine lv_iconst (v := (0)) hx hb dX10_needsService_21 (by decide) ?_
      obtain ⟨r6, hc7, hf⟩ := op_cl hf
      refine z_callV (As := [.int i_1, .int (0 : Int32)]) (rest := []) ⟨hx, hb, hml, hown, hts⟩ (tX10_bad l Γ lo S q M Y  hc7) (cwV 2 hts gX10_needsService_X10_bad rfl rfl rfl (by decide +kernel) ⟨Nat.le_of_ble_eq_true rfl, Nat.le_of_ble_eq_true rfl⟩) (wd_x hW (k := 0) rfl) rfl hKK hW hS rfl hl.1 rfl (Nat.le_of_ble_eq_true rfl) dX10_needsService_22 ⟨Nat.zero_le _, Nat.zero_le _⟩ (fun H locs hW hS hm1 hE => ?_)
      refine lv_if_gt (tgt := 37) hx hb dX10_needsService_25 (by decide) (fun k25 => ?_) (fun k25 => ?_)
      · have hf := (op_if hf).1 k25
        exact hj5 () H locs ls  (lv_sub hl [] rfl) hW hS hm hf
      · have hf := (op_if hf).2 k25
        refine lv_aload_n hx hb dX10_needsService_28 rfl (lv_at hl 0 rfl) ?_
        refine lv_iload_n hx hb dX10_needsService_29 rfl (lv_at hl 1 rfl) ?_
        refine lv_iconst (v := (1)) hx hb dX10_needsService_30 (by decide) ?_
        obtain ⟨r8, hc9, hf⟩ := op_cl hf
        refine z_callV (As := [.int i_1, .int (1 : Int32)]) (rest := []) ⟨hx, hb, hml, hown, hts⟩ (tX10_bad l Γ lo S q M Y  hc9) (cwV 2 hts gX10_needsService_X10_bad rfl rfl rfl (by decide +kernel) ⟨Nat.le_of_ble_eq_true rfl, Nat.le_of_ble_eq_true rfl⟩) (wd_x hW (k := 0) rfl) rfl hKK hW hS rfl hl.1 rfl (Nat.le_of_ble_eq_true rfl) dX10_needsService_31 ⟨Nat.zero_le _, Nat.zero_le _⟩ (fun H locs hW hS hm1 hE => ?_)
        refine lv_if_le (tgt := 41) hx hb dX10_needsService_34 (by decide) (fun k34 => ?_) (fun k34 => ?_)
        · have hf := (op_if hf).1 k34
          exact hj4 () H locs ls  (lv_sub hl [] rfl) hW hS hm hf
        · have hf := (op_if hf).2 k34
          exact hj5 () H locs ls  (lv_sub hl [] rfl) hW hS hm hf

def fX10_far (M : zMs) (i_1 : Int32) (i_2 : Int32) : Option Int32 :=
if i_2 ≤ i_1 then
some ((i_1 - i_2))
else
some ((i_2 - i_1))
abbrev rmX10_far : Room := { frames := 0, cells := 0, slots := 0, locals := 0 }
set_option maxHeartbeats 4000000 in
set_option maxRecDepth 100000 in
theorem tX10_far (l : Launch) (Γ : zG) (lo : zId → Nat) (S : zSt) (q : Nat → Nat) (M : zMs) (Y : va_W) {i_1 : Int32} {i_2 : Int32}  {y : Int32} (hf : fX10_far M i_1 i_2 = some y) : Met l yX10_far wsX10_far rmX10_far (zP0 Γ lo S (mcl Γ q M ++ Y) [.int i_1, .int i_2]) (zQ0 Γ lo S S (mcl Γ q M ++ Y) (some (.int y)) True) 0 0 (zA Γ) := by
  refine Met.ofW (cc := cX10_far) (maxL := 2) (ret := (some .int)) (by decide) rfl ?_
  intro p e s m args below meth c s₁ B hml hv
  obtain ⟨rfl, hW, hKK⟩ := hv
  have hx := B.exec
  have hb := B.bytes
  have hr := B.returns
  have hts := atoms_spec (ws := wsX10_far) B.pre
  have hown : s.vm.findClass RX10 = some m.cls := findClass_of_methodNamed B.named
  have hlocks := B.notSynchronized
  have hS : va_S (zA Γ) s.heap s.heap [] := va_S.rf
  have hm : ∀ c, zV S c = zV S c := fun _ => rfl
  have hl := lv_entry ([.int i_1, .int i_2]) (n := 2) (Nat.le_of_ble_eq_true rfl)
  rw [lg_entry_eq]
  generalize (lg_sl ([.int i_1, .int i_2]) ++ List.replicate (2 - (lg_sl ([.int i_1, .int i_2])).length) Slot.unset).toArray = ls at hl ⊢
  have hl : lv_has ls 2 [(0, .int i_1), (1, .int i_2)] := hl
  obtain ⟨H, hH0⟩ : ∃ H, H = s.heap := ⟨_, rfl⟩
  obtain ⟨locs, hlo0⟩ : ∃ L : List Loc, L = [] := ⟨_, rfl⟩
  have hS : va_S (zA Γ) s.heap H locs := by rw [hH0, hlo0]; exact hS
  have hW : Wd Γ lo S (mcl Γ q M ++ Y) H := by rw [hH0]; exact hW
  rw [← hH0, ← hlo0]
  unfold fX10_far at hf
  refine lv_iload_n hx hb dX10_far_0 rfl (lv_at hl 0 rfl) ?_
  refine lv_iload_n hx hb dX10_far_1 rfl (lv_at hl 1 rfl) ?_
  refine lv_icmp_ge (tgt := 11) hx hb dX10_far_2 (by decide) (fun k2 => ?_) (fun k2 => ?_)
  · have hf := (op_if hf).1 k2
    refine lv_iload_n hx hb dX10_far_11 rfl (lv_at hl 0 rfl) ?_
    refine lv_iload_n hx hb dX10_far_12 rfl (lv_at hl 1 rfl) ?_
    refine lv_isub hx hb dX10_far_13 ?_
    have hf := Option.some.inj hf
    rw [← hf]
    exact z_iret hx hb hr hlocks rfl hW hS hm trivial dX10_far_14
  · have hf := (op_if hf).2 k2
    refine lv_iload_n hx hb dX10_far_5 rfl (lv_at hl 1 rfl) ?_
    refine lv_iload_n hx hb dX10_far_6 rfl (lv_at hl 0 rfl) ?_
    refine lv_isub hx hb dX10_far_7 ?_
    refine lv_goto (tgt := 14) hx hb dX10_far_8 (by decide) ?_
    have hf := Option.some.inj hf
    rw [← hf]
    exact z_iret hx hb hr hlocks rfl hW hS hm trivial dX10_far_14

theorem ni_X10_lengthOf_X10 : ∀ w ∈ wsX100, w ∈ wsX10_lengthOf := by decide +kernel
def fX10_lengthOf (M : zMs) (i_1 : Int32) : Option Int32 :=
st (0 : Int32) fun x1 =>
gd (¬ (i_1 < 0 ∨ 2 ≤ i_1.toNatClampNeg)) (
st (M 49 i_1.toNatClampNeg) fun x2 =>
st (0 : Int32) fun x3 =>
lp (fun (q4 : (Int32 × Int32 × Int32)) => (if (M 51 0) ≤ q4.2.2 then
some (.inr (q4.1))
else
gd (¬ (q4.2.2 < 0 ∨ 6 ≤ q4.2.2.toNatClampNeg)) (
gd (¬ ((M 52 q4.2.2.toNatClampNeg) < 0 ∨ 6 ≤ (M 52 q4.2.2.toNatClampNeg).toNatClampNeg)) (
cl (fX10_far M q4.2.1 (M 2 (M 52 q4.2.2.toNatClampNeg).toNatClampNeg)) fun r10 =>
st (q4.1 + r10) fun x12 =>
gd (¬ (q4.2.2 < 0 ∨ 6 ≤ q4.2.2.toNatClampNeg)) (
gd (¬ ((M 52 q4.2.2.toNatClampNeg) < 0 ∨ 6 ≤ (M 52 q4.2.2.toNatClampNeg).toNatClampNeg)) (
st (M 2 (M 52 q4.2.2.toNatClampNeg).toNatClampNeg) fun x13 =>
st (q4.2.2 + (1 : Int32)) fun x14 =>
some (.inl (x12, x13, x14)))))) : Option ((Int32 × Int32 × Int32) ⊕ Int32))) 40000 (x1, x2, x3))
abbrev rmX10_lengthOf : Room := { frames := 1, cells := 0, slots := 0, locals := 21 }
set_option maxHeartbeats 4000000 in
set_option maxRecDepth 100000 in
theorem tX10_lengthOf (l : Launch) (Γ : zG) (lo : zId → Nat) (S : zSt) (q : Nat → Nat) (M : zMs) (Y : va_W) {i_1 : Int32}  {y : Int32} (hf : fX10_lengthOf M i_1 = some y) : Met l yX10_lengthOf wsX10_lengthOf rmX10_lengthOf (zP0 Γ lo S (mcl Γ q M ++ Y) [.ref (q 0), .int i_1]) (zQ0 Γ lo S S (mcl Γ q M ++ Y) (some (.int y)) True) 0 0 (zA Γ) := by
  refine Met.ofW (cc := cX10_lengthOf) (maxL := 5) (ret := (some .int)) (by decide) rfl ?_
  intro p e s m args below meth c s₁ B hml hv
  obtain ⟨rfl, hW, hKK⟩ := hv
  have hx := B.exec
  have hb := B.bytes
  have hr := B.returns
  have hts := atoms_spec (ws := wsX10_lengthOf) B.pre
  have hown : s.vm.findClass RX10 = some m.cls := findClass_of_methodNamed B.named
  have hlocks := B.notSynchronized
  have hS : va_S (zA Γ) s.heap s.heap [] := va_S.rf
  have hm : ∀ c, zV S c = zV S c := fun _ => rfl
  have hl := lv_entry ([.ref (q 0), .int i_1]) (n := 5) (Nat.le_of_ble_eq_true rfl)
  rw [lg_entry_eq]
  generalize (lg_sl ([.ref (q 0), .int i_1]) ++ List.replicate (5 - (lg_sl ([.ref (q 0), .int i_1])).length) Slot.unset).toArray = ls at hl ⊢
  have hl : lv_has ls 5 [(0, .ref (q 0)), (1, .int i_1)] := hl
  obtain ⟨H, hH0⟩ : ∃ H, H = s.heap := ⟨_, rfl⟩
  obtain ⟨locs, hlo0⟩ : ∃ L : List Loc, L = [] := ⟨_, rfl⟩
  have hS : va_S (zA Γ) s.heap H locs := by rw [hH0, hlo0]; exact hS
  have hW : Wd Γ lo S (mcl Γ q M ++ Y) H := by rw [hH0]; exact hW
  rw [← hH0, ← hlo0]
  unfold fX10_lengthOf at hf
  refine lv_iconst (v := (0)) hx hb dX10_lengthOf_0 (by decide) ?_
  obtain ⟨x1, ex1, hf⟩ := op_st hf
  have bx1 : x1 = 0 ∨ x1 = 1 := Or.inl ex1
  refine z_istn (lv' := [(2, .int x1), (0, .ref (q 0)), (1, .int i_1)]) ex1 hx hb dX10_lengthOf_1 rfl hl (by decide) rfl (fun ls hl => ?_)
  refine lv_aload_n hx hb dX10_lengthOf_2 rfl (lv_at hl 1 rfl) ?_
  refine va_get hx hb hts ni_X10_lengthOf_X10 hown hKK.1 (wd_x hW (k := 0) rfl) 0 rfl rfl 49 (by decide) (hts (.fieldLink RX10 138 "TiltRouteModel" "vanSites" "[I") (List.mem_of_getElem? (i := 1) rfl)) (fun _ h => h) rfl dX10_lengthOf_3 ?_
  refine lv_iload_n hx hb dX10_lengthOf_6 rfl (lv_at hl 2 rfl) ?_
  obtain ⟨h7, hf⟩ := op_gd hf
  refine va_iald hx hb hKK.1 (wd_x hW (k := 43) rfl) 0 0 (n := 2) rfl rfl h7 dX10_lengthOf_7 ?_
  obtain ⟨x2, ex2, hf⟩ := op_st hf
  refine z_istn (lv' := [(3, .int x2), (2, .int x1), (0, .ref (q 0)), (1, .int i_1)]) ex2 hx hb dX10_lengthOf_8 rfl hl (by decide) rfl (fun ls hl => ?_)
  refine lv_iconst (v := (0)) hx hb dX10_lengthOf_9 (by decide) ?_
  obtain ⟨x3, ex3, hf⟩ := op_st hf
  have bx3 : x3 = 0 ∨ x3 = 1 := Or.inl ex3
  refine z_ist (lv' := [(4, .int x3), (3, .int x2), (2, .int x1), (0, .ref (q 0)), (1, .int i_1)]) ex3 hx hb dX10_lengthOf_10 hl (by decide) rfl (fun ls hl => ?_)
  obtain ⟨w6, q40, ew6, eq40, hf⟩ := op_lb hf
  have hw6 : ∀ n9 : Nat, ∀ (q4 : (Int32 × Int32 × Int32)) (H : Heap) (locs : List Loc) (ls : Array Slot), lv_has ls 5 [(4, .int q4.2.2), (3, .int q4.2.1), (2, .int q4.1), (0, .ref (q 0))] → Wd Γ lo S (mcl Γ q M ++ Y) H → va_S (zA Γ) s.heap H locs → (∀ c, zV S c = zV S c) → lp w6 n9 q4 = some y → W p l e (headSpec wsX10_lengthOf rmX10_lengthOf).room s m ([.ref (q 0), .int i_1] : List Value).toArray below meth c H locs 0 0 (MQ below (zQ0 Γ lo S S (mcl Γ q M ++ Y) (some (.int y)) True) ([.ref (q 0), .int i_1] : List Value).toArray s 0 0 (zA Γ)) (F0 m 12 ls []) := by
    intro n9
    induction n9 with
    | zero => intro q4 H locs ls hl hW hS hm hf; cases hf
    | succ n9 ih7 =>
      intro q4 H locs ls hl hW hS hm hf
      obtain ⟨n_, r5, hn_, hf, hr8⟩ := op_lq hf
      cases hn_
      rw [ew6] at hf
      refine lv_iload hx hb dX10_lengthOf_12 (lv_at hl 0 rfl) ?_
      refine lv_aload_n hx hb dX10_lengthOf_14 rfl (lv_at hl 3 rfl) ?_
      refine va_get hx hb hts ni_X10_lengthOf_X10 hown hKK.1 (wd_x hW (k := 0) rfl) 0 rfl rfl 51 (by decide) (hts (.fieldLink RX10 266 "TiltRouteModel" "planned" "I") (List.mem_of_getElem? (i := 2) rfl)) (fun _ h => h) rfl dX10_lengthOf_15 ?_
      refine lv_icmp_ge (tgt := 59) hx hb dX10_lengthOf_18 (by decide) (fun k18 => ?_) (fun k18 => ?_)
      · have hf := (op_if hf).1 k18
        refine lv_iload_n hx hb dX10_lengthOf_59 rfl (lv_at hl 2 rfl) ?_
        have hf := zr_r hf hr8
        rw [← hf]
        exact z_iret hx hb hr hlocks rfl hW hS hm trivial dX10_lengthOf_60
      · have hf := (op_if hf).2 k18
        refine lv_iload_n hx hb dX10_lengthOf_21 rfl (lv_at hl 2 rfl) ?_
        refine lv_iload_n hx hb dX10_lengthOf_22 rfl (lv_at hl 1 rfl) ?_
        refine lv_aload_n hx hb dX10_lengthOf_23 rfl (lv_at hl 3 rfl) ?_
        refine va_get hx hb hts ni_X10_lengthOf_X10 hown hKK.1 (wd_x hW (k := 0) rfl) 0 rfl rfl 2 (by decide) (hts (.fieldLink RX10 7 "TiltRouteModel" "sites" "[I") (List.mem_of_getElem? (i := 3) rfl)) (fun _ h => h) rfl dX10_lengthOf_24 ?_
        refine lv_aload_n hx hb dX10_lengthOf_27 rfl (lv_at hl 3 rfl) ?_
        refine va_get hx hb hts ni_X10_lengthOf_X10 hown hKK.1 (wd_x hW (k := 0) rfl) 0 rfl rfl 52 (by decide) (hts (.fieldLink RX10 144 "TiltRouteModel" "order" "[I") (List.mem_of_getElem? (i := 4) rfl)) (fun _ h => h) rfl dX10_lengthOf_28 ?_
        refine lv_iload hx hb dX10_lengthOf_31 (lv_at hl 0 rfl) ?_
        obtain ⟨h33, hf⟩ := op_gd hf
        refine va_iald hx hb hKK.1 (wd_x hW (k := 45) rfl) 0 0 (n := 6) rfl rfl h33 dX10_lengthOf_33 ?_
        obtain ⟨h34, hf⟩ := op_gd hf
        refine va_iald hx hb hKK.1 (wd_x hW (k := 1) rfl) 0 0 (n := 6) rfl rfl h34 dX10_lengthOf_34 ?_
        obtain ⟨r10, hc11, hf⟩ := op_cl hf
        refine z_callS (As := [.int q4.2.1, .int (M 2 (M 52 q4.2.2.toNatClampNeg).toNatClampNeg)]) (rest := [.int q4.1]) ⟨hx, hb, hml, hown, hts⟩ (tX10_far l Γ lo S q M Y  hc11) (va_cwS 2 hts gX10_lengthOf_X10_far rfl rfl rfl (by decide +kernel) ⟨Nat.le_of_ble_eq_true rfl, Nat.le_of_ble_eq_true rfl⟩) hKK hW hS rfl hl.1 rfl (Nat.le_of_ble_eq_true rfl) dX10_lengthOf_35 ⟨Nat.zero_le _, Nat.zero_le _⟩ (fun H locs hW hS hm1 hE => ?_)
        refine lv_iadd hx hb dX10_lengthOf_38 ?_
        obtain ⟨x12, ex12, hf⟩ := op_st hf
        refine z_istn (lv' := [(2, .int x12), (4, .int q4.2.2), (3, .int q4.2.1), (0, .ref (q 0))]) ex12 hx hb dX10_lengthOf_39 rfl hl (by decide) rfl (fun ls hl => ?_)
        refine lv_aload_n hx hb dX10_lengthOf_40 rfl (lv_at hl 3 rfl) ?_
        refine va_get hx hb hts ni_X10_lengthOf_X10 hown hKK.1 (wd_x hW (k := 0) rfl) 0 rfl rfl 2 (by decide) (hts (.fieldLink RX10 7 "TiltRouteModel" "sites" "[I") (List.mem_of_getElem? (i := 3) rfl)) (fun _ h => h) rfl dX10_lengthOf_41 ?_
        refine lv_aload_n hx hb dX10_lengthOf_44 rfl (lv_at hl 3 rfl) ?_
        refine va_get hx hb hts ni_X10_lengthOf_X10 hown hKK.1 (wd_x hW (k := 0) rfl) 0 rfl rfl 52 (by decide) (hts (.fieldLink RX10 144 "TiltRouteModel" "order" "[I") (List.mem_of_getElem? (i := 4) rfl)) (fun _ h => h) rfl dX10_lengthOf_45 ?_
        refine lv_iload hx hb dX10_lengthOf_48 (lv_at hl 1 rfl) ?_
        obtain ⟨h50, hf⟩ := op_gd hf
        refine va_iald hx hb hKK.1 (wd_x hW (k := 45) rfl) 0 0 (n := 6) rfl rfl h50 dX10_lengthOf_50 ?_
        obtain ⟨h51, hf⟩ := op_gd hf
        refine va_iald hx hb hKK.1 (wd_x hW (k := 1) rfl) 0 0 (n := 6) rfl rfl h51 dX10_lengthOf_51 ?_
        obtain ⟨x13, ex13, hf⟩ := op_st hf
        refine z_istn (lv' := [(3, .int x13), (2, .int x12), (4, .int q4.2.2), (0, .ref (q 0))]) ex13 hx hb dX10_lengthOf_52 rfl hl (by decide) rfl (fun ls hl => ?_)
        obtain ⟨x14, ex14, hf⟩ := op_st hf
        refine lv_iinc (v := x14) (lv' := [(4, .int x14), (3, .int x13), (2, .int x12), (0, .ref (q 0))]) hx hb dX10_lengthOf_53 hl (k := 2) rfl (by rw [ex14]; rfl) (by decide) rfl (fun ls hl => ?_)
        refine lv_goto (tgt := 12) hx hb dX10_lengthOf_56 (by decide) ?_
        have hf := zr_l hf hr8
        exact ih7 (x12, x13, x14) H locs ls (lv_sub hl [0, 1, 2, 3] rfl) hW hS hm hf
  rw [eq40] at hf
  exact hw6 _ (x1, x2, x3) H locs ls (lv_sub hl [0, 1, 2, 3] rfl) hW hS hm hf

theorem ni_X10_swap_X10 : ∀ w ∈ wsX100, w ∈ wsX10_swap := by decide +kernel
def fX10_swap (M : zMs) (i_1 : Int32) (i_2 : Int32) : Option zMs :=
gd (¬ (i_1 < 0 ∨ 6 ≤ i_1.toNatClampNeg)) (
st (M 52 i_1.toNatClampNeg) fun x1 =>
gd (¬ (i_2 < 0 ∨ 6 ≤ i_2.toNatClampNeg)) (
gd (¬ (i_1 < 0 ∨ 6 ≤ i_1.toNatClampNeg)) (
st (pM M 52 i_1.toNatClampNeg (M 52 i_2.toNatClampNeg)) fun M2 =>
gd (¬ (i_2 < 0 ∨ 6 ≤ i_2.toNatClampNeg)) (
st (pM M2 52 i_2.toNatClampNeg x1) fun M3 =>
some (M3)))))
abbrev rmX10_swap : Room := { frames := 0, cells := 0, slots := 0, locals := 0 }
set_option maxHeartbeats 4000000 in
set_option maxRecDepth 100000 in
theorem tX10_swap (l : Launch) (Γ : zG) (lo : zId → Nat) (S : zSt) (q : Nat → Nat) (M : zMs) (Y : va_W) {i_1 : Int32} {i_2 : Int32}  {y : zMs} (hf : fX10_swap M i_1 i_2 = some y) : Met l yX10_swap wsX10_swap rmX10_swap (zP0 Γ lo S (mcl Γ q M ++ Y) [.ref (q 0), .int i_1, .int i_2]) (zQ0 Γ lo S S (mcl Γ q y ++ Y) none True) 0 0 (zA Γ) := by
  refine Met.ofW (cc := cX10_swap) (maxL := 4) (ret := none) (by decide) rfl ?_
  intro p e s m args below meth c s₁ B hml hv
  obtain ⟨rfl, hW, hKK⟩ := hv
  have hx := B.exec
  have hb := B.bytes
  have hr := B.returns
  have hts := atoms_spec (ws := wsX10_swap) B.pre
  have hown : s.vm.findClass RX10 = some m.cls := findClass_of_methodNamed B.named
  have hlocks := B.notSynchronized
  have hS : va_S (zA Γ) s.heap s.heap [] := va_S.rf
  have hm : ∀ c, zV S c = zV S c := fun _ => rfl
  have hl := lv_entry ([.ref (q 0), .int i_1, .int i_2]) (n := 4) (Nat.le_of_ble_eq_true rfl)
  rw [lg_entry_eq]
  generalize (lg_sl ([.ref (q 0), .int i_1, .int i_2]) ++ List.replicate (4 - (lg_sl ([.ref (q 0), .int i_1, .int i_2])).length) Slot.unset).toArray = ls at hl ⊢
  have hl : lv_has ls 4 [(0, .ref (q 0)), (1, .int i_1), (2, .int i_2)] := hl
  obtain ⟨H, hH0⟩ : ∃ H, H = s.heap := ⟨_, rfl⟩
  obtain ⟨locs, hlo0⟩ : ∃ L : List Loc, L = [] := ⟨_, rfl⟩
  have hS : va_S (zA Γ) s.heap H locs := by rw [hH0, hlo0]; exact hS
  have hW : Wd Γ lo S (mcl Γ q M ++ Y) H := by rw [hH0]; exact hW
  rw [← hH0, ← hlo0]
  unfold fX10_swap at hf
  refine lv_aload_n hx hb dX10_swap_0 rfl (lv_at hl 0 rfl) ?_
  refine va_get hx hb hts ni_X10_swap_X10 hown hKK.1 (wd_x hW (k := 0) rfl) 0 rfl rfl 52 (by decide) (hts (.fieldLink RX10 144 "TiltRouteModel" "order" "[I") (List.mem_of_getElem? (i := 1) rfl)) (fun _ h => h) rfl dX10_swap_1 ?_
  refine lv_iload_n hx hb dX10_swap_4 rfl (lv_at hl 1 rfl) ?_
  obtain ⟨h5, hf⟩ := op_gd hf
  refine va_iald hx hb hKK.1 (wd_x hW (k := 45) rfl) 0 0 (n := 6) rfl rfl h5 dX10_swap_5 ?_
  obtain ⟨x1, ex1, hf⟩ := op_st hf
  refine z_istn (lv' := [(3, .int x1), (0, .ref (q 0)), (1, .int i_1), (2, .int i_2)]) ex1 hx hb dX10_swap_6 rfl hl (by decide) rfl (fun ls hl => ?_)
  refine lv_aload_n hx hb dX10_swap_7 rfl (lv_at hl 1 rfl) ?_
  refine va_get hx hb hts ni_X10_swap_X10 hown hKK.1 (wd_x hW (k := 0) rfl) 0 rfl rfl 52 (by decide) (hts (.fieldLink RX10 144 "TiltRouteModel" "order" "[I") (List.mem_of_getElem? (i := 1) rfl)) (fun _ h => h) rfl dX10_swap_8 ?_
  refine lv_iload_n hx hb dX10_swap_11 rfl (lv_at hl 2 rfl) ?_
  refine lv_aload_n hx hb dX10_swap_12 rfl (lv_at hl 1 rfl) ?_
  refine va_get hx hb hts ni_X10_swap_X10 hown hKK.1 (wd_x hW (k := 0) rfl) 0 rfl rfl 52 (by decide) (hts (.fieldLink RX10 144 "TiltRouteModel" "order" "[I") (List.mem_of_getElem? (i := 1) rfl)) (fun _ h => h) rfl dX10_swap_13 ?_
  refine lv_iload_n hx hb dX10_swap_16 rfl (lv_at hl 3 rfl) ?_
  obtain ⟨h17, hf⟩ := op_gd hf
  refine va_iald hx hb hKK.1 (wd_x hW (k := 45) rfl) 0 0 (n := 6) rfl rfl h17 dX10_swap_17 ?_
  obtain ⟨h18, hf⟩ := op_gd hf
  obtain ⟨M2, eM2, hf⟩ := op_st hf
  refine m_iast hx hb hKK.1 hW hS 52 45 6 rfl h18 eM2 (ms_52 Γ q _ Y _ _) dX10_swap_18 (fun H locs hW hS => ?_)
  refine lv_aload_n hx hb dX10_swap_19 rfl (lv_at hl 1 rfl) ?_
  refine va_get hx hb hts ni_X10_swap_X10 hown hKK.1 (wd_x hW (k := 0) rfl) 0 rfl rfl 52 (by decide) (hts (.fieldLink RX10 144 "TiltRouteModel" "order" "[I") (List.mem_of_getElem? (i := 1) rfl)) (fun _ h => h) rfl dX10_swap_20 ?_
  refine lv_iload_n hx hb dX10_swap_23 rfl (lv_at hl 3 rfl) ?_
  refine lv_iload_n hx hb dX10_swap_24 rfl (lv_at hl 0 rfl) ?_
  obtain ⟨h25, hf⟩ := op_gd hf
  obtain ⟨M3, eM3, hf⟩ := op_st hf
  refine m_iast hx hb hKK.1 hW hS 52 45 6 rfl h25 eM3 (ms_52 Γ q _ Y _ _) dX10_swap_25 (fun H locs hW hS => ?_)
  have hf := Option.some.inj hf
  rw [← hf]
  exact z_vret hx hb hr hlocks hW hS hm trivial dX10_swap_26

theorem ni_X10_reorder_X10 : ∀ w ∈ wsX100, w ∈ wsX10_reorder := by decide +kernel
def fX10_reorder (M : zMs)  : Option (Int32 × zMs) :=
st ((M 51 0) - (2 : Int32)) fun x1 =>
lp (fun (q2 : (Int32)) => (st (fun (u_ : Unit) => (if 0 ≤ q2 then
st ((M 51 0) - (1 : Int32)) fun x9 =>
lp (fun (q10 : (Int32)) => (gd (¬ (q10 < 0 ∨ 6 ≤ q10.toNatClampNeg)) (
gd (¬ (q2 < 0 ∨ 6 ≤ q2.toNatClampNeg)) (
if (M 52 q2.toNatClampNeg) ≤ (M 52 q10.toNatClampNeg) then
cl (fX10_swap M q2 q10) fun M18 =>
st (q2 + (1 : Int32)) fun x19 =>
st ((M18 51 0) - (1 : Int32)) fun x20 =>
lp (fun (q21 : (Int32 × Int32 × zMs)) => (if q21.2.1 ≤ q21.1 then
some (.inr (.inr (.inr (((1 : Int32), q21.2.2)))))
else
cl (fX10_swap q21.2.2 q21.1 q21.2.1) fun M29 =>
st (q21.1 + (1 : Int32)) fun x30 =>
st (q21.2.1 + (-1 : Int32)) fun x31 =>
some (.inl (x30, x31, M29)) : Option ((Int32 × Int32 × zMs) ⊕ ((Int32) ⊕ ((Int32) ⊕ (Int32 × zMs)))))) 40000 (x19, x20, M18)
else
st (q10 + (-1 : Int32)) fun x32 =>
some (.inl (x32)))) : Option ((Int32) ⊕ ((Int32) ⊕ (Int32 × zMs))))) 40000 (x9)
else
some (.inr (((0 : Int32), M))) : Option ((Int32) ⊕ (Int32 × zMs)))) fun j8 =>
if q2 < 0 then
j8 ()
else
gd (¬ (q2 < 0 ∨ 6 ≤ q2.toNatClampNeg)) (
gd (¬ ((q2 + (1 : Int32)) < 0 ∨ 6 ≤ (q2 + (1 : Int32)).toNatClampNeg)) (
if (M 52 q2.toNatClampNeg) ≤ (M 52 (q2 + (1 : Int32)).toNatClampNeg) then
j8 ()
else
st (q2 + (-1 : Int32)) fun x33 =>
some (.inl (x33)))) : Option ((Int32) ⊕ (Int32 × zMs)))) 40000 (x1)
abbrev rmX10_reorder : Room := { frames := 1, cells := 0, slots := 0, locals := 23 }
set_option maxHeartbeats 4000000 in
set_option maxRecDepth 100000 in
theorem tX10_reorder (l : Launch) (Γ : zG) (lo : zId → Nat) (S : zSt) (q : Nat → Nat) (M : zMs) (Y : va_W)   {y : (Int32 × zMs)} (hf : fX10_reorder M  = some y) : Met l yX10_reorder wsX10_reorder rmX10_reorder (zP0 Γ lo S (mcl Γ q M ++ Y) [.ref (q 0)]) (zQ0 Γ lo S S (mcl Γ q y.2 ++ Y) (some (.int y.1)) (y.1 = 0 ∨ y.1 = 1)) 0 0 (zA Γ) := by
  refine Met.ofW (cc := cX10_reorder) (maxL := 5) (ret := (some .boolean)) (by decide) rfl ?_
  intro p e s m args below meth c s₁ B hml hv
  obtain ⟨rfl, hW, hKK⟩ := hv
  have hx := B.exec
  have hb := B.bytes
  have hr := B.returns
  have hts := atoms_spec (ws := wsX10_reorder) B.pre
  have hown : s.vm.findClass RX10 = some m.cls := findClass_of_methodNamed B.named
  have hlocks := B.notSynchronized
  have hS : va_S (zA Γ) s.heap s.heap [] := va_S.rf
  have hm : ∀ c, zV S c = zV S c := fun _ => rfl
  have hl := lv_entry ([.ref (q 0)]) (n := 5) (Nat.le_of_ble_eq_true rfl)
  rw [lg_entry_eq]
  generalize (lg_sl ([.ref (q 0)]) ++ List.replicate (5 - (lg_sl ([.ref (q 0)])).length) Slot.unset).toArray = ls at hl ⊢
  have hl : lv_has ls 5 [(0, .ref (q 0))] := hl
  obtain ⟨H, hH0⟩ : ∃ H, H = s.heap := ⟨_, rfl⟩
  obtain ⟨locs, hlo0⟩ : ∃ L : List Loc, L = [] := ⟨_, rfl⟩
  have hS : va_S (zA Γ) s.heap H locs := by rw [hH0, hlo0]; exact hS
  have hW : Wd Γ lo S (mcl Γ q M ++ Y) H := by rw [hH0]; exact hW
  rw [← hH0, ← hlo0]
  unfold fX10_reorder at hf
  refine lv_aload_n hx hb dX10_reorder_0 rfl (lv_at hl 0 rfl) ?_
  refine va_get hx hb hts ni_X10_reorder_X10 hown hKK.1 (wd_x hW (k := 0) rfl) 0 rfl rfl 51 (by decide) (hts (.fieldLink RX10 266 "TiltRouteModel" "planned" "I") (List.mem_of_getElem? (i := 1) rfl)) (fun _ h => h) rfl dX10_reorder_1 ?_
  refine lv_iconst (v := (2)) hx hb dX10_reorder_4 (by decide) ?_
  refine lv_isub hx hb dX10_reorder_5 ?_
  obtain ⟨x1, ex1, hf⟩ := op_st hf
  refine z_istn (lv' := [(1, .int x1), (0, .ref (q 0))]) ex1 hx hb dX10_reorder_6 rfl hl (by decide) rfl (fun ls hl => ?_)
  obtain ⟨w4, q20, ew4, eq20, hf⟩ := op_lb hf
  have hw4 : ∀ n7 : Nat, ∀ (q2 : (Int32)) (H : Heap) (locs : List Loc) (ls : Array Slot), lv_has ls 5 [(1, .int q2), (0, .ref (q 0))] → Wd Γ lo S (mcl Γ q M ++ Y) H → va_S (zA Γ) s.heap H locs → (∀ c, zV S c = zV S c) → lp w4 n7 q2 = some y → W p l e (headSpec wsX10_reorder rmX10_reorder).room s m ([.ref (q 0)] : List Value).toArray below meth c H locs 0 0 (MQ below (zQ0 Γ lo S S (mcl Γ q y.2 ++ Y) (some (.int y.1)) (y.1 = 0 ∨ y.1 = 1)) ([.ref (q 0)] : List Value).toArray s 0 0 (zA Γ)) (F0 m 7 ls []) := by
    intro n7
    induction n7 with
    | zero => intro q2 H locs ls hl hW hS hm hf; cases hf
    | succ n7 ih5 =>
      intro q2 H locs ls hl hW hS hm hf
      obtain ⟨n_, r3, hn_, hf, hr6⟩ := op_lq hf
      cases hn_
      rw [ew4] at hf
      refine lv_iload_n hx hb dX10_reorder_7 rfl (lv_at hl 0 rfl) ?_
      obtain ⟨j8, ej8, hf⟩ := op_st hf
      have hj8 : ∀ (u_ : Unit) (H : Heap) (locs : List Loc) (ls : Array Slot), lv_has ls 5 [(1, .int q2), (0, .ref (q 0))] → Wd Γ lo S (mcl Γ q M ++ Y) H → va_S (zA Γ) s.heap H locs → (∀ c, zV S c = zV S c) → j8 () = some r3 → W p l e (headSpec wsX10_reorder rmX10_reorder).room s m ([.ref (q 0)] : List Value).toArray below meth c H locs 0 0 (MQ below (zQ0 Γ lo S S (mcl Γ q y.2 ++ Y) (some (.int y.1)) (y.1 = 0 ∨ y.1 = 1)) ([.ref (q 0)] : List Value).toArray s 0 0 (zA Γ)) (F0 m 34 ls []) := by
        intro u_ H locs ls  hl hW hS hm hf
        rw [ej8] at hf
        refine lv_iload_n hx hb dX10_reorder_34 rfl (lv_at hl 0 rfl) ?_
        refine lv_if_ge (tgt := 40) hx hb dX10_reorder_35 (by decide) (fun k35 => ?_) (fun k35 => ?_)
        · have hf := (op_if hf).1 k35
          refine lv_aload_n hx hb dX10_reorder_40 rfl (lv_at hl 1 rfl) ?_
          refine va_get hx hb hts ni_X10_reorder_X10 hown hKK.1 (wd_x hW (k := 0) rfl) 0 rfl rfl 51 (by decide) (hts (.fieldLink RX10 266 "TiltRouteModel" "planned" "I") (List.mem_of_getElem? (i := 1) rfl)) (fun _ h => h) rfl dX10_reorder_41 ?_
          refine lv_iconst (v := (1)) hx hb dX10_reorder_44 (by decide) ?_
          refine lv_isub hx hb dX10_reorder_45 ?_
          obtain ⟨x9, ex9, hf⟩ := op_st hf
          refine z_istn (lv' := [(2, .int x9), (1, .int q2), (0, .ref (q 0))]) ex9 hx hb dX10_reorder_46 rfl hl (by decide) rfl (fun ls hl => ?_)
          obtain ⟨w12, q100, ew12, eq100, hf⟩ := op_lb hf
          have hw12 : ∀ n15 : Nat, ∀ (q10 : (Int32)) (H : Heap) (locs : List Loc) (ls : Array Slot), lv_has ls 5 [(2, .int q10), (1, .int q2), (0, .ref (q 0))] → Wd Γ lo S (mcl Γ q M ++ Y) H → va_S (zA Γ) s.heap H locs → (∀ c, zV S c = zV S c) → lp w12 n15 q10 = some r3 → W p l e (headSpec wsX10_reorder rmX10_reorder).room s m ([.ref (q 0)] : List Value).toArray below meth c H locs 0 0 (MQ below (zQ0 Γ lo S S (mcl Γ q y.2 ++ Y) (some (.int y.1)) (y.1 = 0 ∨ y.1 = 1)) ([.ref (q 0)] : List Value).toArray s 0 0 (zA Γ)) (F0 m 47 ls []) := by
            intro n15
            induction n15 with
            | zero => intro q10 H locs ls hl hW hS hm hf; cases hf
            | succ n15 ih13 =>
              intro q10 H locs ls hl hW hS hm hf
              obtain ⟨n_, r11, hn_, hf, hr14⟩ := op_lq hf
              cases hn_
              rw [ew12] at hf
              refine lv_aload_n hx hb dX10_reorder_47 rfl (lv_at hl 2 rfl) ?_
              refine va_get hx hb hts ni_X10_reorder_X10 hown hKK.1 (wd_x hW (k := 0) rfl) 0 rfl rfl 52 (by decide) (hts (.fieldLink RX10 144 "TiltRouteModel" "order" "[I") (List.mem_of_getElem? (i := 2) rfl)) (fun _ h => h) rfl dX10_reorder_48 ?_
              refine lv_iload_n hx hb dX10_reorder_51 rfl (lv_at hl 0 rfl) ?_
              obtain ⟨h52, hf⟩ := op_gd hf
              refine va_iald hx hb hKK.1 (wd_x hW (k := 45) rfl) 0 0 (n := 6) rfl rfl h52 dX10_reorder_52 ?_
              refine lv_aload_n hx hb dX10_reorder_53 rfl (lv_at hl 2 rfl) ?_
              refine va_get hx hb hts ni_X10_reorder_X10 hown hKK.1 (wd_x hW (k := 0) rfl) 0 rfl rfl 52 (by decide) (hts (.fieldLink RX10 144 "TiltRouteModel" "order" "[I") (List.mem_of_getElem? (i := 2) rfl)) (fun _ h => h) rfl dX10_reorder_54 ?_
              refine lv_iload_n hx hb dX10_reorder_57 rfl (lv_at hl 1 rfl) ?_
              obtain ⟨h58, hf⟩ := op_gd hf
              refine va_iald hx hb hKK.1 (wd_x hW (k := 45) rfl) 0 0 (n := 6) rfl rfl h58 dX10_reorder_58 ?_
              refine lv_icmp_ge (tgt := 68) hx hb dX10_reorder_59 (by decide) (fun k59 => ?_) (fun k59 => ?_)
              · have hf := (op_if hf).1 k59
                refine lv_aload_n hx hb dX10_reorder_68 rfl (lv_at hl 2 rfl) ?_
                refine lv_iload_n hx hb dX10_reorder_69 rfl (lv_at hl 1 rfl) ?_
                refine lv_iload_n hx hb dX10_reorder_70 rfl (lv_at hl 0 rfl) ?_
                obtain ⟨M18, hc17, hf⟩ := op_cl hf
                refine z_callV (As := [.int q2, .int q10]) (rest := []) ⟨hx, hb, hml, hown, hts⟩ (tX10_swap l Γ lo S q M Y  hc17) (cwV 2 hts gX10_reorder_X10_swap rfl rfl rfl (by decide +kernel) ⟨Nat.le_of_ble_eq_true rfl, Nat.le_of_ble_eq_true rfl⟩) (wd_x hW (k := 0) rfl) rfl hKK hW hS rfl hl.1 rfl (Nat.le_of_ble_eq_true rfl) dX10_reorder_71 ⟨Nat.zero_le _, Nat.zero_le _⟩ (fun H locs hW hS hm1 hE => ?_)
                refine lv_iload_n hx hb dX10_reorder_74 rfl (lv_at hl 1 rfl) ?_
                refine lv_iconst (v := (1)) hx hb dX10_reorder_75 (by decide) ?_
                refine lv_iadd hx hb dX10_reorder_76 ?_
                obtain ⟨x19, ex19, hf⟩ := op_st hf
                refine z_istn (lv' := [(3, .int x19), (2, .int q10), (1, .int q2), (0, .ref (q 0))]) ex19 hx hb dX10_reorder_77 rfl hl (by decide) rfl (fun ls hl => ?_)
                refine lv_aload_n hx hb dX10_reorder_78 rfl (lv_at hl 3 rfl) ?_
                refine va_get hx hb hts ni_X10_reorder_X10 hown hKK.1 (wd_x hW (k := 0) rfl) 0 rfl rfl 51 (by decide) (hts (.fieldLink RX10 266 "TiltRouteModel" "planned" "I") (List.mem_of_getElem? (i := 1) rfl)) (fun _ h => h) rfl dX10_reorder_79 ?_
                refine lv_iconst (v := (1)) hx hb dX10_reorder_82 (by decide) ?_
                refine lv_isub hx hb dX10_reorder_83 ?_
                obtain ⟨x20, ex20, hf⟩ := op_st hf
                refine z_ist (lv' := [(4, .int x20), (3, .int x19), (2, .int q10), (1, .int q2), (0, .ref (q 0))]) ex20 hx hb dX10_reorder_84 hl (by decide) rfl (fun ls hl => ?_)
                obtain ⟨w23, q210, ew23, eq210, hf⟩ := op_lb hf
                have hw23 : ∀ n26 : Nat, ∀ (q21 : (Int32 × Int32 × zMs)) (H : Heap) (locs : List Loc) (ls : Array Slot), lv_has ls 5 [(4, .int q21.2.1), (3, .int q21.1), (0, .ref (q 0))] → Wd Γ lo S (mcl Γ q q21.2.2 ++ Y) H → va_S (zA Γ) s.heap H locs → (∀ c, zV S c = zV S c) → lp w23 n26 q21 = some r11 → W p l e (headSpec wsX10_reorder rmX10_reorder).room s m ([.ref (q 0)] : List Value).toArray below meth c H locs 0 0 (MQ below (zQ0 Γ lo S S (mcl Γ q y.2 ++ Y) (some (.int y.1)) (y.1 = 0 ∨ y.1 = 1)) ([.ref (q 0)] : List Value).toArray s 0 0 (zA Γ)) (F0 m 86 ls []) := by
                  intro n26
                  induction n26 with
                  | zero => intro q21 H locs ls hl hW hS hm hf; cases hf
                  | succ n26 ih24 =>
                    intro q21 H locs ls hl hW hS hm hf
                    obtain ⟨n_, r22, hn_, hf, hr25⟩ := op_lq hf
                    cases hn_
                    rw [ew23] at hf
                    refine lv_iload_n hx hb dX10_reorder_86 rfl (lv_at hl 1 rfl) ?_
                    refine lv_iload hx hb dX10_reorder_87 (lv_at hl 0 rfl) ?_
                    refine lv_icmp_ge (tgt := 108) hx hb dX10_reorder_89 (by decide) (fun k89 => ?_) (fun k89 => ?_)
                    · have hf := (op_if hf).1 k89
                      refine lv_iconst (v := (1)) hx hb dX10_reorder_108 (by decide) ?_
                      have hf := zr_r hf hr25
                      have hf := congrArg some hf
                      have hf := zr_r hf hr14
                      have hf := congrArg some hf
                      have hf := zr_r hf hr6
                      rw [← hf]
                      exact z_iret hx hb hr hlocks (z_bb (Or.inr rfl)) hW hS hm (Or.inr rfl) dX10_reorder_109
                    · have hf := (op_if hf).2 k89
                      refine lv_aload_n hx hb dX10_reorder_92 rfl (lv_at hl 2 rfl) ?_
                      refine lv_iload_n hx hb dX10_reorder_93 rfl (lv_at hl 1 rfl) ?_
                      refine lv_iload hx hb dX10_reorder_94 (lv_at hl 0 rfl) ?_
                      obtain ⟨M29, hc28, hf⟩ := op_cl hf
                      refine z_callV (As := [.int q21.1, .int q21.2.1]) (rest := []) ⟨hx, hb, hml, hown, hts⟩ (tX10_swap l Γ lo S q q21.2.2 Y  hc28) (cwV 2 hts gX10_reorder_X10_swap rfl rfl rfl (by decide +kernel) ⟨Nat.le_of_ble_eq_true rfl, Nat.le_of_ble_eq_true rfl⟩) (wd_x hW (k := 0) rfl) rfl hKK hW hS rfl hl.1 rfl (Nat.le_of_ble_eq_true rfl) dX10_reorder_96 ⟨Nat.zero_le _, Nat.zero_le _⟩ (fun H locs hW hS hm1 hE => ?_)
                      obtain ⟨x30, ex30, hf⟩ := op_st hf
                      refine lv_iinc (v := x30) (lv' := [(3, .int x30), (4, .int q21.2.1), (0, .ref (q 0))]) hx hb dX10_reorder_99 hl (k := 1) rfl (by rw [ex30]; rfl) (by decide) rfl (fun ls hl => ?_)
                      obtain ⟨x31, ex31, hf⟩ := op_st hf
                      refine lv_iinc (v := x31) (lv' := [(4, .int x31), (3, .int x30), (0, .ref (q 0))]) hx hb dX10_reorder_102 hl (k := 1) rfl (by rw [ex31]; rfl) (by decide) rfl (fun ls hl => ?_)
                      refine lv_goto (tgt := 86) hx hb dX10_reorder_105 (by decide) ?_
                      have hf := zr_l hf hr25
                      exact ih24 (x30, x31, M29) H locs ls (lv_sub hl [0, 1, 2] rfl) hW hS hm hf
                rw [eq210] at hf
                exact hw23 _ (x19, x20, M18) H locs ls (lv_sub hl [0, 1, 4] rfl) hW hS hm hf
              · have hf := (op_if hf).2 k59
                obtain ⟨x32, ex32, hf⟩ := op_st hf
                refine lv_iinc (v := x32) (lv' := [(2, .int x32), (1, .int q2), (0, .ref (q 0))]) hx hb dX10_reorder_62 hl (k := 0) rfl (by rw [ex32]; rfl) (by decide) rfl (fun ls hl => ?_)
                refine lv_goto (tgt := 47) hx hb dX10_reorder_65 (by decide) ?_
                have hf := zr_l hf hr14
                exact ih13 (x32) H locs ls (lv_sub hl [0, 1, 2] rfl) hW hS hm hf
          rw [eq100] at hf
          exact hw12 _ (x9) H locs ls (lv_sub hl [0, 1, 2] rfl) hW hS hm hf
        · have hf := (op_if hf).2 k35
          refine lv_iconst (v := (0)) hx hb dX10_reorder_38 (by decide) ?_
          have hf := zr_r hf hr6
          rw [← hf]
          exact z_iret hx hb hr hlocks (z_bb (Or.inl rfl)) hW hS hm (Or.inl rfl) dX10_reorder_39
      refine lv_if_lt (tgt := 34) hx hb dX10_reorder_8 (by decide) (fun k8 => ?_) (fun k8 => ?_)
      · have hf := (op_if hf).1 k8
        exact hj8 () H locs ls  (lv_sub hl [0, 1] rfl) hW hS hm hf
      · have hf := (op_if hf).2 k8
        refine lv_aload_n hx hb dX10_reorder_11 rfl (lv_at hl 1 rfl) ?_
        refine va_get hx hb hts ni_X10_reorder_X10 hown hKK.1 (wd_x hW (k := 0) rfl) 0 rfl rfl 52 (by decide) (hts (.fieldLink RX10 144 "TiltRouteModel" "order" "[I") (List.mem_of_getElem? (i := 2) rfl)) (fun _ h => h) rfl dX10_reorder_12 ?_
        refine lv_iload_n hx hb dX10_reorder_15 rfl (lv_at hl 0 rfl) ?_
        obtain ⟨h16, hf⟩ := op_gd hf
        refine va_iald hx hb hKK.1 (wd_x hW (k := 45) rfl) 0 0 (n := 6) rfl rfl h16 dX10_reorder_16 ?_
        refine lv_aload_n hx hb dX10_reorder_17 rfl (lv_at hl 1 rfl) ?_
        refine va_get hx hb hts ni_X10_reorder_X10 hown hKK.1 (wd_x hW (k := 0) rfl) 0 rfl rfl 52 (by decide) (hts (.fieldLink RX10 144 "TiltRouteModel" "order" "[I") (List.mem_of_getElem? (i := 2) rfl)) (fun _ h => h) rfl dX10_reorder_18 ?_
        refine lv_iload_n hx hb dX10_reorder_21 rfl (lv_at hl 0 rfl) ?_
        refine lv_iconst (v := (1)) hx hb dX10_reorder_22 (by decide) ?_
        refine lv_iadd hx hb dX10_reorder_23 ?_
        obtain ⟨h24, hf⟩ := op_gd hf
        refine va_iald hx hb hKK.1 (wd_x hW (k := 45) rfl) 0 0 (n := 6) rfl rfl h24 dX10_reorder_24 ?_
        refine lv_icmp_le (tgt := 34) hx hb dX10_reorder_25 (by decide) (fun k25 => ?_) (fun k25 => ?_)
        · have hf := (op_if hf).1 k25
          exact hj8 () H locs ls  (lv_sub hl [0, 1] rfl) hW hS hm hf
        · have hf := (op_if hf).2 k25
          obtain ⟨x33, ex33, hf⟩ := op_st hf
          refine lv_iinc (v := x33) (lv' := [(1, .int x33), (0, .ref (q 0))]) hx hb dX10_reorder_28 hl (k := 0) rfl (by rw [ex33]; rfl) (by decide) rfl (fun ls hl => ?_)
          refine lv_goto (tgt := 7) hx hb dX10_reorder_31 (by decide) ?_
          have hf := zr_l hf hr6
          exact ih5 (x33) H locs ls (lv_sub hl [0, 1] rfl) hW hS hm hf
  rw [eq20] at hf
  exact hw4 _ (x1) H locs ls (lv_sub hl [0, 1] rfl) hW hS hm hf

theorem ni_X10_makePlan_X10 : ∀ w ∈ wsX100, w ∈ wsX10_makePlan := by decide +kernel
def fX10_makePlan (M : zMs) (i_1 : Int32) : Option zMs :=
st (pM M 51 0 (0 : Int32)) fun M1 =>
st (0 : Int32) fun x2 =>
lp (fun (q3 : (Int32 × zMs)) => (if (q3.2 1 0) ≤ q3.1 then
st (pM q3.2 54 0 (-1 : Int32)) fun M9 =>
st (1 : Int32) fun x10 =>
lp (fun (q11 : (Int32 × zMs)) => (if q11.1 = 0 then
some (.inr (.inr (q11.2)))
else
cl (fX10_lengthOf q11.2 i_1) fun r17 =>
st r17 fun x19 =>
st (fun (S20 : zMs) => (cl2 (fX10_reorder S20) fun r22 M24 =>
st r22 fun x26 =>
some (.inl (x26, M24)) : Option ((Int32 × zMs) ⊕ ((Int32 × zMs) ⊕ zMs)))) fun j21 =>
st (fun (u_ : Unit) => (st (pM q11.2 54 0 x19) fun M28 =>
st (0 : Int32) fun x29 =>
lp (fun (q30 : (Int32 × zMs)) => (if (q30.2 51 0) ≤ q30.1 then
cl (j21 q30.2) fun v_ => some (.inr v_)
else
gd (¬ (q30.1 < 0 ∨ 6 ≤ q30.1.toNatClampNeg)) (
gd (¬ (q30.1 < 0 ∨ 6 ≤ q30.1.toNatClampNeg)) (
st (pM q30.2 53 q30.1.toNatClampNeg (q30.2 52 q30.1.toNatClampNeg)) fun M37 =>
st (q30.1 + (1 : Int32)) fun x38 =>
some (.inl (x38, M37)))) : Option ((Int32 × zMs) ⊕ ((Int32 × zMs) ⊕ ((Int32 × zMs) ⊕ zMs))))) 40000 (x29, M28) : Option ((Int32 × zMs) ⊕ ((Int32 × zMs) ⊕ zMs)))) fun j27 =>
if (q11.2 54 0) = (-1 : Int32) then
j27 ()
else
if (q11.2 54 0) ≤ x19 then
j21 q11.2
else
j27 () : Option ((Int32 × zMs) ⊕ ((Int32 × zMs) ⊕ zMs)))) 40000 (x10, M9)
else
cl (fX10_needsService q3.2 q3.1) fun r39 =>
st (fun (S42 : zMs) => (st (q3.1 + (1 : Int32)) fun x44 =>
some (.inl (x44, S42)) : Option ((Int32 × zMs) ⊕ zMs))) fun j43 =>
if r39 = 0 then
j43 q3.2
else
gd (¬ ((q3.2 51 0) < 0 ∨ 6 ≤ (q3.2 51 0).toNatClampNeg)) (
st (pM q3.2 52 (q3.2 51 0).toNatClampNeg q3.1) fun M45 =>
st (pM M45 51 0 ((M45 51 0) + (1 : Int32))) fun M46 =>
j43 M46) : Option ((Int32 × zMs) ⊕ zMs))) 40000 (x2, M1)
abbrev rmX10_makePlan : Room := { frames := 3, cells := 0, slots := 0, locals := 67 }
set_option maxHeartbeats 4000000 in
set_option maxRecDepth 100000 in
theorem tX10_makePlan (l : Launch) (Γ : zG) (lo : zId → Nat) (S : zSt) (q : Nat → Nat) (M : zMs) (Y : va_W) {i_1 : Int32}  {y : zMs} (hf : fX10_makePlan M i_1 = some y) : Met l yX10_makePlan wsX10_makePlan rmX10_makePlan (zP0 Γ lo S (mcl Γ q M ++ Y) [.ref (q 0), .int i_1]) (zQ0 Γ lo S S (mcl Γ q y ++ Y) none True) 0 0 (zA Γ) := by
  refine Met.ofW (cc := cX10_makePlan) (maxL := 5) (ret := none) (by decide) rfl ?_
  intro p e s m args below meth c s₁ B hml hv
  obtain ⟨rfl, hW, hKK⟩ := hv
  have hx := B.exec
  have hb := B.bytes
  have hr := B.returns
  have hts := atoms_spec (ws := wsX10_makePlan) B.pre
  have hown : s.vm.findClass RX10 = some m.cls := findClass_of_methodNamed B.named
  have hlocks := B.notSynchronized
  have hS : va_S (zA Γ) s.heap s.heap [] := va_S.rf
  have hm : ∀ c, zV S c = zV S c := fun _ => rfl
  have hl := lv_entry ([.ref (q 0), .int i_1]) (n := 5) (Nat.le_of_ble_eq_true rfl)
  rw [lg_entry_eq]
  generalize (lg_sl ([.ref (q 0), .int i_1]) ++ List.replicate (5 - (lg_sl ([.ref (q 0), .int i_1])).length) Slot.unset).toArray = ls at hl ⊢
  have hl : lv_has ls 5 [(0, .ref (q 0)), (1, .int i_1)] := hl
  obtain ⟨H, hH0⟩ : ∃ H, H = s.heap := ⟨_, rfl⟩
  obtain ⟨locs, hlo0⟩ : ∃ L : List Loc, L = [] := ⟨_, rfl⟩
  have hS : va_S (zA Γ) s.heap H locs := by rw [hH0, hlo0]; exact hS
  have hW : Wd Γ lo S (mcl Γ q M ++ Y) H := by rw [hH0]; exact hW
  rw [← hH0, ← hlo0]
  unfold fX10_makePlan at hf
  refine lv_aload_n hx hb dX10_makePlan_0 rfl (lv_at hl 0 rfl) ?_
  refine lv_iconst (v := (0)) hx hb dX10_makePlan_1 (by decide) ?_
  obtain ⟨M1, eM1, hf⟩ := op_st hf
  refine m_put hx hb hts ni_X10_makePlan_X10 hown hKK.1 hW hS 51 (by decide) (hts (.fieldLink RX10 266 "TiltRouteModel" "planned" "I") (List.mem_of_getElem? (i := 1) rfl)) rfl rfl rfl eM1 (ms_51 Γ q _ Y _) dX10_makePlan_2 (fun H locs hW hS => ?_)
  refine lv_iconst (v := (0)) hx hb dX10_makePlan_5 (by decide) ?_
  obtain ⟨x2, ex2, hf⟩ := op_st hf
  have bx2 : x2 = 0 ∨ x2 = 1 := Or.inl ex2
  refine z_istn (lv' := [(2, .int x2), (0, .ref (q 0)), (1, .int i_1)]) ex2 hx hb dX10_makePlan_6 rfl hl (by decide) rfl (fun ls hl => ?_)
  obtain ⟨w5, q30, ew5, eq30, hf⟩ := op_lb hf
  have hw5 : ∀ n8 : Nat, ∀ (q3 : (Int32 × zMs)) (H : Heap) (locs : List Loc) (ls : Array Slot), lv_has ls 5 [(2, .int q3.1), (0, .ref (q 0)), (1, .int i_1)] → Wd Γ lo S (mcl Γ q q3.2 ++ Y) H → va_S (zA Γ) s.heap H locs → (∀ c, zV S c = zV S c) → lp w5 n8 q3 = some y → W p l e (headSpec wsX10_makePlan rmX10_makePlan).room s m ([.ref (q 0), .int i_1] : List Value).toArray below meth c H locs 0 0 (MQ below (zQ0 Γ lo S S (mcl Γ q y ++ Y) none True) ([.ref (q 0), .int i_1] : List Value).toArray s 0 0 (zA Γ)) (F0 m 7 ls []) := by
    intro n8
    induction n8 with
    | zero => intro q3 H locs ls hl hW hS hm hf; cases hf
    | succ n8 ih6 =>
      intro q3 H locs ls hl hW hS hm hf
      obtain ⟨n_, r4, hn_, hf, hr7⟩ := op_lq hf
      cases hn_
      rw [ew5] at hf
      refine lv_iload_n hx hb dX10_makePlan_7 rfl (lv_at hl 0 rfl) ?_
      refine lv_aload_n hx hb dX10_makePlan_8 rfl (lv_at hl 1 rfl) ?_
      refine va_get hx hb hts ni_X10_makePlan_X10 hown hKK.1 (wd_x hW (k := 0) rfl) 0 rfl rfl 1 (by decide) (hts (.fieldLink RX10 154 "TiltRouteModel" "tables" "I") (List.mem_of_getElem? (i := 2) rfl)) (fun _ h => h) rfl dX10_makePlan_9 ?_
      refine lv_icmp_ge (tgt := 49) hx hb dX10_makePlan_12 (by decide) (fun k12 => ?_) (fun k12 => ?_)
      · have hf := (op_if hf).1 k12
        refine lv_aload_n hx hb dX10_makePlan_49 rfl (lv_at hl 1 rfl) ?_
        refine lv_iconst (v := (-1)) hx hb dX10_makePlan_50 (by decide) ?_
        obtain ⟨M9, eM9, hf⟩ := op_st hf
        refine m_put hx hb hts ni_X10_makePlan_X10 hown hKK.1 hW hS 54 (by decide) (hts (.fieldLink RX10 279 "TiltRouteModel" "planLength" "I") (List.mem_of_getElem? (i := 4) rfl)) rfl rfl rfl eM9 (ms_54 Γ q _ Y _) dX10_makePlan_51 (fun H locs hW hS => ?_)
        refine lv_iconst (v := (1)) hx hb dX10_makePlan_54 (by decide) ?_
        obtain ⟨x10, ex10, hf⟩ := op_st hf
        have bx10 : x10 = 0 ∨ x10 = 1 := Or.inr ex10
        refine z_istn (lv' := [(2, .int x10), (0, .ref (q 0)), (1, .int i_1)]) ex10 hx hb dX10_makePlan_55 rfl hl (by decide) rfl (fun ls hl => ?_)
        obtain ⟨w13, q110, ew13, eq110, hf⟩ := op_lb hf
        have hw13 : ∀ n16 : Nat, ∀ (q11 : (Int32 × zMs)) (H : Heap) (locs : List Loc) (ls : Array Slot), lv_has ls 5 [(2, .int q11.1), (0, .ref (q 0)), (1, .int i_1)] → Wd Γ lo S (mcl Γ q q11.2 ++ Y) H → va_S (zA Γ) s.heap H locs → (∀ c, zV S c = zV S c) → lp w13 n16 q11 = some r4 → W p l e (headSpec wsX10_makePlan rmX10_makePlan).room s m ([.ref (q 0), .int i_1] : List Value).toArray below meth c H locs 0 0 (MQ below (zQ0 Γ lo S S (mcl Γ q y ++ Y) none True) ([.ref (q 0), .int i_1] : List Value).toArray s 0 0 (zA Γ)) (F0 m 56 ls []) := by
          intro n16
          induction n16 with
          | zero => intro q11 H locs ls hl hW hS hm hf; cases hf
          | succ n16 ih14 =>
            intro q11 H locs ls hl hW hS hm hf
            obtain ⟨n_, r12, hn_, hf, hr15⟩ := op_lq hf
            cases hn_
            rw [ew13] at hf
            refine lv_iload_n hx hb dX10_makePlan_56 rfl (lv_at hl 0 rfl) ?_
            refine lv_if_eq (tgt := 127) hx hb dX10_makePlan_57 (by decide) (fun k57 => ?_) (fun k57 => ?_)
            · have hf := (op_if hf).1 k57
              have hf := zr_r hf hr15
              have hf := congrArg some hf
              have hf := zr_r hf hr7
              rw [← hf]
              exact z_vret hx hb hr hlocks hW hS hm trivial dX10_makePlan_127
            · have hf := (op_if hf).2 k57
              refine lv_aload_n hx hb dX10_makePlan_60 rfl (lv_at hl 1 rfl) ?_
              refine lv_iload_n hx hb dX10_makePlan_61 rfl (lv_at hl 2 rfl) ?_
              obtain ⟨r17, hc18, hf⟩ := op_cl hf
              refine z_callV (As := [.int i_1]) (rest := []) ⟨hx, hb, hml, hown, hts⟩ (tX10_lengthOf l Γ lo S q q11.2 Y  hc18) (cwV 1 hts gX10_makePlan_X10_lengthOf rfl rfl rfl (by decide +kernel) ⟨Nat.le_of_ble_eq_true rfl, Nat.le_of_ble_eq_true rfl⟩) (wd_x hW (k := 0) rfl) rfl hKK hW hS rfl hl.1 rfl (Nat.le_of_ble_eq_true rfl) dX10_makePlan_62 ⟨Nat.zero_le _, Nat.zero_le _⟩ (fun H locs hW hS hm1 hE => ?_)
              obtain ⟨x19, ex19, hf⟩ := op_st hf
              refine z_istn (lv' := [(3, .int x19), (2, .int q11.1), (0, .ref (q 0)), (1, .int i_1)]) ex19 hx hb dX10_makePlan_65 rfl hl (by decide) rfl (fun ls hl => ?_)
              refine lv_aload_n hx hb dX10_makePlan_66 rfl (lv_at hl 2 rfl) ?_
              refine va_get hx hb hts ni_X10_makePlan_X10 hown hKK.1 (wd_x hW (k := 0) rfl) 0 rfl rfl 54 (by decide) (hts (.fieldLink RX10 279 "TiltRouteModel" "planLength" "I") (List.mem_of_getElem? (i := 4) rfl)) (fun _ h => h) rfl dX10_makePlan_67 ?_
              refine lv_iconst (v := (-1)) hx hb dX10_makePlan_70 (by decide) ?_
              obtain ⟨j21, ej21, hf⟩ := op_st hf
              have hj21 : ∀ (S20 : zMs) (H : Heap) (locs : List Loc) (ls : Array Slot), lv_has ls 5 [(0, .ref (q 0)), (1, .int i_1)] → Wd Γ lo S (mcl Γ q S20 ++ Y) H → va_S (zA Γ) s.heap H locs → (∀ c, zV S c = zV S c) → j21 S20 = some r12 → W p l e (headSpec wsX10_makePlan rmX10_makePlan).room s m ([.ref (q 0), .int i_1] : List Value).toArray below meth c H locs 0 0 (MQ below (zQ0 Γ lo S S (mcl Γ q y ++ Y) none True) ([.ref (q 0), .int i_1] : List Value).toArray s 0 0 (zA Γ)) (F0 m 119 ls []) := by
                intro S20 H locs ls  hl hW hS hm hf
                rw [ej21] at hf
                refine lv_aload_n hx hb dX10_makePlan_119 rfl (lv_at hl 0 rfl) ?_
                obtain ⟨r22, M24, hc23, hf⟩ := op_cl2 hf
                refine z_callV (As := []) (rest := []) ⟨hx, hb, hml, hown, hts⟩ (tX10_reorder l Γ lo S q S20 Y  hc23) (cwV 0 hts gX10_makePlan_X10_reorder rfl rfl rfl (by decide +kernel) ⟨Nat.le_of_ble_eq_true rfl, Nat.le_of_ble_eq_true rfl⟩) (wd_x hW (k := 0) rfl) rfl hKK hW hS rfl hl.1 rfl (Nat.le_of_ble_eq_true rfl) dX10_makePlan_120 ⟨Nat.zero_le _, Nat.zero_le _⟩ (fun H locs hW hS hm1 hE => ?_)
                have b25 := hE
                obtain ⟨x26, ex26, hf⟩ := op_st hf
                have bx26 : x26 = 0 ∨ x26 = 1 := by rw [ex26]; exact b25
                refine z_istn (lv' := [(2, .int x26), (0, .ref (q 0)), (1, .int i_1)]) ex26 hx hb dX10_makePlan_123 rfl hl (by decide) rfl (fun ls hl => ?_)
                refine lv_goto (tgt := 56) hx hb dX10_makePlan_124 (by decide) ?_
                have hf := zr_l hf hr15
                exact ih14 (x26, M24) H locs ls (lv_sub hl [0, 1, 2] rfl) hW hS hm hf
              obtain ⟨j27, ej27, hf⟩ := op_st hf
              have hj27 : ∀ (u_ : Unit) (H : Heap) (locs : List Loc) (ls : Array Slot), lv_has ls 5 [(3, .int x19), (0, .ref (q 0)), (1, .int i_1)] → Wd Γ lo S (mcl Γ q q11.2 ++ Y) H → va_S (zA Γ) s.heap H locs → (∀ c, zV S c = zV S c) → j27 () = some r12 → W p l e (headSpec wsX10_makePlan rmX10_makePlan).room s m ([.ref (q 0), .int i_1] : List Value).toArray below meth c H locs 0 0 (MQ below (zQ0 Γ lo S S (mcl Γ q y ++ Y) none True) ([.ref (q 0), .int i_1] : List Value).toArray s 0 0 (zA Γ)) (F0 m 82 ls []) := by
                intro u_ H locs ls  hl hW hS hm hf
                rw [ej27] at hf
                refine lv_aload_n hx hb dX10_makePlan_82 rfl (lv_at hl 1 rfl) ?_
                refine lv_iload_n hx hb dX10_makePlan_83 rfl (lv_at hl 0 rfl) ?_
                obtain ⟨M28, eM28, hf⟩ := op_st hf
                refine m_put hx hb hts ni_X10_makePlan_X10 hown hKK.1 hW hS 54 (by decide) (hts (.fieldLink RX10 279 "TiltRouteModel" "planLength" "I") (List.mem_of_getElem? (i := 4) rfl)) rfl rfl rfl eM28 (ms_54 Γ q _ Y _) dX10_makePlan_84 (fun H locs hW hS => ?_)
                refine lv_iconst (v := (0)) hx hb dX10_makePlan_87 (by decide) ?_
                obtain ⟨x29, ex29, hf⟩ := op_st hf
                have bx29 : x29 = 0 ∨ x29 = 1 := Or.inl ex29
                refine z_ist (lv' := [(4, .int x29), (3, .int x19), (0, .ref (q 0)), (1, .int i_1)]) ex29 hx hb dX10_makePlan_88 hl (by decide) rfl (fun ls hl => ?_)
                obtain ⟨w32, q300, ew32, eq300, hf⟩ := op_lb hf
                have hw32 : ∀ n35 : Nat, ∀ (q30 : (Int32 × zMs)) (H : Heap) (locs : List Loc) (ls : Array Slot), lv_has ls 5 [(4, .int q30.1), (0, .ref (q 0)), (1, .int i_1)] → Wd Γ lo S (mcl Γ q q30.2 ++ Y) H → va_S (zA Γ) s.heap H locs → (∀ c, zV S c = zV S c) → lp w32 n35 q30 = some r12 → W p l e (headSpec wsX10_makePlan rmX10_makePlan).room s m ([.ref (q 0), .int i_1] : List Value).toArray below meth c H locs 0 0 (MQ below (zQ0 Γ lo S S (mcl Γ q y ++ Y) none True) ([.ref (q 0), .int i_1] : List Value).toArray s 0 0 (zA Γ)) (F0 m 90 ls []) := by
                  intro n35
                  induction n35 with
                  | zero => intro q30 H locs ls hl hW hS hm hf; cases hf
                  | succ n35 ih33 =>
                    intro q30 H locs ls hl hW hS hm hf
                    obtain ⟨n_, r31, hn_, hf, hr34⟩ := op_lq hf
                    cases hn_
                    rw [ew32] at hf
                    refine lv_iload hx hb dX10_makePlan_90 (lv_at hl 0 rfl) ?_
                    refine lv_aload_n hx hb dX10_makePlan_92 rfl (lv_at hl 1 rfl) ?_
                    refine va_get hx hb hts ni_X10_makePlan_X10 hown hKK.1 (wd_x hW (k := 0) rfl) 0 rfl rfl 51 (by decide) (hts (.fieldLink RX10 266 "TiltRouteModel" "planned" "I") (List.mem_of_getElem? (i := 1) rfl)) (fun _ h => h) rfl dX10_makePlan_93 ?_
                    refine lv_icmp_ge (tgt := 119) hx hb dX10_makePlan_96 (by decide) (fun k96 => ?_) (fun k96 => ?_)
                    · have hf := (op_if hf).1 k96
                      obtain ⟨v36, hf, hw_⟩ := op_cl hf
                      have hw_ := zr_r hw_ hr34
                      rw [hw_] at hf
                      exact hj21 q30.2 H locs ls  (lv_sub hl [1, 2] rfl) hW hS hm hf
                    · have hf := (op_if hf).2 k96
                      refine lv_aload_n hx hb dX10_makePlan_99 rfl (lv_at hl 1 rfl) ?_
                      refine va_get hx hb hts ni_X10_makePlan_X10 hown hKK.1 (wd_x hW (k := 0) rfl) 0 rfl rfl 53 (by decide) (hts (.fieldLink RX10 147 "TiltRouteModel" "plan" "[I") (List.mem_of_getElem? (i := 5) rfl)) (fun _ h => h) rfl dX10_makePlan_100 ?_
                      refine lv_iload hx hb dX10_makePlan_103 (lv_at hl 0 rfl) ?_
                      refine lv_aload_n hx hb dX10_makePlan_105 rfl (lv_at hl 1 rfl) ?_
                      refine va_get hx hb hts ni_X10_makePlan_X10 hown hKK.1 (wd_x hW (k := 0) rfl) 0 rfl rfl 52 (by decide) (hts (.fieldLink RX10 144 "TiltRouteModel" "order" "[I") (List.mem_of_getElem? (i := 3) rfl)) (fun _ h => h) rfl dX10_makePlan_106 ?_
                      refine lv_iload hx hb dX10_makePlan_109 (lv_at hl 0 rfl) ?_
                      obtain ⟨h111, hf⟩ := op_gd hf
                      refine va_iald hx hb hKK.1 (wd_x hW (k := 45) rfl) 0 0 (n := 6) rfl rfl h111 dX10_makePlan_111 ?_
                      obtain ⟨h112, hf⟩ := op_gd hf
                      obtain ⟨M37, eM37, hf⟩ := op_st hf
                      refine m_iast hx hb hKK.1 hW hS 53 46 6 rfl h112 eM37 (ms_53 Γ q _ Y _ _) dX10_makePlan_112 (fun H locs hW hS => ?_)
                      obtain ⟨x38, ex38, hf⟩ := op_st hf
                      refine lv_iinc (v := x38) (lv' := [(4, .int x38), (0, .ref (q 0)), (1, .int i_1)]) hx hb dX10_makePlan_113 hl (k := 0) rfl (by rw [ex38]; rfl) (by decide) rfl (fun ls hl => ?_)
                      refine lv_goto (tgt := 90) hx hb dX10_makePlan_116 (by decide) ?_
                      have hf := zr_l hf hr34
                      exact ih33 (x38, M37) H locs ls (lv_sub hl [0, 1, 2] rfl) hW hS hm hf
                rw [eq300] at hf
                exact hw32 _ (x29, M28) H locs ls (lv_sub hl [0, 2, 3] rfl) hW hS hm hf
              refine lv_icmp_eq (tgt := 82) hx hb dX10_makePlan_71 (by decide) (fun k71 => ?_) (fun k71 => ?_)
              · have hf := (op_if hf).1 k71
                exact hj27 () H locs ls  (lv_sub hl [0, 2, 3] rfl) hW hS hm hf
              · have hf := (op_if hf).2 k71
                refine lv_iload_n hx hb dX10_makePlan_74 rfl (lv_at hl 0 rfl) ?_
                refine lv_aload_n hx hb dX10_makePlan_75 rfl (lv_at hl 2 rfl) ?_
                refine va_get hx hb hts ni_X10_makePlan_X10 hown hKK.1 (wd_x hW (k := 0) rfl) 0 rfl rfl 54 (by decide) (hts (.fieldLink RX10 279 "TiltRouteModel" "planLength" "I") (List.mem_of_getElem? (i := 4) rfl)) (fun _ h => h) rfl dX10_makePlan_76 ?_
                refine lv_icmp_ge (tgt := 119) hx hb dX10_makePlan_79 (by decide) (fun k79 => ?_) (fun k79 => ?_)
                · have hf := (op_if hf).1 k79
                  exact hj21 q11.2 H locs ls  (lv_sub hl [2, 3] rfl) hW hS hm hf
                · have hf := (op_if hf).2 k79
                  exact hj27 () H locs ls  (lv_sub hl [0, 2, 3] rfl) hW hS hm hf
        rw [eq110] at hf
        exact hw13 _ (x10, M9) H locs ls (lv_sub hl [0, 1, 2] rfl) hW hS hm hf
      · have hf := (op_if hf).2 k12
        refine lv_aload_n hx hb dX10_makePlan_15 rfl (lv_at hl 1 rfl) ?_
        refine lv_iload_n hx hb dX10_makePlan_16 rfl (lv_at hl 0 rfl) ?_
        obtain ⟨r39, hc40, hf⟩ := op_cl hf
        refine z_callV (As := [.int q3.1]) (rest := []) ⟨hx, hb, hml, hown, hts⟩ (tX10_needsService l Γ lo S q q3.2 Y  hc40) (cwV 1 hts gX10_makePlan_X10_needsService rfl rfl rfl (by decide +kernel) ⟨Nat.le_of_ble_eq_true rfl, Nat.le_of_ble_eq_true rfl⟩) (wd_x hW (k := 0) rfl) rfl hKK hW hS rfl hl.1 rfl (Nat.le_of_ble_eq_true rfl) dX10_makePlan_17 ⟨Nat.zero_le _, Nat.zero_le _⟩ (fun H locs hW hS hm1 hE => ?_)
        have b41 := hE
        obtain ⟨j43, ej43, hf⟩ := op_st hf
        have hj43 : ∀ (S42 : zMs) (H : Heap) (locs : List Loc) (ls : Array Slot), lv_has ls 5 [(2, .int q3.1), (0, .ref (q 0)), (1, .int i_1)] → Wd Γ lo S (mcl Γ q S42 ++ Y) H → va_S (zA Γ) s.heap H locs → (∀ c, zV S c = zV S c) → j43 S42 = some r4 → W p l e (headSpec wsX10_makePlan rmX10_makePlan).room s m ([.ref (q 0), .int i_1] : List Value).toArray below meth c H locs 0 0 (MQ below (zQ0 Γ lo S S (mcl Γ q y ++ Y) none True) ([.ref (q 0), .int i_1] : List Value).toArray s 0 0 (zA Γ)) (F0 m 43 ls []) := by
          intro S42 H locs ls  hl hW hS hm hf
          rw [ej43] at hf
          obtain ⟨x44, ex44, hf⟩ := op_st hf
          refine lv_iinc (v := x44) (lv' := [(2, .int x44), (0, .ref (q 0)), (1, .int i_1)]) hx hb dX10_makePlan_43 hl (k := 0) rfl (by rw [ex44]; rfl) (by decide) rfl (fun ls hl => ?_)
          refine lv_goto (tgt := 7) hx hb dX10_makePlan_46 (by decide) ?_
          have hf := zr_l hf hr7
          exact ih6 (x44, S42) H locs ls (lv_sub hl [0, 1, 2] rfl) hW hS hm hf
        refine lv_if_eq (tgt := 43) hx hb dX10_makePlan_20 (by decide) (fun k20 => ?_) (fun k20 => ?_)
        · have hf := (op_if hf).1 k20
          exact hj43 q3.2 H locs ls  (lv_sub hl [0, 1, 2] rfl) hW hS hm hf
        · have hf := (op_if hf).2 k20
          refine lv_aload_n hx hb dX10_makePlan_23 rfl (lv_at hl 1 rfl) ?_
          refine va_get hx hb hts ni_X10_makePlan_X10 hown hKK.1 (wd_x hW (k := 0) rfl) 0 rfl rfl 52 (by decide) (hts (.fieldLink RX10 144 "TiltRouteModel" "order" "[I") (List.mem_of_getElem? (i := 3) rfl)) (fun _ h => h) rfl dX10_makePlan_24 ?_
          refine lv_aload_n hx hb dX10_makePlan_27 rfl (lv_at hl 1 rfl) ?_
          refine va_get hx hb hts ni_X10_makePlan_X10 hown hKK.1 (wd_x hW (k := 0) rfl) 0 rfl rfl 51 (by decide) (hts (.fieldLink RX10 266 "TiltRouteModel" "planned" "I") (List.mem_of_getElem? (i := 1) rfl)) (fun _ h => h) rfl dX10_makePlan_28 ?_
          refine lv_iload_n hx hb dX10_makePlan_31 rfl (lv_at hl 0 rfl) ?_
          obtain ⟨h32, hf⟩ := op_gd hf
          obtain ⟨M45, eM45, hf⟩ := op_st hf
          refine m_iast hx hb hKK.1 hW hS 52 45 6 rfl h32 eM45 (ms_52 Γ q _ Y _ _) dX10_makePlan_32 (fun H locs hW hS => ?_)
          refine lv_aload_n hx hb dX10_makePlan_33 rfl (lv_at hl 1 rfl) ?_
          refine lv_dup hx hb dX10_makePlan_34 rfl ?_
          refine va_get hx hb hts ni_X10_makePlan_X10 hown hKK.1 (wd_x hW (k := 0) rfl) 0 rfl rfl 51 (by decide) (hts (.fieldLink RX10 266 "TiltRouteModel" "planned" "I") (List.mem_of_getElem? (i := 1) rfl)) (fun _ h => h) rfl dX10_makePlan_35 ?_
          refine lv_iconst (v := (1)) hx hb dX10_makePlan_38 (by decide) ?_
          refine lv_iadd hx hb dX10_makePlan_39 ?_
          obtain ⟨M46, eM46, hf⟩ := op_st hf
          refine m_put hx hb hts ni_X10_makePlan_X10 hown hKK.1 hW hS 51 (by decide) (hts (.fieldLink RX10 266 "TiltRouteModel" "planned" "I") (List.mem_of_getElem? (i := 1) rfl)) rfl rfl rfl eM46 (ms_51 Γ q _ Y _) dX10_makePlan_40 (fun H locs hW hS => ?_)
          exact hj43 M46 H locs ls  (lv_sub hl [0, 1, 2] rfl) hW hS hm hf
  rw [eq30] at hf
  exact hw5 _ (x2, M1) H locs ls (lv_sub hl [0, 1, 2] rfl) hW hS hm hf

theorem ni_X10_way_X10 : ∀ w ∈ wsX100, w ∈ wsX10_way := by decide +kernel
def fX10_way (M : zMs) (i_1 : Int32) : Option (Int32 × zMs) :=
cl (fX10_isVan M i_1) fun r1 =>
st (fun (y4 : Int32) => (cl2 (fX10_refused M y4) fun r7 M9 =>
if r7 = 0 then
cl (fX10_makePlan M9 i_1) fun M13 =>
some (((M13 54 0), M13))
else
some (((0 : Int32), M9)) : Option (Int32 × zMs))) fun j6 =>
if r1 = 0 then
j6 (1 : Int32)
else
j6 (0 : Int32)
abbrev rmX10_way : Room := { frames := 4, cells := 0, slots := 0, locals := 91 }
set_option maxHeartbeats 4000000 in
set_option maxRecDepth 100000 in
theorem tX10_way (l : Launch) (Γ : zG) (lo : zId → Nat) (S : zSt) (q : Nat → Nat) (M : zMs) (Y : va_W) {i_1 : Int32}  {y : (Int32 × zMs)} (hf : fX10_way M i_1 = some y) : Met l yX10_way wsX10_way rmX10_way (zP0 Γ lo S (mcl Γ q M ++ Y) [.ref (q 0), .int i_1]) (zQ0 Γ lo S S (mcl Γ q y.2 ++ Y) (some (.int y.1)) True) 0 0 (zA Γ) := by
  refine Met.ofW (cc := cX10_way) (maxL := 2) (ret := (some .int)) (by decide) rfl ?_
  intro p e s m args below meth c s₁ B hml hv
  obtain ⟨rfl, hW, hKK⟩ := hv
  have hx := B.exec
  have hb := B.bytes
  have hr := B.returns
  have hts := atoms_spec (ws := wsX10_way) B.pre
  have hown : s.vm.findClass RX10 = some m.cls := findClass_of_methodNamed B.named
  have hlocks := B.notSynchronized
  have hS : va_S (zA Γ) s.heap s.heap [] := va_S.rf
  have hm : ∀ c, zV S c = zV S c := fun _ => rfl
  have hl := lv_entry ([.ref (q 0), .int i_1]) (n := 2) (Nat.le_of_ble_eq_true rfl)
  rw [lg_entry_eq]
  generalize (lg_sl ([.ref (q 0), .int i_1]) ++ List.replicate (2 - (lg_sl ([.ref (q 0), .int i_1])).length) Slot.unset).toArray = ls at hl ⊢
  have hl : lv_has ls 2 [(0, .ref (q 0)), (1, .int i_1)] := hl
  obtain ⟨H, hH0⟩ : ∃ H, H = s.heap := ⟨_, rfl⟩
  obtain ⟨locs, hlo0⟩ : ∃ L : List Loc, L = [] := ⟨_, rfl⟩
  have hS : va_S (zA Γ) s.heap H locs := by rw [hH0, hlo0]; exact hS
  have hW : Wd Γ lo S (mcl Γ q M ++ Y) H := by rw [hH0]; exact hW
  rw [← hH0, ← hlo0]
  unfold fX10_way at hf
  refine lv_aload_n hx hb dX10_way_0 rfl (lv_at hl 0 rfl) ?_
  refine lv_iload_n hx hb dX10_way_1 rfl (lv_at hl 1 rfl) ?_
  obtain ⟨r1, hc2, hf⟩ := op_cl hf
  refine z_callS (As := [.int i_1]) (rest := [.ref (q 0)]) ⟨hx, hb, hml, hown, hts⟩ (tX10_isVan l Γ lo S q M Y  hc2) (va_cwS 1 hts gX10_way_X10_isVan rfl rfl rfl (by decide +kernel) ⟨Nat.le_of_ble_eq_true rfl, Nat.le_of_ble_eq_true rfl⟩) hKK hW hS rfl hl.1 rfl (Nat.le_of_ble_eq_true rfl) dX10_way_2 ⟨Nat.zero_le _, Nat.zero_le _⟩ (fun H locs hW hS hm1 hE => ?_)
  have b3 := hE
  obtain ⟨j6, ej6, hf⟩ := op_st hf
  have hj6 : ∀ (y4 : Int32) (H : Heap) (locs : List Loc) (ls : Array Slot) (b5 : y4 = 0 ∨ y4 = 1), lv_has ls 2 [(0, .ref (q 0)), (1, .int i_1)] → Wd Γ lo S (mcl Γ q M ++ Y) H → va_S (zA Γ) s.heap H locs → (∀ c, zV S c = zV S c) → j6 y4 = some y → W p l e (headSpec wsX10_way rmX10_way).room s m ([.ref (q 0), .int i_1] : List Value).toArray below meth c H locs 0 0 (MQ below (zQ0 Γ lo S S (mcl Γ q y.2 ++ Y) (some (.int y.1)) True) ([.ref (q 0), .int i_1] : List Value).toArray s 0 0 (zA Γ)) (F0 m 13 ls [.int y4, .ref (q 0)]) := by
    intro y4 H locs ls b5 hl hW hS hm hf
    rw [ej6] at hf
    obtain ⟨r7, M9, hc8, hf⟩ := op_cl2 hf
    refine z_callV (As := [.int y4]) (rest := []) ⟨hx, hb, hml, hown, hts⟩ (tX10_refused l Γ lo S q M Y  hc8) (cwV 1 hts gX10_way_X10_refused rfl rfl rfl (by decide +kernel) ⟨Nat.le_of_ble_eq_true rfl, Nat.le_of_ble_eq_true rfl⟩) (wd_x hW (k := 0) rfl) rfl hKK hW hS rfl hl.1 rfl (Nat.le_of_ble_eq_true rfl) dX10_way_13 ⟨Nat.zero_le _, Nat.zero_le _⟩ (fun H locs hW hS hm1 hE => ?_)
    have b10 := hE
    refine lv_if_eq (tgt := 21) hx hb dX10_way_16 (by decide) (fun k16 => ?_) (fun k16 => ?_)
    · have hf := (op_if hf).1 k16
      refine lv_aload_n hx hb dX10_way_21 rfl (lv_at hl 0 rfl) ?_
      refine lv_iload_n hx hb dX10_way_22 rfl (lv_at hl 1 rfl) ?_
      obtain ⟨M13, hc12, hf⟩ := op_cl hf
      refine z_callV (As := [.int i_1]) (rest := []) ⟨hx, hb, hml, hown, hts⟩ (tX10_makePlan l Γ lo S q M9 Y  hc12) (cwV 1 hts gX10_way_X10_makePlan rfl rfl rfl (by decide +kernel) ⟨Nat.le_of_ble_eq_true rfl, Nat.le_of_ble_eq_true rfl⟩) (wd_x hW (k := 0) rfl) rfl hKK hW hS rfl hl.1 rfl (Nat.le_of_ble_eq_true rfl) dX10_way_23 ⟨Nat.zero_le _, Nat.zero_le _⟩ (fun H locs hW hS hm1 hE => ?_)
      refine lv_aload_n hx hb dX10_way_26 rfl (lv_at hl 0 rfl) ?_
      refine va_get hx hb hts ni_X10_way_X10 hown hKK.1 (wd_x hW (k := 0) rfl) 0 rfl rfl 54 (by decide) (hts (.fieldLink RX10 279 "TiltRouteModel" "planLength" "I") (List.mem_of_getElem? (i := 1) rfl)) (fun _ h => h) rfl dX10_way_27 ?_
      have hf := Option.some.inj hf
      rw [← hf]
      exact z_iret hx hb hr hlocks rfl hW hS hm trivial dX10_way_30
    · have hf := (op_if hf).2 k16
      refine lv_iconst (v := (0)) hx hb dX10_way_19 (by decide) ?_
      have hf := Option.some.inj hf
      rw [← hf]
      exact z_iret hx hb hr hlocks rfl hW hS hm trivial dX10_way_20
  refine lv_if_eq (tgt := 12) hx hb dX10_way_5 (by decide) (fun k5 => ?_) (fun k5 => ?_)
  · have hf := (op_if hf).1 k5
    refine lv_iconst (v := (1)) hx hb dX10_way_12 (by decide) ?_
    exact hj6 (1 : Int32) H locs ls (Or.inr rfl) (lv_sub hl [0, 1] rfl) hW hS hm hf
  · have hf := (op_if hf).2 k5
    refine lv_iconst (v := (0)) hx hb dX10_way_8 (by decide) ?_
    refine lv_goto (tgt := 13) hx hb dX10_way_9 (by decide) ?_
    exact hj6 (0 : Int32) H locs ls (Or.inl rfl) (lv_sub hl [0, 1] rfl) hW hS hm hf

theorem ni_X10_planned_X10 : ∀ w ∈ wsX100, w ∈ wsX10_planned := by decide +kernel
def fX10_planned (M : zMs) (i_1 : Int32) (i_2 : Int32) : Option (Int32 × zMs) :=
cl (fX10_isVan M i_1) fun r1 =>
st (fun (y4 : Int32) => (st y4 fun x7 =>
st (fun (S8 : zMs) => (st (fun (y10 : Int32) => (cl2 (fX10_refused S8 y10) fun r13 M15 =>
if r13 = 0 then
gd (¬ (i_2 < 0 ∨ 6 ≤ i_2.toNatClampNeg)) (
some (((M15 53 i_2.toNatClampNeg), M15)))
else
some (((0 : Int32), M15)) : Option (Int32 × zMs))) fun j12 =>
st (fun (u_ : Unit) => (j12 (1 : Int32) : Option (Int32 × zMs))) fun j17 =>
if x7 = 0 then
j17 ()
else
if (S8 51 0) ≤ i_2 then
j17 ()
else
j12 (0 : Int32) : Option (Int32 × zMs))) fun j9 =>
if x7 = 0 then
j9 M
else
cl (fX10_makePlan M i_1) fun M20 =>
j9 M20 : Option (Int32 × zMs))) fun j6 =>
st (fun (u_ : Unit) => (j6 (0 : Int32) : Option (Int32 × zMs))) fun j21 =>
if r1 = 0 then
j21 ()
else
if i_2 < 0 then
j21 ()
else
j6 (1 : Int32)
abbrev rmX10_planned : Room := { frames := 4, cells := 0, slots := 0, locals := 91 }
set_option maxHeartbeats 4000000 in
set_option maxRecDepth 100000 in
theorem tX10_planned (l : Launch) (Γ : zG) (lo : zId → Nat) (S : zSt) (q : Nat → Nat) (M : zMs) (Y : va_W) {i_1 : Int32} {i_2 : Int32}  {y : (Int32 × zMs)} (hf : fX10_planned M i_1 i_2 = some y) : Met l yX10_planned wsX10_planned rmX10_planned (zP0 Γ lo S (mcl Γ q M ++ Y) [.ref (q 0), .int i_1, .int i_2]) (zQ0 Γ lo S S (mcl Γ q y.2 ++ Y) (some (.int y.1)) True) 0 0 (zA Γ) := by
  refine Met.ofW (cc := cX10_planned) (maxL := 4) (ret := (some .int)) (by decide) rfl ?_
  intro p e s m args below meth c s₁ B hml hv
  obtain ⟨rfl, hW, hKK⟩ := hv
  have hx := B.exec
  have hb := B.bytes
  have hr := B.returns
  have hts := atoms_spec (ws := wsX10_planned) B.pre
  have hown : s.vm.findClass RX10 = some m.cls := findClass_of_methodNamed B.named
  have hlocks := B.notSynchronized
  have hS : va_S (zA Γ) s.heap s.heap [] := va_S.rf
  have hm : ∀ c, zV S c = zV S c := fun _ => rfl
  have hl := lv_entry ([.ref (q 0), .int i_1, .int i_2]) (n := 4) (Nat.le_of_ble_eq_true rfl)
  rw [lg_entry_eq]
  generalize (lg_sl ([.ref (q 0), .int i_1, .int i_2]) ++ List.replicate (4 - (lg_sl ([.ref (q 0), .int i_1, .int i_2])).length) Slot.unset).toArray = ls at hl ⊢
  have hl : lv_has ls 4 [(0, .ref (q 0)), (1, .int i_1), (2, .int i_2)] := hl
  obtain ⟨H, hH0⟩ : ∃ H, H = s.heap := ⟨_, rfl⟩
  obtain ⟨locs, hlo0⟩ : ∃ L : List Loc, L = [] := ⟨_, rfl⟩
  have hS : va_S (zA Γ) s.heap H locs := by rw [hH0, hlo0]; exact hS
  have hW : Wd Γ lo S (mcl Γ q M ++ Y) H := by rw [hH0]; exact hW
  rw [← hH0, ← hlo0]
  unfold fX10_planned at hf
  refine lv_iload_n hx hb dX10_planned_0 rfl (lv_at hl 1 rfl) ?_
  obtain ⟨r1, hc2, hf⟩ := op_cl hf
  refine z_callS (As := [.int i_1]) (rest := []) ⟨hx, hb, hml, hown, hts⟩ (tX10_isVan l Γ lo S q M Y  hc2) (va_cwS 1 hts gX10_planned_X10_isVan rfl rfl rfl (by decide +kernel) ⟨Nat.le_of_ble_eq_true rfl, Nat.le_of_ble_eq_true rfl⟩) hKK hW hS rfl hl.1 rfl (Nat.le_of_ble_eq_true rfl) dX10_planned_1 ⟨Nat.zero_le _, Nat.zero_le _⟩ (fun H locs hW hS hm1 hE => ?_)
  have b3 := hE
  obtain ⟨j6, ej6, hf⟩ := op_st hf
  have hj6 : ∀ (y4 : Int32) (H : Heap) (locs : List Loc) (ls : Array Slot) (b5 : y4 = 0 ∨ y4 = 1), lv_has ls 4 [(0, .ref (q 0)), (1, .int i_1), (2, .int i_2)] → Wd Γ lo S (mcl Γ q M ++ Y) H → va_S (zA Γ) s.heap H locs → (∀ c, zV S c = zV S c) → j6 y4 = some y → W p l e (headSpec wsX10_planned rmX10_planned).room s m ([.ref (q 0), .int i_1, .int i_2] : List Value).toArray below meth c H locs 0 0 (MQ below (zQ0 Γ lo S S (mcl Γ q y.2 ++ Y) (some (.int y.1)) True) ([.ref (q 0), .int i_1, .int i_2] : List Value).toArray s 0 0 (zA Γ)) (F0 m 16 ls [.int y4]) := by
    intro y4 H locs ls b5 hl hW hS hm hf
    rw [ej6] at hf
    obtain ⟨x7, ex7, hf⟩ := op_st hf
    have bx7 : x7 = 0 ∨ x7 = 1 := by rw [ex7]; exact b5
    refine z_istn (lv' := [(3, .int x7), (0, .ref (q 0)), (1, .int i_1), (2, .int i_2)]) ex7 hx hb dX10_planned_16 rfl hl (by decide) rfl (fun ls hl => ?_)
    refine lv_iload_n hx hb dX10_planned_17 rfl (lv_at hl 0 rfl) ?_
    obtain ⟨j9, ej9, hf⟩ := op_st hf
    have hj9 : ∀ (S8 : zMs) (H : Heap) (locs : List Loc) (ls : Array Slot), lv_has ls 4 [(3, .int x7), (0, .ref (q 0)), (2, .int i_2)] → Wd Γ lo S (mcl Γ q S8 ++ Y) H → va_S (zA Γ) s.heap H locs → (∀ c, zV S c = zV S c) → j9 S8 = some y → W p l e (headSpec wsX10_planned rmX10_planned).room s m ([.ref (q 0), .int i_1, .int i_2] : List Value).toArray below meth c H locs 0 0 (MQ below (zQ0 Γ lo S S (mcl Γ q y.2 ++ Y) (some (.int y.1)) True) ([.ref (q 0), .int i_1, .int i_2] : List Value).toArray s 0 0 (zA Γ)) (F0 m 26 ls []) := by
      intro S8 H locs ls  hl hW hS hm hf
      rw [ej9] at hf
      refine lv_aload_n hx hb dX10_planned_26 rfl (lv_at hl 1 rfl) ?_
      refine lv_iload_n hx hb dX10_planned_27 rfl (lv_at hl 0 rfl) ?_
      obtain ⟨j12, ej12, hf⟩ := op_st hf
      have hj12 : ∀ (y10 : Int32) (H : Heap) (locs : List Loc) (ls : Array Slot) (b11 : y10 = 0 ∨ y10 = 1), lv_has ls 4 [(0, .ref (q 0)), (2, .int i_2)] → Wd Γ lo S (mcl Γ q S8 ++ Y) H → va_S (zA Γ) s.heap H locs → (∀ c, zV S c = zV S c) → j12 y10 = some y → W p l e (headSpec wsX10_planned rmX10_planned).room s m ([.ref (q 0), .int i_1, .int i_2] : List Value).toArray below meth c H locs 0 0 (MQ below (zQ0 Γ lo S S (mcl Γ q y.2 ++ Y) (some (.int y.1)) True) ([.ref (q 0), .int i_1, .int i_2] : List Value).toArray s 0 0 (zA Γ)) (F0 m 44 ls [.int y10, .ref (q 0)]) := by
        intro y10 H locs ls b11 hl hW hS hm hf
        rw [ej12] at hf
        obtain ⟨r13, M15, hc14, hf⟩ := op_cl2 hf
        refine z_callV (As := [.int y10]) (rest := []) ⟨hx, hb, hml, hown, hts⟩ (tX10_refused l Γ lo S q S8 Y  hc14) (cwV 1 hts gX10_planned_X10_refused rfl rfl rfl (by decide +kernel) ⟨Nat.le_of_ble_eq_true rfl, Nat.le_of_ble_eq_true rfl⟩) (wd_x hW (k := 0) rfl) rfl hKK hW hS rfl hl.1 rfl (Nat.le_of_ble_eq_true rfl) dX10_planned_44 ⟨Nat.zero_le _, Nat.zero_le _⟩ (fun H locs hW hS hm1 hE => ?_)
        have b16 := hE
        refine lv_if_eq (tgt := 54) hx hb dX10_planned_47 (by decide) (fun k47 => ?_) (fun k47 => ?_)
        · have hf := (op_if hf).1 k47
          refine lv_aload_n hx hb dX10_planned_54 rfl (lv_at hl 0 rfl) ?_
          refine va_get hx hb hts ni_X10_planned_X10 hown hKK.1 (wd_x hW (k := 0) rfl) 0 rfl rfl 53 (by decide) (hts (.fieldLink RX10 147 "TiltRouteModel" "plan" "[I") (List.mem_of_getElem? (i := 2) rfl)) (fun _ h => h) rfl dX10_planned_55 ?_
          refine lv_iload_n hx hb dX10_planned_58 rfl (lv_at hl 1 rfl) ?_
          obtain ⟨h59, hf⟩ := op_gd hf
          refine va_iald hx hb hKK.1 (wd_x hW (k := 46) rfl) 0 0 (n := 6) rfl rfl h59 dX10_planned_59 ?_
          have hf := Option.some.inj hf
          rw [← hf]
          exact z_iret hx hb hr hlocks rfl hW hS hm trivial dX10_planned_60
        · have hf := (op_if hf).2 k47
          refine lv_iconst (v := (0)) hx hb dX10_planned_50 (by decide) ?_
          refine lv_goto (tgt := 60) hx hb dX10_planned_51 (by decide) ?_
          have hf := Option.some.inj hf
          rw [← hf]
          exact z_iret hx hb hr hlocks rfl hW hS hm trivial dX10_planned_60
      obtain ⟨j17, ej17, hf⟩ := op_st hf
      have hj17 : ∀ (u_ : Unit) (H : Heap) (locs : List Loc) (ls : Array Slot), lv_has ls 4 [(0, .ref (q 0)), (2, .int i_2)] → Wd Γ lo S (mcl Γ q S8 ++ Y) H → va_S (zA Γ) s.heap H locs → (∀ c, zV S c = zV S c) → j17 () = some y → W p l e (headSpec wsX10_planned rmX10_planned).room s m ([.ref (q 0), .int i_1, .int i_2] : List Value).toArray below meth c H locs 0 0 (MQ below (zQ0 Γ lo S S (mcl Γ q y.2 ++ Y) (some (.int y.1)) True) ([.ref (q 0), .int i_1, .int i_2] : List Value).toArray s 0 0 (zA Γ)) (F0 m 43 ls [.ref (q 0)]) := by
        intro u_ H locs ls  hl hW hS hm hf
        rw [ej17] at hf
        refine lv_iconst (v := (1)) hx hb dX10_planned_43 (by decide) ?_
        exact hj12 (1 : Int32) H locs ls (Or.inr rfl) (lv_sub hl [0, 1] rfl) hW hS hm hf
      refine lv_if_eq (tgt := 43) hx hb dX10_planned_28 (by decide) (fun k28 => ?_) (fun k28 => ?_)
      · have hf := (op_if hf).1 k28
        exact hj17 () H locs ls  (lv_sub hl [1, 2] rfl) hW hS hm hf
      · have hf := (op_if hf).2 k28
        refine lv_iload_n hx hb dX10_planned_31 rfl (lv_at hl 2 rfl) ?_
        refine lv_aload_n hx hb dX10_planned_32 rfl (lv_at hl 1 rfl) ?_
        refine va_get hx hb hts ni_X10_planned_X10 hown hKK.1 (wd_x hW (k := 0) rfl) 0 rfl rfl 51 (by decide) (hts (.fieldLink RX10 266 "TiltRouteModel" "planned" "I") (List.mem_of_getElem? (i := 1) rfl)) (fun _ h => h) rfl dX10_planned_33 ?_
        refine lv_icmp_ge (tgt := 43) hx hb dX10_planned_36 (by decide) (fun k36 => ?_) (fun k36 => ?_)
        · have hf := (op_if hf).1 k36
          exact hj17 () H locs ls  (lv_sub hl [1, 2] rfl) hW hS hm hf
        · have hf := (op_if hf).2 k36
          refine lv_iconst (v := (0)) hx hb dX10_planned_39 (by decide) ?_
          refine lv_goto (tgt := 44) hx hb dX10_planned_40 (by decide) ?_
          exact hj12 (0 : Int32) H locs ls (Or.inl rfl) (lv_sub hl [1, 2] rfl) hW hS hm hf
    refine lv_if_eq (tgt := 26) hx hb dX10_planned_18 (by decide) (fun k18 => ?_) (fun k18 => ?_)
    · have hf := (op_if hf).1 k18
      exact hj9 M H locs ls  (lv_sub hl [0, 1, 3] rfl) hW hS hm hf
    · have hf := (op_if hf).2 k18
      refine lv_aload_n hx hb dX10_planned_21 rfl (lv_at hl 1 rfl) ?_
      refine lv_iload_n hx hb dX10_planned_22 rfl (lv_at hl 2 rfl) ?_
      obtain ⟨M20, hc19, hf⟩ := op_cl hf
      refine z_callV (As := [.int i_1]) (rest := []) ⟨hx, hb, hml, hown, hts⟩ (tX10_makePlan l Γ lo S q M Y  hc19) (cwV 1 hts gX10_planned_X10_makePlan rfl rfl rfl (by decide +kernel) ⟨Nat.le_of_ble_eq_true rfl, Nat.le_of_ble_eq_true rfl⟩) (wd_x hW (k := 0) rfl) rfl hKK hW hS rfl hl.1 rfl (Nat.le_of_ble_eq_true rfl) dX10_planned_23 ⟨Nat.zero_le _, Nat.zero_le _⟩ (fun H locs hW hS hm1 hE => ?_)
      exact hj9 M20 H locs ls  (lv_sub hl [0, 1, 3] rfl) hW hS hm hf
  obtain ⟨j21, ej21, hf⟩ := op_st hf
  have hj21 : ∀ (u_ : Unit) (H : Heap) (locs : List Loc) (ls : Array Slot), lv_has ls 4 [(0, .ref (q 0)), (1, .int i_1), (2, .int i_2)] → Wd Γ lo S (mcl Γ q M ++ Y) H → va_S (zA Γ) s.heap H locs → (∀ c, zV S c = zV S c) → j21 () = some y → W p l e (headSpec wsX10_planned rmX10_planned).room s m ([.ref (q 0), .int i_1, .int i_2] : List Value).toArray below meth c H locs 0 0 (MQ below (zQ0 Γ lo S S (mcl Γ q y.2 ++ Y) (some (.int y.1)) True) ([.ref (q 0), .int i_1, .int i_2] : List Value).toArray s 0 0 (zA Γ)) (F0 m 15 ls []) := by
    intro u_ H locs ls  hl hW hS hm hf
    rw [ej21] at hf
    refine lv_iconst (v := (0)) hx hb dX10_planned_15 (by decide) ?_
    exact hj6 (0 : Int32) H locs ls (Or.inl rfl) (lv_sub hl [0, 1, 2] rfl) hW hS hm hf
  refine lv_if_eq (tgt := 15) hx hb dX10_planned_4 (by decide) (fun k4 => ?_) (fun k4 => ?_)
  · have hf := (op_if hf).1 k4
    exact hj21 () H locs ls  (lv_sub hl [0, 1, 2] rfl) hW hS hm hf
  · have hf := (op_if hf).2 k4
    refine lv_iload_n hx hb dX10_planned_7 rfl (lv_at hl 2 rfl) ?_
    refine lv_if_lt (tgt := 15) hx hb dX10_planned_8 (by decide) (fun k8 => ?_) (fun k8 => ?_)
    · have hf := (op_if hf).1 k8
      exact hj21 () H locs ls  (lv_sub hl [0, 1, 2] rfl) hW hS hm hf
    · have hf := (op_if hf).2 k8
      refine lv_iconst (v := (1)) hx hb dX10_planned_11 (by decide) ?_
      refine lv_goto (tgt := 16) hx hb dX10_planned_12 (by decide) ?_
      exact hj6 (1 : Int32) H locs ls (Or.inr rfl) (lv_sub hl [0, 1, 2] rfl) hW hS hm hf

theorem ni_X10_mend_X10 : ∀ w ∈ wsX100, w ∈ wsX10_mend := by decide +kernel
def fX10_mend (M : zMs) (i_1 : Int32) (i_2 : Int32) (i_3 : Int32) : Option zMs :=
st ((8 : Int32) * i_2) fun x1 =>
lp (fun (q2 : (Int32 × zMs)) => (gd (¬ (i_2 < 0 ∨ 6 ≤ i_2.toNatClampNeg)) (
if (((8 : Int32) * i_2) + (q2.2 8 i_2.toNatClampNeg)) ≤ q2.1 then
some (.inr (q2.2))
else
gd (¬ ((((2 : Int32) * i_1) + i_3) < 0 ∨ 4 ≤ (((2 : Int32) * i_1) + i_3).toNatClampNeg)) (
if (q2.2 50 (((2 : Int32) * i_1) + i_3).toNatClampNeg) ≤ 0 then
some (.inr (q2.2))
else
cl (fX10_isBad q2.2 q2.1 i_3) fun r8 =>
st (fun (S11 : zMs) => (st (q2.1 + (1 : Int32)) fun x13 =>
some (.inl (x13, S11)) : Option ((Int32 × zMs) ⊕ zMs))) fun j12 =>
if r8 = 0 then
j12 q2.2
else
gd (¬ ((((2 : Int32) * i_1) + i_3) < 0 ∨ 4 ≤ (((2 : Int32) * i_1) + i_3).toNatClampNeg)) (
gd (¬ ((((2 : Int32) * i_1) + i_3) < 0 ∨ 4 ≤ (((2 : Int32) * i_1) + i_3).toNatClampNeg)) (
st (pM q2.2 50 (((2 : Int32) * i_1) + i_3).toNatClampNeg ((q2.2 50 (((2 : Int32) * i_1) + i_3).toNatClampNeg) - (1 : Int32))) fun M14 =>
if i_3 = 0 then
gd (¬ (q2.1 < 0 ∨ 48 ≤ q2.1.toNatClampNeg)) (
gd (¬ ((M14 16 q2.1.toNatClampNeg) < 0 ∨ 60 ≤ (M14 16 q2.1.toNatClampNeg).toNatClampNeg)) (
st (pM M14 23 (M14 16 q2.1.toNatClampNeg).toNatClampNeg (vp_nar .boolean (1 : Int32))) fun M16 =>
gd (¬ (q2.1 < 0 ∨ 48 ≤ q2.1.toNatClampNeg)) (
st (pM M16 16 q2.1.toNatClampNeg (-1 : Int32)) fun M17 =>
j12 M17)))
else
gd (¬ (q2.1 < 0 ∨ 48 ≤ q2.1.toNatClampNeg)) (
st (pM M14 15 q2.1.toNatClampNeg (0 : Int32)) fun M15 =>
j12 M15))))) : Option ((Int32 × zMs) ⊕ zMs))) 40000 (x1, M)
abbrev rmX10_mend : Room := { frames := 1, cells := 0, slots := 0, locals := 22 }
set_option maxHeartbeats 4000000 in
set_option maxRecDepth 100000 in
theorem tX10_mend (l : Launch) (Γ : zG) (lo : zId → Nat) (S : zSt) (q : Nat → Nat) (M : zMs) (Y : va_W) {i_1 : Int32} {i_2 : Int32} {i_3 : Int32}  {y : zMs} (hf : fX10_mend M i_1 i_2 i_3 = some y) : Met l yX10_mend wsX10_mend rmX10_mend (zP0 Γ lo S (mcl Γ q M ++ Y) [.ref (q 0), .int i_1, .int i_2, .int i_3]) (zQ0 Γ lo S S (mcl Γ q y ++ Y) none True) 0 0 (zA Γ) := by
  refine Met.ofW (cc := cX10_mend) (maxL := 5) (ret := none) (by decide) rfl ?_
  intro p e s m args below meth c s₁ B hml hv
  obtain ⟨rfl, hW, hKK⟩ := hv
  have hx := B.exec
  have hb := B.bytes
  have hr := B.returns
  have hts := atoms_spec (ws := wsX10_mend) B.pre
  have hown : s.vm.findClass RX10 = some m.cls := findClass_of_methodNamed B.named
  have hlocks := B.notSynchronized
  have hS : va_S (zA Γ) s.heap s.heap [] := va_S.rf
  have hm : ∀ c, zV S c = zV S c := fun _ => rfl
  have hl := lv_entry ([.ref (q 0), .int i_1, .int i_2, .int i_3]) (n := 5) (Nat.le_of_ble_eq_true rfl)
  rw [lg_entry_eq]
  generalize (lg_sl ([.ref (q 0), .int i_1, .int i_2, .int i_3]) ++ List.replicate (5 - (lg_sl ([.ref (q 0), .int i_1, .int i_2, .int i_3])).length) Slot.unset).toArray = ls at hl ⊢
  have hl : lv_has ls 5 [(0, .ref (q 0)), (1, .int i_1), (2, .int i_2), (3, .int i_3)] := hl
  obtain ⟨H, hH0⟩ : ∃ H, H = s.heap := ⟨_, rfl⟩
  obtain ⟨locs, hlo0⟩ : ∃ L : List Loc, L = [] := ⟨_, rfl⟩
  have hS : va_S (zA Γ) s.heap H locs := by rw [hH0, hlo0]; exact hS
  have hW : Wd Γ lo S (mcl Γ q M ++ Y) H := by rw [hH0]; exact hW
  rw [← hH0, ← hlo0]
  unfold fX10_mend at hf
  refine lv_bipush (v := (8)) hx hb dX10_mend_0 (by decide) ?_
  refine lv_iload_n hx hb dX10_mend_2 rfl (lv_at hl 2 rfl) ?_
  refine lv_imul hx hb dX10_mend_3 ?_
  obtain ⟨x1, ex1, hf⟩ := op_st hf
  refine z_ist (lv' := [(4, .int x1), (0, .ref (q 0)), (1, .int i_1), (2, .int i_2), (3, .int i_3)]) ex1 hx hb dX10_mend_4 hl (by decide) rfl (fun ls hl => ?_)
  obtain ⟨w4, q20, ew4, eq20, hf⟩ := op_lb hf
  have hw4 : ∀ n7 : Nat, ∀ (q2 : (Int32 × zMs)) (H : Heap) (locs : List Loc) (ls : Array Slot), lv_has ls 5 [(4, .int q2.1), (0, .ref (q 0)), (1, .int i_1), (2, .int i_2), (3, .int i_3)] → Wd Γ lo S (mcl Γ q q2.2 ++ Y) H → va_S (zA Γ) s.heap H locs → (∀ c, zV S c = zV S c) → lp w4 n7 q2 = some y → W p l e (headSpec wsX10_mend rmX10_mend).room s m ([.ref (q 0), .int i_1, .int i_2, .int i_3] : List Value).toArray below meth c H locs 0 0 (MQ below (zQ0 Γ lo S S (mcl Γ q y ++ Y) none True) ([.ref (q 0), .int i_1, .int i_2, .int i_3] : List Value).toArray s 0 0 (zA Γ)) (F0 m 6 ls []) := by
    intro n7
    induction n7 with
    | zero => intro q2 H locs ls hl hW hS hm hf; cases hf
    | succ n7 ih5 =>
      intro q2 H locs ls hl hW hS hm hf
      obtain ⟨n_, r3, hn_, hf, hr6⟩ := op_lq hf
      cases hn_
      rw [ew4] at hf
      refine lv_iload hx hb dX10_mend_6 (lv_at hl 0 rfl) ?_
      refine lv_bipush (v := (8)) hx hb dX10_mend_8 (by decide) ?_
      refine lv_iload_n hx hb dX10_mend_10 rfl (lv_at hl 3 rfl) ?_
      refine lv_imul hx hb dX10_mend_11 ?_
      refine lv_aload_n hx hb dX10_mend_12 rfl (lv_at hl 1 rfl) ?_
      refine va_get hx hb hts ni_X10_mend_X10 hown hKK.1 (wd_x hW (k := 0) rfl) 0 rfl rfl 8 (by decide) (hts (.fieldLink RX10 28 "TiltRouteModel" "bumpers" "[I") (List.mem_of_getElem? (i := 1) rfl)) (fun _ h => h) rfl dX10_mend_13 ?_
      refine lv_iload_n hx hb dX10_mend_16 rfl (lv_at hl 3 rfl) ?_
      obtain ⟨h17, hf⟩ := op_gd hf
      refine va_iald hx hb hKK.1 (wd_x hW (k := 7) rfl) 0 0 (n := 6) rfl rfl h17 dX10_mend_17 ?_
      refine lv_iadd hx hb dX10_mend_18 ?_
      refine lv_icmp_ge (tgt := 101) hx hb dX10_mend_19 (by decide) (fun k19 => ?_) (fun k19 => ?_)
      · have hf := (op_if hf).1 k19
        have hf := zr_r hf hr6
        rw [← hf]
        exact z_vret hx hb hr hlocks hW hS hm trivial dX10_mend_101
      · have hf := (op_if hf).2 k19
        refine lv_aload_n hx hb dX10_mend_22 rfl (lv_at hl 1 rfl) ?_
        refine va_get hx hb hts ni_X10_mend_X10 hown hKK.1 (wd_x hW (k := 0) rfl) 0 rfl rfl 50 (by decide) (hts (.fieldLink RX10 141 "TiltRouteModel" "spares" "[I") (List.mem_of_getElem? (i := 2) rfl)) (fun _ h => h) rfl dX10_mend_23 ?_
        refine lv_iconst (v := (2)) hx hb dX10_mend_26 (by decide) ?_
        refine lv_iload_n hx hb dX10_mend_27 rfl (lv_at hl 2 rfl) ?_
        refine lv_imul hx hb dX10_mend_28 ?_
        refine lv_iload_n hx hb dX10_mend_29 rfl (lv_at hl 4 rfl) ?_
        refine lv_iadd hx hb dX10_mend_30 ?_
        obtain ⟨h31, hf⟩ := op_gd hf
        refine va_iald hx hb hKK.1 (wd_x hW (k := 44) rfl) 0 0 (n := 4) rfl rfl h31 dX10_mend_31 ?_
        refine lv_if_le (tgt := 101) hx hb dX10_mend_32 (by decide) (fun k32 => ?_) (fun k32 => ?_)
        · have hf := (op_if hf).1 k32
          have hf := zr_r hf hr6
          rw [← hf]
          exact z_vret hx hb hr hlocks hW hS hm trivial dX10_mend_101
        · have hf := (op_if hf).2 k32
          refine lv_aload_n hx hb dX10_mend_35 rfl (lv_at hl 1 rfl) ?_
          refine lv_iload hx hb dX10_mend_36 (lv_at hl 0 rfl) ?_
          refine lv_iload_n hx hb dX10_mend_38 rfl (lv_at hl 4 rfl) ?_
          obtain ⟨r8, hc9, hf⟩ := op_cl hf
          refine z_callV (As := [.int q2.1, .int i_3]) (rest := []) ⟨hx, hb, hml, hown, hts⟩ (tX10_isBad l Γ lo S q q2.2 Y  hc9) (cwV 2 hts gX10_mend_X10_isBad rfl rfl rfl (by decide +kernel) ⟨Nat.le_of_ble_eq_true rfl, Nat.le_of_ble_eq_true rfl⟩) (wd_x hW (k := 0) rfl) rfl hKK hW hS rfl hl.1 rfl (Nat.le_of_ble_eq_true rfl) dX10_mend_39 ⟨Nat.zero_le _, Nat.zero_le _⟩ (fun H locs hW hS hm1 hE => ?_)
          have b10 := hE
          obtain ⟨j12, ej12, hf⟩ := op_st hf
          have hj12 : ∀ (S11 : zMs) (H : Heap) (locs : List Loc) (ls : Array Slot), lv_has ls 5 [(4, .int q2.1), (0, .ref (q 0)), (1, .int i_1), (2, .int i_2), (3, .int i_3)] → Wd Γ lo S (mcl Γ q S11 ++ Y) H → va_S (zA Γ) s.heap H locs → (∀ c, zV S c = zV S c) → j12 S11 = some r3 → W p l e (headSpec wsX10_mend rmX10_mend).room s m ([.ref (q 0), .int i_1, .int i_2, .int i_3] : List Value).toArray below meth c H locs 0 0 (MQ below (zQ0 Γ lo S S (mcl Γ q y ++ Y) none True) ([.ref (q 0), .int i_1, .int i_2, .int i_3] : List Value).toArray s 0 0 (zA Γ)) (F0 m 95 ls []) := by
            intro S11 H locs ls  hl hW hS hm hf
            rw [ej12] at hf
            obtain ⟨x13, ex13, hf⟩ := op_st hf
            refine lv_iinc (v := x13) (lv' := [(4, .int x13), (0, .ref (q 0)), (1, .int i_1), (2, .int i_2), (3, .int i_3)]) hx hb dX10_mend_95 hl (k := 0) rfl (by rw [ex13]; rfl) (by decide) rfl (fun ls hl => ?_)
            refine lv_goto (tgt := 6) hx hb dX10_mend_98 (by decide) ?_
            have hf := zr_l hf hr6
            exact ih5 (x13, S11) H locs ls (lv_sub hl [0, 1, 2, 3, 4] rfl) hW hS hm hf
          refine lv_if_eq (tgt := 95) hx hb dX10_mend_42 (by decide) (fun k42 => ?_) (fun k42 => ?_)
          · have hf := (op_if hf).1 k42
            exact hj12 q2.2 H locs ls  (lv_sub hl [0, 1, 2, 3, 4] rfl) hW hS hm hf
          · have hf := (op_if hf).2 k42
            refine lv_aload_n hx hb dX10_mend_45 rfl (lv_at hl 1 rfl) ?_
            refine va_get hx hb hts ni_X10_mend_X10 hown hKK.1 (wd_x hW (k := 0) rfl) 0 rfl rfl 50 (by decide) (hts (.fieldLink RX10 141 "TiltRouteModel" "spares" "[I") (List.mem_of_getElem? (i := 2) rfl)) (fun _ h => h) rfl dX10_mend_46 ?_
            refine lv_iconst (v := (2)) hx hb dX10_mend_49 (by decide) ?_
            refine lv_iload_n hx hb dX10_mend_50 rfl (lv_at hl 2 rfl) ?_
            refine lv_imul hx hb dX10_mend_51 ?_
            refine lv_iload_n hx hb dX10_mend_52 rfl (lv_at hl 4 rfl) ?_
            refine lv_iadd hx hb dX10_mend_53 ?_
            refine lv_dup2_11 hx hb dX10_mend_54 rfl rfl ?_
            obtain ⟨h55, hf⟩ := op_gd hf
            refine va_iald hx hb hKK.1 (wd_x hW (k := 44) rfl) 0 0 (n := 4) rfl rfl h55 dX10_mend_55 ?_
            refine lv_iconst (v := (1)) hx hb dX10_mend_56 (by decide) ?_
            refine lv_isub hx hb dX10_mend_57 ?_
            obtain ⟨h58, hf⟩ := op_gd hf
            obtain ⟨M14, eM14, hf⟩ := op_st hf
            refine m_iast hx hb hKK.1 hW hS 50 44 4 rfl h58 eM14 (ms_50 Γ q _ Y _ _) dX10_mend_58 (fun H locs hW hS => ?_)
            refine lv_iload_n hx hb dX10_mend_59 rfl (lv_at hl 4 rfl) ?_
            refine lv_if_ne (tgt := 87) hx hb dX10_mend_60 (by decide) (fun k60 => ?_) (fun k60 => ?_)
            · have hf := (op_if hf).2 k60
              refine lv_aload_n hx hb dX10_mend_87 rfl (lv_at hl 1 rfl) ?_
              refine va_get hx hb hts ni_X10_mend_X10 hown hKK.1 (wd_x hW (k := 0) rfl) 0 rfl rfl 15 (by decide) (hts (.fieldLink RX10 49 "TiltRouteModel" "wears" "[I") (List.mem_of_getElem? (i := 5) rfl)) (fun _ h => h) rfl dX10_mend_88 ?_
              refine lv_iload hx hb dX10_mend_91 (lv_at hl 0 rfl) ?_
              refine lv_iconst (v := (0)) hx hb dX10_mend_93 (by decide) ?_
              obtain ⟨h94, hf⟩ := op_gd hf
              obtain ⟨M15, eM15, hf⟩ := op_st hf
              refine m_iast hx hb hKK.1 hW hS 15 14 48 rfl h94 eM15 (ms_15 Γ q _ Y _ _) dX10_mend_94 (fun H locs hW hS => ?_)
              exact hj12 M15 H locs ls  (lv_sub hl [0, 1, 2, 3, 4] rfl) hW hS hm hf
            · have hf := (op_if hf).1 k60
              refine lv_aload_n hx hb dX10_mend_63 rfl (lv_at hl 1 rfl) ?_
              refine va_get hx hb hts ni_X10_mend_X10 hown hKK.1 (wd_x hW (k := 0) rfl) 0 rfl rfl 23 (by decide) (hts (.fieldLink RX10 70 "TiltRouteModel" "isMended" "[Z") (List.mem_of_getElem? (i := 3) rfl)) (fun _ h => h) rfl dX10_mend_64 ?_
              refine lv_aload_n hx hb dX10_mend_67 rfl (lv_at hl 1 rfl) ?_
              refine va_get hx hb hts ni_X10_mend_X10 hown hKK.1 (wd_x hW (k := 0) rfl) 0 rfl rfl 16 (by decide) (hts (.fieldLink RX10 52 "TiltRouteModel" "stuck" "[I") (List.mem_of_getElem? (i := 4) rfl)) (fun _ h => h) rfl dX10_mend_68 ?_
              refine lv_iload hx hb dX10_mend_71 (lv_at hl 0 rfl) ?_
              obtain ⟨h73, hf⟩ := op_gd hf
              refine va_iald hx hb hKK.1 (wd_x hW (k := 15) rfl) 0 0 (n := 48) rfl rfl h73 dX10_mend_73 ?_
              refine lv_iconst (v := (1)) hx hb dX10_mend_74 (by decide) ?_
              obtain ⟨h75, hf⟩ := op_gd hf
              obtain ⟨M16, eM16, hf⟩ := op_st hf
              refine m_zast hx hb hKK.1 hW hS 23 21 60 rfl h75 eM16 (ms_23 Γ q _ Y _ _) dX10_mend_75 (fun H locs hW hS => ?_)
              refine lv_aload_n hx hb dX10_mend_76 rfl (lv_at hl 1 rfl) ?_
              refine va_get hx hb hts ni_X10_mend_X10 hown hKK.1 (wd_x hW (k := 0) rfl) 0 rfl rfl 16 (by decide) (hts (.fieldLink RX10 52 "TiltRouteModel" "stuck" "[I") (List.mem_of_getElem? (i := 4) rfl)) (fun _ h => h) rfl dX10_mend_77 ?_
              refine lv_iload hx hb dX10_mend_80 (lv_at hl 0 rfl) ?_
              refine lv_iconst (v := (-1)) hx hb dX10_mend_82 (by decide) ?_
              obtain ⟨h83, hf⟩ := op_gd hf
              obtain ⟨M17, eM17, hf⟩ := op_st hf
              refine m_iast hx hb hKK.1 hW hS 16 15 48 rfl h83 eM17 (ms_16 Γ q _ Y _ _) dX10_mend_83 (fun H locs hW hS => ?_)
              refine lv_goto (tgt := 95) hx hb dX10_mend_84 (by decide) ?_
              exact hj12 M17 H locs ls  (lv_sub hl [0, 1, 2, 3, 4] rfl) hW hS hm hf
  rw [eq20] at hf
  exact hw4 _ (x1, M) H locs ls (lv_sub hl [0, 1, 2, 3, 4] rfl) hW hS hm hf

theorem ni_X10_go_X10 : ∀ w ∈ wsX100, w ∈ wsX10_go := by decide +kernel
def fX10_go (M : zMs) (i_1 : Int32) : Option (Int32 × zMs) :=
cl (fX10_isVan M i_1) fun r1 =>
st (fun (S4 : zMs) => (cl (fX10_isVan S4 i_1) fun r6 =>
st (fun (y9 : Int32) => (cl2 (fX10_refused S4 y9) fun r11 M13 =>
if r11 = 0 then
st (0 : Int32) fun x15 =>
st (0 : Int32) fun x16 =>
lp (fun (q17 : (Int32 × Int32 × zMs)) => (if (q17.2.2 51 0) ≤ q17.2.1 then
some (.inr ((q17.1, q17.2.2)))
else
gd (¬ (q17.2.1 < 0 ∨ 6 ≤ q17.2.1.toNatClampNeg)) (
st (q17.2.2 53 q17.2.1.toNatClampNeg) fun x23 =>
gd (¬ (x23 < 0 ∨ 6 ≤ x23.toNatClampNeg)) (
st (q17.1 + (q17.2.2 4 x23.toNatClampNeg)) fun x24 =>
gd (¬ (x23 < 0 ∨ 6 ≤ x23.toNatClampNeg)) (
gd (¬ (x23 < 0 ∨ 6 ≤ x23.toNatClampNeg)) (
gd (¬ (x23 < 0 ∨ 6 ≤ x23.toNatClampNeg)) (
gd (¬ (x23 < 0 ∨ 6 ≤ x23.toNatClampNeg)) (
st (pM q17.2.2 6 x23.toNatClampNeg ((q17.2.2 6 x23.toNatClampNeg) + ((q17.2.2 5 x23.toNatClampNeg) - (q17.2.2 4 x23.toNatClampNeg)))) fun M25 =>
gd (¬ (x23 < 0 ∨ 6 ≤ x23.toNatClampNeg)) (
st (pM M25 4 x23.toNatClampNeg (0 : Int32)) fun M26 =>
gd (¬ (x23 < 0 ∨ 6 ≤ x23.toNatClampNeg)) (
st (pM M26 5 x23.toNatClampNeg (0 : Int32)) fun M27 =>
cl (fX10_mend M27 i_1 x23 (0 : Int32)) fun M30 =>
cl (fX10_mend M30 i_1 x23 (1 : Int32)) fun M33 =>
gd (¬ (x23 < 0 ∨ 6 ≤ x23.toNatClampNeg)) (
gd (¬ (i_1 < 0 ∨ 2 ≤ i_1.toNatClampNeg)) (
st (pM M33 49 i_1.toNatClampNeg (M33 2 x23.toNatClampNeg)) fun M34 =>
st (q17.2.1 + (1 : Int32)) fun x35 =>
some (.inl (x24, x35, M34)))))))))))) : Option ((Int32 × Int32 × zMs) ⊕ (Int32 × zMs)))) 40000 (x15, x16, M13)
else
some (((0 : Int32), M13)) : Option (Int32 × zMs))) fun j10 =>
if r6 = 0 then
j10 (1 : Int32)
else
if (S4 51 0) ≤ 0 then
j10 (2 : Int32)
else
j10 (0 : Int32) : Option (Int32 × zMs))) fun j5 =>
if r1 = 0 then
j5 M
else
cl (fX10_makePlan M i_1) fun M38 =>
j5 M38
abbrev rmX10_go : Room := { frames := 4, cells := 0, slots := 0, locals := 91 }
set_option maxHeartbeats 4000000 in
set_option maxRecDepth 100000 in
theorem tX10_go (l : Launch) (Γ : zG) (lo : zId → Nat) (S : zSt) (q : Nat → Nat) (M : zMs) (Y : va_W) {i_1 : Int32}  {y : (Int32 × zMs)} (hf : fX10_go M i_1 = some y) : Met l yX10_go wsX10_go rmX10_go (zP0 Γ lo S (mcl Γ q M ++ Y) [.ref (q 0), .int i_1]) (zQ0 Γ lo S S (mcl Γ q y.2 ++ Y) (some (.int y.1)) True) 0 0 (zA Γ) := by
  refine Met.ofW (cc := cX10_go) (maxL := 5) (ret := (some .int)) (by decide) rfl ?_
  intro p e s m args below meth c s₁ B hml hv
  obtain ⟨rfl, hW, hKK⟩ := hv
  have hx := B.exec
  have hb := B.bytes
  have hr := B.returns
  have hts := atoms_spec (ws := wsX10_go) B.pre
  have hown : s.vm.findClass RX10 = some m.cls := findClass_of_methodNamed B.named
  have hlocks := B.notSynchronized
  have hS : va_S (zA Γ) s.heap s.heap [] := va_S.rf
  have hm : ∀ c, zV S c = zV S c := fun _ => rfl
  have hl := lv_entry ([.ref (q 0), .int i_1]) (n := 5) (Nat.le_of_ble_eq_true rfl)
  rw [lg_entry_eq]
  generalize (lg_sl ([.ref (q 0), .int i_1]) ++ List.replicate (5 - (lg_sl ([.ref (q 0), .int i_1])).length) Slot.unset).toArray = ls at hl ⊢
  have hl : lv_has ls 5 [(0, .ref (q 0)), (1, .int i_1)] := hl
  obtain ⟨H, hH0⟩ : ∃ H, H = s.heap := ⟨_, rfl⟩
  obtain ⟨locs, hlo0⟩ : ∃ L : List Loc, L = [] := ⟨_, rfl⟩
  have hS : va_S (zA Γ) s.heap H locs := by rw [hH0, hlo0]; exact hS
  have hW : Wd Γ lo S (mcl Γ q M ++ Y) H := by rw [hH0]; exact hW
  rw [← hH0, ← hlo0]
  unfold fX10_go at hf
  refine lv_iload_n hx hb dX10_go_0 rfl (lv_at hl 1 rfl) ?_
  obtain ⟨r1, hc2, hf⟩ := op_cl hf
  refine z_callS (As := [.int i_1]) (rest := []) ⟨hx, hb, hml, hown, hts⟩ (tX10_isVan l Γ lo S q M Y  hc2) (va_cwS 1 hts gX10_go_X10_isVan rfl rfl rfl (by decide +kernel) ⟨Nat.le_of_ble_eq_true rfl, Nat.le_of_ble_eq_true rfl⟩) hKK hW hS rfl hl.1 rfl (Nat.le_of_ble_eq_true rfl) dX10_go_1 ⟨Nat.zero_le _, Nat.zero_le _⟩ (fun H locs hW hS hm1 hE => ?_)
  have b3 := hE
  obtain ⟨j5, ej5, hf⟩ := op_st hf
  have hj5 : ∀ (S4 : zMs) (H : Heap) (locs : List Loc) (ls : Array Slot), lv_has ls 5 [(0, .ref (q 0)), (1, .int i_1)] → Wd Γ lo S (mcl Γ q S4 ++ Y) H → va_S (zA Γ) s.heap H locs → (∀ c, zV S c = zV S c) → j5 S4 = some y → W p l e (headSpec wsX10_go rmX10_go).room s m ([.ref (q 0), .int i_1] : List Value).toArray below meth c H locs 0 0 (MQ below (zQ0 Γ lo S S (mcl Γ q y.2 ++ Y) (some (.int y.1)) True) ([.ref (q 0), .int i_1] : List Value).toArray s 0 0 (zA Γ)) (F0 m 12 ls []) := by
    intro S4 H locs ls  hl hW hS hm hf
    rw [ej5] at hf
    refine lv_aload_n hx hb dX10_go_12 rfl (lv_at hl 0 rfl) ?_
    refine lv_iload_n hx hb dX10_go_13 rfl (lv_at hl 1 rfl) ?_
    obtain ⟨r6, hc7, hf⟩ := op_cl hf
    refine z_callS (As := [.int i_1]) (rest := [.ref (q 0)]) ⟨hx, hb, hml, hown, hts⟩ (tX10_isVan l Γ lo S q S4 Y  hc7) (va_cwS 1 hts gX10_go_X10_isVan rfl rfl rfl (by decide +kernel) ⟨Nat.le_of_ble_eq_true rfl, Nat.le_of_ble_eq_true rfl⟩) hKK hW hS rfl hl.1 rfl (Nat.le_of_ble_eq_true rfl) dX10_go_14 ⟨Nat.zero_le _, Nat.zero_le _⟩ (fun H locs hW hS hm1 hE => ?_)
    have b8 := hE
    obtain ⟨j10, ej10, hf⟩ := op_st hf
    have hj10 : ∀ (y9 : Int32) (H : Heap) (locs : List Loc) (ls : Array Slot), lv_has ls 5 [(0, .ref (q 0)), (1, .int i_1)] → Wd Γ lo S (mcl Γ q S4 ++ Y) H → va_S (zA Γ) s.heap H locs → (∀ c, zV S c = zV S c) → j10 y9 = some y → W p l e (headSpec wsX10_go rmX10_go).room s m ([.ref (q 0), .int i_1] : List Value).toArray below meth c H locs 0 0 (MQ below (zQ0 Γ lo S S (mcl Γ q y.2 ++ Y) (some (.int y.1)) True) ([.ref (q 0), .int i_1] : List Value).toArray s 0 0 (zA Γ)) (F0 m 36 ls [.int y9, .ref (q 0)]) := by
      intro y9 H locs ls  hl hW hS hm hf
      rw [ej10] at hf
      obtain ⟨r11, M13, hc12, hf⟩ := op_cl2 hf
      refine z_callV (As := [.int y9]) (rest := []) ⟨hx, hb, hml, hown, hts⟩ (tX10_refused l Γ lo S q S4 Y  hc12) (cwV 1 hts gX10_go_X10_refused rfl rfl rfl (by decide +kernel) ⟨Nat.le_of_ble_eq_true rfl, Nat.le_of_ble_eq_true rfl⟩) (wd_x hW (k := 0) rfl) rfl hKK hW hS rfl hl.1 rfl (Nat.le_of_ble_eq_true rfl) dX10_go_36 ⟨Nat.zero_le _, Nat.zero_le _⟩ (fun H locs hW hS hm1 hE => ?_)
      have b14 := hE
      refine lv_if_eq (tgt := 44) hx hb dX10_go_39 (by decide) (fun k39 => ?_) (fun k39 => ?_)
      · have hf := (op_if hf).1 k39
        refine lv_iconst (v := (0)) hx hb dX10_go_44 (by decide) ?_
        obtain ⟨x15, ex15, hf⟩ := op_st hf
        have bx15 : x15 = 0 ∨ x15 = 1 := Or.inl ex15
        refine z_istn (lv' := [(2, .int x15), (0, .ref (q 0)), (1, .int i_1)]) ex15 hx hb dX10_go_45 rfl hl (by decide) rfl (fun ls hl => ?_)
        refine lv_iconst (v := (0)) hx hb dX10_go_46 (by decide) ?_
        obtain ⟨x16, ex16, hf⟩ := op_st hf
        have bx16 : x16 = 0 ∨ x16 = 1 := Or.inl ex16
        refine z_istn (lv' := [(3, .int x16), (2, .int x15), (0, .ref (q 0)), (1, .int i_1)]) ex16 hx hb dX10_go_47 rfl hl (by decide) rfl (fun ls hl => ?_)
        obtain ⟨w19, q170, ew19, eq170, hf⟩ := op_lb hf
        have hw19 : ∀ n22 : Nat, ∀ (q17 : (Int32 × Int32 × zMs)) (H : Heap) (locs : List Loc) (ls : Array Slot), lv_has ls 5 [(3, .int q17.2.1), (2, .int q17.1), (0, .ref (q 0)), (1, .int i_1)] → Wd Γ lo S (mcl Γ q q17.2.2 ++ Y) H → va_S (zA Γ) s.heap H locs → (∀ c, zV S c = zV S c) → lp w19 n22 q17 = some y → W p l e (headSpec wsX10_go rmX10_go).room s m ([.ref (q 0), .int i_1] : List Value).toArray below meth c H locs 0 0 (MQ below (zQ0 Γ lo S S (mcl Γ q y.2 ++ Y) (some (.int y.1)) True) ([.ref (q 0), .int i_1] : List Value).toArray s 0 0 (zA Γ)) (F0 m 48 ls []) := by
          intro n22
          induction n22 with
          | zero => intro q17 H locs ls hl hW hS hm hf; cases hf
          | succ n22 ih20 =>
            intro q17 H locs ls hl hW hS hm hf
            obtain ⟨n_, r18, hn_, hf, hr21⟩ := op_lq hf
            cases hn_
            rw [ew19] at hf
            refine lv_iload_n hx hb dX10_go_48 rfl (lv_at hl 0 rfl) ?_
            refine lv_aload_n hx hb dX10_go_49 rfl (lv_at hl 2 rfl) ?_
            refine va_get hx hb hts ni_X10_go_X10 hown hKK.1 (wd_x hW (k := 0) rfl) 0 rfl rfl 51 (by decide) (hts (.fieldLink RX10 266 "TiltRouteModel" "planned" "I") (List.mem_of_getElem? (i := 1) rfl)) (fun _ h => h) rfl dX10_go_50 ?_
            refine lv_icmp_ge (tgt := 150) hx hb dX10_go_53 (by decide) (fun k53 => ?_) (fun k53 => ?_)
            · have hf := (op_if hf).1 k53
              refine lv_iload_n hx hb dX10_go_150 rfl (lv_at hl 1 rfl) ?_
              have hf := zr_r hf hr21
              rw [← hf]
              exact z_iret hx hb hr hlocks rfl hW hS hm trivial dX10_go_151
            · have hf := (op_if hf).2 k53
              refine lv_aload_n hx hb dX10_go_56 rfl (lv_at hl 2 rfl) ?_
              refine va_get hx hb hts ni_X10_go_X10 hown hKK.1 (wd_x hW (k := 0) rfl) 0 rfl rfl 53 (by decide) (hts (.fieldLink RX10 147 "TiltRouteModel" "plan" "[I") (List.mem_of_getElem? (i := 2) rfl)) (fun _ h => h) rfl dX10_go_57 ?_
              refine lv_iload_n hx hb dX10_go_60 rfl (lv_at hl 0 rfl) ?_
              obtain ⟨h61, hf⟩ := op_gd hf
              refine va_iald hx hb hKK.1 (wd_x hW (k := 46) rfl) 0 0 (n := 6) rfl rfl h61 dX10_go_61 ?_
              obtain ⟨x23, ex23, hf⟩ := op_st hf
              refine z_ist (lv' := [(4, .int x23), (3, .int q17.2.1), (2, .int q17.1), (0, .ref (q 0)), (1, .int i_1)]) ex23 hx hb dX10_go_62 hl (by decide) rfl (fun ls hl => ?_)
              refine lv_iload_n hx hb dX10_go_64 rfl (lv_at hl 2 rfl) ?_
              refine lv_aload_n hx hb dX10_go_65 rfl (lv_at hl 3 rfl) ?_
              refine va_get hx hb hts ni_X10_go_X10 hown hKK.1 (wd_x hW (k := 0) rfl) 0 rfl rfl 4 (by decide) (hts (.fieldLink RX10 16 "TiltRouteModel" "boxes" "[I") (List.mem_of_getElem? (i := 3) rfl)) (fun _ h => h) rfl dX10_go_66 ?_
              refine lv_iload hx hb dX10_go_69 (lv_at hl 0 rfl) ?_
              obtain ⟨h71, hf⟩ := op_gd hf
              refine va_iald hx hb hKK.1 (wd_x hW (k := 3) rfl) 0 0 (n := 6) rfl rfl h71 dX10_go_71 ?_
              refine lv_iadd hx hb dX10_go_72 ?_
              obtain ⟨x24, ex24, hf⟩ := op_st hf
              refine z_istn (lv' := [(2, .int x24), (4, .int x23), (3, .int q17.2.1), (0, .ref (q 0)), (1, .int i_1)]) ex24 hx hb dX10_go_73 rfl hl (by decide) rfl (fun ls hl => ?_)
              refine lv_aload_n hx hb dX10_go_74 rfl (lv_at hl 3 rfl) ?_
              refine va_get hx hb hts ni_X10_go_X10 hown hKK.1 (wd_x hW (k := 0) rfl) 0 rfl rfl 6 (by decide) (hts (.fieldLink RX10 22 "TiltRouteModel" "lacking" "[I") (List.mem_of_getElem? (i := 4) rfl)) (fun _ h => h) rfl dX10_go_75 ?_
              refine lv_iload hx hb dX10_go_78 (lv_at hl 1 rfl) ?_
              refine lv_dup2_11 hx hb dX10_go_80 rfl rfl ?_
              obtain ⟨h81, hf⟩ := op_gd hf
              refine va_iald hx hb hKK.1 (wd_x hW (k := 5) rfl) 0 0 (n := 6) rfl rfl h81 dX10_go_81 ?_
              refine lv_aload_n hx hb dX10_go_82 rfl (lv_at hl 3 rfl) ?_
              refine va_get hx hb hts ni_X10_go_X10 hown hKK.1 (wd_x hW (k := 0) rfl) 0 rfl rfl 5 (by decide) (hts (.fieldLink RX10 19 "TiltRouteModel" "brought" "[I") (List.mem_of_getElem? (i := 5) rfl)) (fun _ h => h) rfl dX10_go_83 ?_
              refine lv_iload hx hb dX10_go_86 (lv_at hl 1 rfl) ?_
              obtain ⟨h88, hf⟩ := op_gd hf
              refine va_iald hx hb hKK.1 (wd_x hW (k := 4) rfl) 0 0 (n := 6) rfl rfl h88 dX10_go_88 ?_
              refine lv_aload_n hx hb dX10_go_89 rfl (lv_at hl 3 rfl) ?_
              refine va_get hx hb hts ni_X10_go_X10 hown hKK.1 (wd_x hW (k := 0) rfl) 0 rfl rfl 4 (by decide) (hts (.fieldLink RX10 16 "TiltRouteModel" "boxes" "[I") (List.mem_of_getElem? (i := 3) rfl)) (fun _ h => h) rfl dX10_go_90 ?_
              refine lv_iload hx hb dX10_go_93 (lv_at hl 1 rfl) ?_
              obtain ⟨h95, hf⟩ := op_gd hf
              refine va_iald hx hb hKK.1 (wd_x hW (k := 3) rfl) 0 0 (n := 6) rfl rfl h95 dX10_go_95 ?_
              refine lv_isub hx hb dX10_go_96 ?_
              refine lv_iadd hx hb dX10_go_97 ?_
              obtain ⟨h98, hf⟩ := op_gd hf
              obtain ⟨M25, eM25, hf⟩ := op_st hf
              refine m_iast hx hb hKK.1 hW hS 6 5 6 rfl h98 eM25 (ms_6 Γ q _ Y _ _) dX10_go_98 (fun H locs hW hS => ?_)
              refine lv_aload_n hx hb dX10_go_99 rfl (lv_at hl 3 rfl) ?_
              refine va_get hx hb hts ni_X10_go_X10 hown hKK.1 (wd_x hW (k := 0) rfl) 0 rfl rfl 4 (by decide) (hts (.fieldLink RX10 16 "TiltRouteModel" "boxes" "[I") (List.mem_of_getElem? (i := 3) rfl)) (fun _ h => h) rfl dX10_go_100 ?_
              refine lv_iload hx hb dX10_go_103 (lv_at hl 1 rfl) ?_
              refine lv_iconst (v := (0)) hx hb dX10_go_105 (by decide) ?_
              obtain ⟨h106, hf⟩ := op_gd hf
              obtain ⟨M26, eM26, hf⟩ := op_st hf
              refine m_iast hx hb hKK.1 hW hS 4 3 6 rfl h106 eM26 (ms_4 Γ q _ Y _ _) dX10_go_106 (fun H locs hW hS => ?_)
              refine lv_aload_n hx hb dX10_go_107 rfl (lv_at hl 3 rfl) ?_
              refine va_get hx hb hts ni_X10_go_X10 hown hKK.1 (wd_x hW (k := 0) rfl) 0 rfl rfl 5 (by decide) (hts (.fieldLink RX10 19 "TiltRouteModel" "brought" "[I") (List.mem_of_getElem? (i := 5) rfl)) (fun _ h => h) rfl dX10_go_108 ?_
              refine lv_iload hx hb dX10_go_111 (lv_at hl 1 rfl) ?_
              refine lv_iconst (v := (0)) hx hb dX10_go_113 (by decide) ?_
              obtain ⟨h114, hf⟩ := op_gd hf
              obtain ⟨M27, eM27, hf⟩ := op_st hf
              refine m_iast hx hb hKK.1 hW hS 5 4 6 rfl h114 eM27 (ms_5 Γ q _ Y _ _) dX10_go_114 (fun H locs hW hS => ?_)
              refine lv_aload_n hx hb dX10_go_115 rfl (lv_at hl 3 rfl) ?_
              refine lv_iload_n hx hb dX10_go_116 rfl (lv_at hl 4 rfl) ?_
              refine lv_iload hx hb dX10_go_117 (lv_at hl 1 rfl) ?_
              refine lv_iconst (v := (0)) hx hb dX10_go_119 (by decide) ?_
              obtain ⟨M30, hc29, hf⟩ := op_cl hf
              refine z_callV (As := [.int i_1, .int x23, .int (0 : Int32)]) (rest := []) ⟨hx, hb, hml, hown, hts⟩ (tX10_mend l Γ lo S q M27 Y  hc29) (cwV 3 hts gX10_go_X10_mend rfl rfl rfl (by decide +kernel) ⟨Nat.le_of_ble_eq_true rfl, Nat.le_of_ble_eq_true rfl⟩) (wd_x hW (k := 0) rfl) rfl hKK hW hS rfl hl.1 rfl (Nat.le_of_ble_eq_true rfl) dX10_go_120 ⟨Nat.zero_le _, Nat.zero_le _⟩ (fun H locs hW hS hm1 hE => ?_)
              refine lv_aload_n hx hb dX10_go_123 rfl (lv_at hl 3 rfl) ?_
              refine lv_iload_n hx hb dX10_go_124 rfl (lv_at hl 4 rfl) ?_
              refine lv_iload hx hb dX10_go_125 (lv_at hl 1 rfl) ?_
              refine lv_iconst (v := (1)) hx hb dX10_go_127 (by decide) ?_
              obtain ⟨M33, hc32, hf⟩ := op_cl hf
              refine z_callV (As := [.int i_1, .int x23, .int (1 : Int32)]) (rest := []) ⟨hx, hb, hml, hown, hts⟩ (tX10_mend l Γ lo S q M30 Y  hc32) (cwV 3 hts gX10_go_X10_mend rfl rfl rfl (by decide +kernel) ⟨Nat.le_of_ble_eq_true rfl, Nat.le_of_ble_eq_true rfl⟩) (wd_x hW (k := 0) rfl) rfl hKK hW hS rfl hl.1 rfl (Nat.le_of_ble_eq_true rfl) dX10_go_128 ⟨Nat.zero_le _, Nat.zero_le _⟩ (fun H locs hW hS hm1 hE => ?_)
              refine lv_aload_n hx hb dX10_go_131 rfl (lv_at hl 3 rfl) ?_
              refine va_get hx hb hts ni_X10_go_X10 hown hKK.1 (wd_x hW (k := 0) rfl) 0 rfl rfl 49 (by decide) (hts (.fieldLink RX10 138 "TiltRouteModel" "vanSites" "[I") (List.mem_of_getElem? (i := 6) rfl)) (fun _ h => h) rfl dX10_go_132 ?_
              refine lv_iload_n hx hb dX10_go_135 rfl (lv_at hl 4 rfl) ?_
              refine lv_aload_n hx hb dX10_go_136 rfl (lv_at hl 3 rfl) ?_
              refine va_get hx hb hts ni_X10_go_X10 hown hKK.1 (wd_x hW (k := 0) rfl) 0 rfl rfl 2 (by decide) (hts (.fieldLink RX10 7 "TiltRouteModel" "sites" "[I") (List.mem_of_getElem? (i := 7) rfl)) (fun _ h => h) rfl dX10_go_137 ?_
              refine lv_iload hx hb dX10_go_140 (lv_at hl 1 rfl) ?_
              obtain ⟨h142, hf⟩ := op_gd hf
              refine va_iald hx hb hKK.1 (wd_x hW (k := 1) rfl) 0 0 (n := 6) rfl rfl h142 dX10_go_142 ?_
              obtain ⟨h143, hf⟩ := op_gd hf
              obtain ⟨M34, eM34, hf⟩ := op_st hf
              refine m_iast hx hb hKK.1 hW hS 49 43 2 rfl h143 eM34 (ms_49 Γ q _ Y _ _) dX10_go_143 (fun H locs hW hS => ?_)
              obtain ⟨x35, ex35, hf⟩ := op_st hf
              refine lv_iinc (v := x35) (lv' := [(3, .int x35), (2, .int x24), (4, .int x23), (0, .ref (q 0)), (1, .int i_1)]) hx hb dX10_go_144 hl (k := 2) rfl (by rw [ex35]; rfl) (by decide) rfl (fun ls hl => ?_)
              refine lv_goto (tgt := 48) hx hb dX10_go_147 (by decide) ?_
              have hf := zr_l hf hr21
              exact ih20 (x24, x35, M34) H locs ls (lv_sub hl [0, 1, 3, 4] rfl) hW hS hm hf
        rw [eq170] at hf
        exact hw19 _ (x15, x16, M13) H locs ls (lv_sub hl [0, 1, 2, 3] rfl) hW hS hm hf
      · have hf := (op_if hf).2 k39
        refine lv_iconst (v := (0)) hx hb dX10_go_42 (by decide) ?_
        have hf := Option.some.inj hf
        rw [← hf]
        exact z_iret hx hb hr hlocks rfl hW hS hm trivial dX10_go_43
    refine lv_if_ne (tgt := 24) hx hb dX10_go_17 (by decide) (fun k17 => ?_) (fun k17 => ?_)
    · have hf := (op_if hf).2 k17
      refine lv_aload_n hx hb dX10_go_24 rfl (lv_at hl 0 rfl) ?_
      refine va_get hx hb hts ni_X10_go_X10 hown hKK.1 (wd_x hW (k := 0) rfl) 0 rfl rfl 51 (by decide) (hts (.fieldLink RX10 266 "TiltRouteModel" "planned" "I") (List.mem_of_getElem? (i := 1) rfl)) (fun _ h => h) rfl dX10_go_25 ?_
      refine lv_if_le (tgt := 35) hx hb dX10_go_28 (by decide) (fun k28 => ?_) (fun k28 => ?_)
      · have hf := (op_if hf).1 k28
        refine lv_iconst (v := (2)) hx hb dX10_go_35 (by decide) ?_
        exact hj10 (2 : Int32) H locs ls  (lv_sub hl [0, 1] rfl) hW hS hm hf
      · have hf := (op_if hf).2 k28
        refine lv_iconst (v := (0)) hx hb dX10_go_31 (by decide) ?_
        refine lv_goto (tgt := 36) hx hb dX10_go_32 (by decide) ?_
        exact hj10 (0 : Int32) H locs ls  (lv_sub hl [0, 1] rfl) hW hS hm hf
    · have hf := (op_if hf).1 k17
      refine lv_iconst (v := (1)) hx hb dX10_go_20 (by decide) ?_
      refine lv_goto (tgt := 36) hx hb dX10_go_21 (by decide) ?_
      exact hj10 (1 : Int32) H locs ls  (lv_sub hl [0, 1] rfl) hW hS hm hf
  refine lv_if_eq (tgt := 12) hx hb dX10_go_4 (by decide) (fun k4 => ?_) (fun k4 => ?_)
  · have hf := (op_if hf).1 k4
    exact hj5 M H locs ls  (lv_sub hl [0, 1] rfl) hW hS hm hf
  · have hf := (op_if hf).2 k4
    refine lv_aload_n hx hb dX10_go_7 rfl (lv_at hl 0 rfl) ?_
    refine lv_iload_n hx hb dX10_go_8 rfl (lv_at hl 1 rfl) ?_
    obtain ⟨M38, hc37, hf⟩ := op_cl hf
    refine z_callV (As := [.int i_1]) (rest := []) ⟨hx, hb, hml, hown, hts⟩ (tX10_makePlan l Γ lo S q M Y  hc37) (cwV 1 hts gX10_go_X10_makePlan rfl rfl rfl (by decide +kernel) ⟨Nat.le_of_ble_eq_true rfl, Nat.le_of_ble_eq_true rfl⟩) (wd_x hW (k := 0) rfl) rfl hKK hW hS rfl hl.1 rfl (Nat.le_of_ble_eq_true rfl) dX10_go_9 ⟨Nat.zero_le _, Nat.zero_le _⟩ (fun H locs hW hS hm1 hE => ?_)
    exact hj5 M38 H locs ls  (lv_sub hl [0, 1] rfl) hW hS hm hf

theorem ni_X10_vanAt_X10 : ∀ w ∈ wsX100, w ∈ wsX10_vanAt := by decide +kernel
def fX10_vanAt (M : zMs) (i_1 : Int32) : Option (Int32 × zMs) :=
cl (fX10_isVan M i_1) fun r1 =>
st (fun (y4 : Int32) => (cl2 (fX10_refused M y4) fun r7 M9 =>
if r7 = 0 then
gd (¬ (i_1 < 0 ∨ 2 ≤ i_1.toNatClampNeg)) (
some (((M9 49 i_1.toNatClampNeg), M9)))
else
some (((0 : Int32), M9)) : Option (Int32 × zMs))) fun j6 =>
if r1 = 0 then
j6 (1 : Int32)
else
j6 (0 : Int32)
abbrev rmX10_vanAt : Room := { frames := 2, cells := 0, slots := 0, locals := 42 }
set_option maxHeartbeats 4000000 in
set_option maxRecDepth 100000 in
theorem tX10_vanAt (l : Launch) (Γ : zG) (lo : zId → Nat) (S : zSt) (q : Nat → Nat) (M : zMs) (Y : va_W) {i_1 : Int32}  {y : (Int32 × zMs)} (hf : fX10_vanAt M i_1 = some y) : Met l yX10_vanAt wsX10_vanAt rmX10_vanAt (zP0 Γ lo S (mcl Γ q M ++ Y) [.ref (q 0), .int i_1]) (zQ0 Γ lo S S (mcl Γ q y.2 ++ Y) (some (.int y.1)) True) 0 0 (zA Γ) := by
  refine Met.ofW (cc := cX10_vanAt) (maxL := 2) (ret := (some .int)) (by decide) rfl ?_
  intro p e s m args below meth c s₁ B hml hv
  obtain ⟨rfl, hW, hKK⟩ := hv
  have hx := B.exec
  have hb := B.bytes
  have hr := B.returns
  have hts := atoms_spec (ws := wsX10_vanAt) B.pre
  have hown : s.vm.findClass RX10 = some m.cls := findClass_of_methodNamed B.named
  have hlocks := B.notSynchronized
  have hS : va_S (zA Γ) s.heap s.heap [] := va_S.rf
  have hm : ∀ c, zV S c = zV S c := fun _ => rfl
  have hl := lv_entry ([.ref (q 0), .int i_1]) (n := 2) (Nat.le_of_ble_eq_true rfl)
  rw [lg_entry_eq]
  generalize (lg_sl ([.ref (q 0), .int i_1]) ++ List.replicate (2 - (lg_sl ([.ref (q 0), .int i_1])).length) Slot.unset).toArray = ls at hl ⊢
  have hl : lv_has ls 2 [(0, .ref (q 0)), (1, .int i_1)] := hl
  obtain ⟨H, hH0⟩ : ∃ H, H = s.heap := ⟨_, rfl⟩
  obtain ⟨locs, hlo0⟩ : ∃ L : List Loc, L = [] := ⟨_, rfl⟩
  have hS : va_S (zA Γ) s.heap H locs := by rw [hH0, hlo0]; exact hS
  have hW : Wd Γ lo S (mcl Γ q M ++ Y) H := by rw [hH0]; exact hW
  rw [← hH0, ← hlo0]
  unfold fX10_vanAt at hf
  refine lv_aload_n hx hb dX10_vanAt_0 rfl (lv_at hl 0 rfl) ?_
  refine lv_iload_n hx hb dX10_vanAt_1 rfl (lv_at hl 1 rfl) ?_
  obtain ⟨r1, hc2, hf⟩ := op_cl hf
  refine z_callS (As := [.int i_1]) (rest := [.ref (q 0)]) ⟨hx, hb, hml, hown, hts⟩ (tX10_isVan l Γ lo S q M Y  hc2) (va_cwS 1 hts gX10_vanAt_X10_isVan rfl rfl rfl (by decide +kernel) ⟨Nat.le_of_ble_eq_true rfl, Nat.le_of_ble_eq_true rfl⟩) hKK hW hS rfl hl.1 rfl (Nat.le_of_ble_eq_true rfl) dX10_vanAt_2 ⟨Nat.zero_le _, Nat.zero_le _⟩ (fun H locs hW hS hm1 hE => ?_)
  have b3 := hE
  obtain ⟨j6, ej6, hf⟩ := op_st hf
  have hj6 : ∀ (y4 : Int32) (H : Heap) (locs : List Loc) (ls : Array Slot) (b5 : y4 = 0 ∨ y4 = 1), lv_has ls 2 [(0, .ref (q 0)), (1, .int i_1)] → Wd Γ lo S (mcl Γ q M ++ Y) H → va_S (zA Γ) s.heap H locs → (∀ c, zV S c = zV S c) → j6 y4 = some y → W p l e (headSpec wsX10_vanAt rmX10_vanAt).room s m ([.ref (q 0), .int i_1] : List Value).toArray below meth c H locs 0 0 (MQ below (zQ0 Γ lo S S (mcl Γ q y.2 ++ Y) (some (.int y.1)) True) ([.ref (q 0), .int i_1] : List Value).toArray s 0 0 (zA Γ)) (F0 m 13 ls [.int y4, .ref (q 0)]) := by
    intro y4 H locs ls b5 hl hW hS hm hf
    rw [ej6] at hf
    obtain ⟨r7, M9, hc8, hf⟩ := op_cl2 hf
    refine z_callV (As := [.int y4]) (rest := []) ⟨hx, hb, hml, hown, hts⟩ (tX10_refused l Γ lo S q M Y  hc8) (cwV 1 hts gX10_vanAt_X10_refused rfl rfl rfl (by decide +kernel) ⟨Nat.le_of_ble_eq_true rfl, Nat.le_of_ble_eq_true rfl⟩) (wd_x hW (k := 0) rfl) rfl hKK hW hS rfl hl.1 rfl (Nat.le_of_ble_eq_true rfl) dX10_vanAt_13 ⟨Nat.zero_le _, Nat.zero_le _⟩ (fun H locs hW hS hm1 hE => ?_)
    have b10 := hE
    refine lv_if_eq (tgt := 23) hx hb dX10_vanAt_16 (by decide) (fun k16 => ?_) (fun k16 => ?_)
    · have hf := (op_if hf).1 k16
      refine lv_aload_n hx hb dX10_vanAt_23 rfl (lv_at hl 0 rfl) ?_
      refine va_get hx hb hts ni_X10_vanAt_X10 hown hKK.1 (wd_x hW (k := 0) rfl) 0 rfl rfl 49 (by decide) (hts (.fieldLink RX10 138 "TiltRouteModel" "vanSites" "[I") (List.mem_of_getElem? (i := 1) rfl)) (fun _ h => h) rfl dX10_vanAt_24 ?_
      refine lv_iload_n hx hb dX10_vanAt_27 rfl (lv_at hl 1 rfl) ?_
      obtain ⟨h28, hf⟩ := op_gd hf
      refine va_iald hx hb hKK.1 (wd_x hW (k := 43) rfl) 0 0 (n := 2) rfl rfl h28 dX10_vanAt_28 ?_
      have hf := Option.some.inj hf
      rw [← hf]
      exact z_iret hx hb hr hlocks rfl hW hS hm trivial dX10_vanAt_29
    · have hf := (op_if hf).2 k16
      refine lv_iconst (v := (0)) hx hb dX10_vanAt_19 (by decide) ?_
      refine lv_goto (tgt := 29) hx hb dX10_vanAt_20 (by decide) ?_
      have hf := Option.some.inj hf
      rw [← hf]
      exact z_iret hx hb hr hlocks rfl hW hS hm trivial dX10_vanAt_29
  refine lv_if_eq (tgt := 12) hx hb dX10_vanAt_5 (by decide) (fun k5 => ?_) (fun k5 => ?_)
  · have hf := (op_if hf).1 k5
    refine lv_iconst (v := (1)) hx hb dX10_vanAt_12 (by decide) ?_
    exact hj6 (1 : Int32) H locs ls (Or.inr rfl) (lv_sub hl [0, 1] rfl) hW hS hm hf
  · have hf := (op_if hf).2 k5
    refine lv_iconst (v := (0)) hx hb dX10_vanAt_8 (by decide) ?_
    refine lv_goto (tgt := 13) hx hb dX10_vanAt_9 (by decide) ?_
    exact hj6 (0 : Int32) H locs ls (Or.inl rfl) (lv_sub hl [0, 1] rfl) hW hS hm hf

