theorem ni_X1_isBroken_X1 : ∀ w ∈ wsX10, w ∈ wsX1_isBroken := by decide +kernel
def fX1_isBroken (S : zSt) (a_z : Nat) (b_z : Nat) : Option Int32 :=
if (zI S (2, a_z, b_z) 5) < (40 : Int32) then
some ((0 : Int32))
else
some ((1 : Int32))
abbrev rmX1_isBroken : Room := { frames := 0, cells := 0, slots := 0, locals := 0 }
set_option maxHeartbeats 4000000 in
set_option maxRecDepth 100000 in
theorem tX1_isBroken (l : Launch) (Γ : zG) (lo : zId → Nat) (S : zSt) (X : va_W) {a_z : Nat} {b_z : Nat} (v_z : zV S (2, a_z, b_z) = true) {y : Int32} (hf : fX1_isBroken S a_z b_z = some y) : Met l yX1_isBroken wsX1_isBroken rmX1_isBroken (zP0 Γ lo S X [.ref (lo (2, a_z, b_z))]) (zQ0 Γ lo S S X (some (.int y)) (y = 0 ∨ y = 1)) 0 0 (zA Γ) := by
  refine Met.ofW (cc := cX1_isBroken) (maxL := 1) (ret := (some .boolean)) (by decide) rfl ?_
  intro p e s m args below meth c s₁ B hml hv
  obtain ⟨rfl, hW, hKK⟩ := hv
  have hx := B.exec
  have hb := B.bytes
  have hr := B.returns
  have hts := atoms_spec (ws := wsX1_isBroken) B.pre
  have hown : s.vm.findClass RX1 = some m.cls := findClass_of_methodNamed B.named
  have hlocks := B.notSynchronized
  have hS : va_S (zA Γ) s.heap s.heap [] := va_S.rf
  have hm : ∀ c, zV S c = zV S c := fun _ => rfl
  have hl := lv_entry ([.ref (lo (2, a_z, b_z))]) (n := 1) (Nat.le_of_ble_eq_true rfl)
  rw [lg_entry_eq]
  generalize (lg_sl ([.ref (lo (2, a_z, b_z))]) ++ List.replicate (1 - (lg_sl ([.ref (lo (2, a_z, b_z))])).length) Slot.unset).toArray = ls at hl ⊢
  have hl : lv_has ls 1 [(0, .ref (lo (2, a_z, b_z)))] := hl
  obtain ⟨H, hH0⟩ : ∃ H, H = s.heap := ⟨_, rfl⟩
  obtain ⟨locs, hlo0⟩ : ∃ L : List Loc, L = [] := ⟨_, rfl⟩
  have hS : va_S (zA Γ) s.heap H locs := by rw [hH0, hlo0]; exact hS
  have hW : Wd Γ lo S X H := by rw [hH0]; exact hW
  rw [← hH0, ← hlo0]
  unfold fX1_isBroken at hf
  refine lv_aload_n hx hb dX1_isBroken_0 rfl (lv_at hl 0 rfl) ?_
  refine va_get hx hb hts ni_X1_isBroken_X1 hown hKK.1 (wd_1 hW v_z) 0 rfl rfl 5 (by decide) (hts (.fieldLink RX1 9 "TiltRoute$Bumper" "wear" "I") (List.mem_of_getElem? (i := 1) rfl)) (fun _ h => h) rfl dX1_isBroken_1 ?_
  refine lv_bipush (v := (40)) hx hb dX1_isBroken_4 (by decide) ?_
  refine lv_icmp_lt (tgt := 13) hx hb dX1_isBroken_6 (by decide) (fun k6 => ?_) (fun k6 => ?_)
  · have hf := (op_if hf).1 k6
    refine lv_iconst (v := (0)) hx hb dX1_isBroken_13 (by decide) ?_
    have hf := Option.some.inj hf
    rw [← hf]
    exact z_iret hx hb hr hlocks (z_bb (Or.inl rfl)) hW hS hm (Or.inl rfl) dX1_isBroken_14
  · have hf := (op_if hf).2 k6
    refine lv_iconst (v := (1)) hx hb dX1_isBroken_9 (by decide) ?_
    refine lv_goto (tgt := 14) hx hb dX1_isBroken_10 (by decide) ?_
    have hf := Option.some.inj hf
    rw [← hf]
    exact z_iret hx hb hr hlocks (z_bb (Or.inr rfl)) hW hS hm (Or.inr rfl) dX1_isBroken_14

theorem ni_X1_holdsPart_X1 : ∀ w ∈ wsX10, w ∈ wsX1_holdsPart := by decide +kernel
def fX1_holdsPart (S : zSt) (a_z : Nat) (b_z : Nat) (i_1 : Int32) (i_2 : Int32) : Option Int32 :=
st (fun (u_ : Unit) => (some ((0 : Int32)) : Option Int32)) fun j1 =>
if i_1 < (zI S (2, a_z, b_z) 0) then
j1 ()
else
if ((zI S (2, a_z, b_z) 0) + (zI S (2, a_z, b_z) 2)) ≤ i_1 then
j1 ()
else
if i_2 < (zI S (2, a_z, b_z) 1) then
j1 ()
else
if ((zI S (2, a_z, b_z) 1) + (zI S (2, a_z, b_z) 3)) ≤ i_2 then
j1 ()
else
some ((1 : Int32))
abbrev rmX1_holdsPart : Room := { frames := 0, cells := 0, slots := 0, locals := 0 }
set_option maxHeartbeats 4000000 in
set_option maxRecDepth 100000 in
theorem tX1_holdsPart (l : Launch) (Γ : zG) (lo : zId → Nat) (S : zSt) (X : va_W) {a_z : Nat} {b_z : Nat} {i_1 : Int32} {i_2 : Int32} (v_z : zV S (2, a_z, b_z) = true) {y : Int32} (hf : fX1_holdsPart S a_z b_z i_1 i_2 = some y) : Met l yX1_holdsPart wsX1_holdsPart rmX1_holdsPart (zP0 Γ lo S X [.ref (lo (2, a_z, b_z)), .int i_1, .int i_2]) (zQ0 Γ lo S S X (some (.int y)) (y = 0 ∨ y = 1)) 0 0 (zA Γ) := by
  refine Met.ofW (cc := cX1_holdsPart) (maxL := 3) (ret := (some .boolean)) (by decide) rfl ?_
  intro p e s m args below meth c s₁ B hml hv
  obtain ⟨rfl, hW, hKK⟩ := hv
  have hx := B.exec
  have hb := B.bytes
  have hr := B.returns
  have hts := atoms_spec (ws := wsX1_holdsPart) B.pre
  have hown : s.vm.findClass RX1 = some m.cls := findClass_of_methodNamed B.named
  have hlocks := B.notSynchronized
  have hS : va_S (zA Γ) s.heap s.heap [] := va_S.rf
  have hm : ∀ c, zV S c = zV S c := fun _ => rfl
  have hl := lv_entry ([.ref (lo (2, a_z, b_z)), .int i_1, .int i_2]) (n := 3) (Nat.le_of_ble_eq_true rfl)
  rw [lg_entry_eq]
  generalize (lg_sl ([.ref (lo (2, a_z, b_z)), .int i_1, .int i_2]) ++ List.replicate (3 - (lg_sl ([.ref (lo (2, a_z, b_z)), .int i_1, .int i_2])).length) Slot.unset).toArray = ls at hl ⊢
  have hl : lv_has ls 3 [(0, .ref (lo (2, a_z, b_z))), (1, .int i_1), (2, .int i_2)] := hl
  obtain ⟨H, hH0⟩ : ∃ H, H = s.heap := ⟨_, rfl⟩
  obtain ⟨locs, hlo0⟩ : ∃ L : List Loc, L = [] := ⟨_, rfl⟩
  have hS : va_S (zA Γ) s.heap H locs := by rw [hH0, hlo0]; exact hS
  have hW : Wd Γ lo S X H := by rw [hH0]; exact hW
  rw [← hH0, ← hlo0]
  unfold fX1_holdsPart at hf
  refine lv_iload_n hx hb dX1_holdsPart_0 rfl (lv_at hl 1 rfl) ?_
  refine lv_aload_n hx hb dX1_holdsPart_1 rfl (lv_at hl 0 rfl) ?_
  refine va_get hx hb hts ni_X1_holdsPart_X1 hown hKK.1 (wd_1 hW v_z) 0 rfl rfl 0 (by decide) (hts (.fieldLink RX1 18 "TiltRoute$Bumper" "left" "I") (List.mem_of_getElem? (i := 1) rfl)) (fun _ h => h) rfl dX1_holdsPart_2 ?_
  obtain ⟨j1, ej1, hf⟩ := op_st hf
  have hj1 : ∀ (u_ : Unit) (H : Heap) (locs : List Loc) (ls : Array Slot), lv_has ls 3 [] → Wd Γ lo S X H → va_S (zA Γ) s.heap H locs → (∀ c, zV S c = zV S c) → j1 () = some y → W p l e (headSpec wsX1_holdsPart rmX1_holdsPart).room s m ([.ref (lo (2, a_z, b_z)), .int i_1, .int i_2] : List Value).toArray below meth c H locs 0 0 (MQ below (zQ0 Γ lo S S X (some (.int y)) (y = 0 ∨ y = 1)) ([.ref (lo (2, a_z, b_z)), .int i_1, .int i_2] : List Value).toArray s 0 0 (zA Γ)) (F0 m 46 ls []) := by
    intro u_ H locs ls  hl hW hS hm hf
    rw [ej1] at hf
    refine lv_iconst (v := (0)) hx hb dX1_holdsPart_46 (by decide) ?_
    have hf := Option.some.inj hf
    rw [← hf]
    exact z_iret hx hb hr hlocks (z_bb (Or.inl rfl)) hW hS hm (Or.inl rfl) dX1_holdsPart_47
  refine lv_icmp_lt (tgt := 46) hx hb dX1_holdsPart_5 (by decide) (fun k5 => ?_) (fun k5 => ?_)
  · have hf := (op_if hf).1 k5
    exact hj1 () H locs ls  (lv_sub hl [] rfl) hW hS hm hf
  · have hf := (op_if hf).2 k5
    refine lv_iload_n hx hb dX1_holdsPart_8 rfl (lv_at hl 1 rfl) ?_
    refine lv_aload_n hx hb dX1_holdsPart_9 rfl (lv_at hl 0 rfl) ?_
    refine va_get hx hb hts ni_X1_holdsPart_X1 hown hKK.1 (wd_1 hW v_z) 0 rfl rfl 0 (by decide) (hts (.fieldLink RX1 18 "TiltRoute$Bumper" "left" "I") (List.mem_of_getElem? (i := 1) rfl)) (fun _ h => h) rfl dX1_holdsPart_10 ?_
    refine lv_aload_n hx hb dX1_holdsPart_13 rfl (lv_at hl 0 rfl) ?_
    refine va_get hx hb hts ni_X1_holdsPart_X1 hown hKK.1 (wd_1 hW v_z) 0 rfl rfl 2 (by decide) (hts (.fieldLink RX1 24 "TiltRoute$Bumper" "width" "I") (List.mem_of_getElem? (i := 2) rfl)) (fun _ h => h) rfl dX1_holdsPart_14 ?_
    refine lv_iadd hx hb dX1_holdsPart_17 ?_
    refine lv_icmp_ge (tgt := 46) hx hb dX1_holdsPart_18 (by decide) (fun k18 => ?_) (fun k18 => ?_)
    · have hf := (op_if hf).1 k18
      exact hj1 () H locs ls  (lv_sub hl [] rfl) hW hS hm hf
    · have hf := (op_if hf).2 k18
      refine lv_iload_n hx hb dX1_holdsPart_21 rfl (lv_at hl 2 rfl) ?_
      refine lv_aload_n hx hb dX1_holdsPart_22 rfl (lv_at hl 0 rfl) ?_
      refine va_get hx hb hts ni_X1_holdsPart_X1 hown hKK.1 (wd_1 hW v_z) 0 rfl rfl 1 (by decide) (hts (.fieldLink RX1 21 "TiltRoute$Bumper" "top" "I") (List.mem_of_getElem? (i := 3) rfl)) (fun _ h => h) rfl dX1_holdsPart_23 ?_
      refine lv_icmp_lt (tgt := 46) hx hb dX1_holdsPart_26 (by decide) (fun k26 => ?_) (fun k26 => ?_)
      · have hf := (op_if hf).1 k26
        exact hj1 () H locs ls  (lv_sub hl [] rfl) hW hS hm hf
      · have hf := (op_if hf).2 k26
        refine lv_iload_n hx hb dX1_holdsPart_29 rfl (lv_at hl 2 rfl) ?_
        refine lv_aload_n hx hb dX1_holdsPart_30 rfl (lv_at hl 0 rfl) ?_
        refine va_get hx hb hts ni_X1_holdsPart_X1 hown hKK.1 (wd_1 hW v_z) 0 rfl rfl 1 (by decide) (hts (.fieldLink RX1 21 "TiltRoute$Bumper" "top" "I") (List.mem_of_getElem? (i := 3) rfl)) (fun _ h => h) rfl dX1_holdsPart_31 ?_
        refine lv_aload_n hx hb dX1_holdsPart_34 rfl (lv_at hl 0 rfl) ?_
        refine va_get hx hb hts ni_X1_holdsPart_X1 hown hKK.1 (wd_1 hW v_z) 0 rfl rfl 3 (by decide) (hts (.fieldLink RX1 27 "TiltRoute$Bumper" "height" "I") (List.mem_of_getElem? (i := 4) rfl)) (fun _ h => h) rfl dX1_holdsPart_35 ?_
        refine lv_iadd hx hb dX1_holdsPart_38 ?_
        refine lv_icmp_ge (tgt := 46) hx hb dX1_holdsPart_39 (by decide) (fun k39 => ?_) (fun k39 => ?_)
        · have hf := (op_if hf).1 k39
          exact hj1 () H locs ls  (lv_sub hl [] rfl) hW hS hm hf
        · have hf := (op_if hf).2 k39
          refine lv_iconst (v := (1)) hx hb dX1_holdsPart_42 (by decide) ?_
          refine lv_goto (tgt := 47) hx hb dX1_holdsPart_43 (by decide) ?_
          have hf := Option.some.inj hf
          rw [← hf]
          exact z_iret hx hb hr hlocks (z_bb (Or.inr rfl)) hW hS hm (Or.inr rfl) dX1_holdsPart_47

theorem ni_X1_speedBehindBump_X1 : ∀ w ∈ wsX10, w ∈ wsX1_speedBehindBump := by decide +kernel
def fX1_speedBehindBump (S : zSt) (a_z : Nat) (b_z : Nat) (i_1 : Int32) : Option Int32 :=
st (fun (u_ : Unit) => (some ((-i_1)) : Option Int32)) fun j1 =>
if i_1 = 0 then
j1 ()
else
cl (fX1_isBroken S a_z b_z) fun r2 =>
if r2 = 0 then
st (if ((if 0 ≤ i_1 then i_1 else 0 - i_1) + (zI S (2, a_z, b_z) 4)) < (30 : Int32) then ((if 0 ≤ i_1 then i_1 else 0 - i_1) + (zI S (2, a_z, b_z) 4)) else (30 : Int32)) fun x5 =>
if i_1 ≤ 0 then
some (x5)
else
some ((-x5))
else
j1 ()
abbrev rmX1_speedBehindBump : Room := { frames := 1, cells := 0, slots := 0, locals := 21 }
set_option maxHeartbeats 4000000 in
set_option maxRecDepth 100000 in
theorem tX1_speedBehindBump (l : Launch) (Γ : zG) (lo : zId → Nat) (S : zSt) (X : va_W) {a_z : Nat} {b_z : Nat} {i_1 : Int32} (v_z : zV S (2, a_z, b_z) = true) {y : Int32} (hf : fX1_speedBehindBump S a_z b_z i_1 = some y) : Met l yX1_speedBehindBump wsX1_speedBehindBump rmX1_speedBehindBump (zP0 Γ lo S X [.ref (lo (2, a_z, b_z)), .int i_1]) (zQ0 Γ lo S S X (some (.int y)) True) 0 0 (zA Γ) := by
  refine Met.ofW (cc := cX1_speedBehindBump) (maxL := 3) (ret := (some .int)) (by decide) rfl ?_
  intro p e s m args below meth c s₁ B hml hv
  obtain ⟨rfl, hW, hKK⟩ := hv
  have hx := B.exec
  have hb := B.bytes
  have hr := B.returns
  have hts := atoms_spec (ws := wsX1_speedBehindBump) B.pre
  have hown : s.vm.findClass RX1 = some m.cls := findClass_of_methodNamed B.named
  have hlocks := B.notSynchronized
  have hS : va_S (zA Γ) s.heap s.heap [] := va_S.rf
  have hm : ∀ c, zV S c = zV S c := fun _ => rfl
  have hl := lv_entry ([.ref (lo (2, a_z, b_z)), .int i_1]) (n := 3) (Nat.le_of_ble_eq_true rfl)
  rw [lg_entry_eq]
  generalize (lg_sl ([.ref (lo (2, a_z, b_z)), .int i_1]) ++ List.replicate (3 - (lg_sl ([.ref (lo (2, a_z, b_z)), .int i_1])).length) Slot.unset).toArray = ls at hl ⊢
  have hl : lv_has ls 3 [(0, .ref (lo (2, a_z, b_z))), (1, .int i_1)] := hl
  obtain ⟨H, hH0⟩ : ∃ H, H = s.heap := ⟨_, rfl⟩
  obtain ⟨locs, hlo0⟩ : ∃ L : List Loc, L = [] := ⟨_, rfl⟩
  have hS : va_S (zA Γ) s.heap H locs := by rw [hH0, hlo0]; exact hS
  have hW : Wd Γ lo S X H := by rw [hH0]; exact hW
  rw [← hH0, ← hlo0]
  unfold fX1_speedBehindBump at hf
  refine lv_iload_n hx hb dX1_speedBehindBump_0 rfl (lv_at hl 1 rfl) ?_
  obtain ⟨j1, ej1, hf⟩ := op_st hf
  have hj1 : ∀ (u_ : Unit) (H : Heap) (locs : List Loc) (ls : Array Slot), lv_has ls 3 [(1, .int i_1)] → Wd Γ lo S X H → va_S (zA Γ) s.heap H locs → (∀ c, zV S c = zV S c) → j1 () = some y → W p l e (headSpec wsX1_speedBehindBump rmX1_speedBehindBump).room s m ([.ref (lo (2, a_z, b_z)), .int i_1] : List Value).toArray below meth c H locs 0 0 (MQ below (zQ0 Γ lo S S X (some (.int y)) True) ([.ref (lo (2, a_z, b_z)), .int i_1] : List Value).toArray s 0 0 (zA Γ)) (F0 m 11 ls []) := by
    intro u_ H locs ls  hl hW hS hm hf
    rw [ej1] at hf
    refine lv_iload_n hx hb dX1_speedBehindBump_11 rfl (lv_at hl 0 rfl) ?_
    refine lv_ineg hx hb dX1_speedBehindBump_12 ?_
    have hf := Option.some.inj hf
    rw [← hf]
    exact z_iret hx hb hr hlocks rfl hW hS hm trivial dX1_speedBehindBump_13
  refine lv_if_eq (tgt := 11) hx hb dX1_speedBehindBump_1 (by decide) (fun k1 => ?_) (fun k1 => ?_)
  · have hf := (op_if hf).1 k1
    exact hj1 () H locs ls  (lv_sub hl [1] rfl) hW hS hm hf
  · have hf := (op_if hf).2 k1
    refine lv_aload_n hx hb dX1_speedBehindBump_4 rfl (lv_at hl 0 rfl) ?_
    obtain ⟨r2, hc3, hf⟩ := op_cl hf
    refine z_callV (As := []) (rest := []) ⟨hx, hb, hml, hown, hts⟩ (tX1_isBroken l Γ lo S X v_z hc3) (cwV 0 hts gX1_speedBehindBump_X1_isBroken rfl rfl rfl (by decide +kernel) ⟨Nat.le_of_ble_eq_true rfl, Nat.le_of_ble_eq_true rfl⟩) (wd_1 hW v_z) rfl hKK hW hS rfl hl.1 rfl (Nat.le_of_ble_eq_true rfl) dX1_speedBehindBump_5 ⟨Nat.zero_le _, Nat.zero_le _⟩ (fun H locs hW hS hm1 hE => ?_)
    have b4 := hE
    refine lv_if_eq (tgt := 14) hx hb dX1_speedBehindBump_8 (by decide) (fun k8 => ?_) (fun k8 => ?_)
    · have hf := (op_if hf).1 k8
      refine lv_bipush (v := (30)) hx hb dX1_speedBehindBump_14 (by decide) ?_
      refine lv_iload_n hx hb dX1_speedBehindBump_16 rfl (lv_at hl 1 rfl) ?_
      refine va_mabs hx hb (hml.trans hl.1.symm) hown (hts (.methodLink RX1 37 Lib.Math.abs.name) (List.mem_of_getElem? (i := 1) rfl)) (hts (.static Lib.Math.abs.name) (List.mem_of_getElem? (i := 2) rfl)) (hts (.initialized "java/lang/Math") (List.mem_of_getElem? (i := 3) rfl)) (hts (.code Lib.Math.abs.name Lib.Math.abs.code 1 (some .int)) (List.mem_of_getElem? (i := 4) rfl)) (by decide) (Nat.le_of_ble_eq_true rfl) (Nat.zero_le _) (Nat.zero_le _) dX1_speedBehindBump_17 ?_
      refine lv_aload_n hx hb dX1_speedBehindBump_20 rfl (lv_at hl 0 rfl) ?_
      refine va_get hx hb hts ni_X1_speedBehindBump_X1 hown hKK.1 (wd_1 hW v_z) 0 rfl rfl 4 (by decide) (hts (.fieldLink RX1 30 "TiltRoute$Bumper" "kick" "I") (List.mem_of_getElem? (i := 5) rfl)) (fun _ h => h) rfl dX1_speedBehindBump_21 ?_
      refine lv_iadd hx hb dX1_speedBehindBump_24 ?_
      refine va_mmin hx hb (hml.trans hl.1.symm) hown (hts (.methodLink RX1 43 Lib.Math.min.name) (List.mem_of_getElem? (i := 6) rfl)) (hts (.static Lib.Math.min.name) (List.mem_of_getElem? (i := 7) rfl)) (hts (.initialized "java/lang/Math") (List.mem_of_getElem? (i := 3) rfl)) (hts (.code Lib.Math.min.name Lib.Math.min.code 2 (some .int)) (List.mem_of_getElem? (i := 8) rfl)) (by decide) (Nat.le_of_ble_eq_true rfl) (Nat.zero_le _) (Nat.zero_le _) dX1_speedBehindBump_25 ?_
      obtain ⟨x5, ex5, hf⟩ := op_st hf
      refine z_istn (lv' := [(2, .int x5), (0, .ref (lo (2, a_z, b_z))), (1, .int i_1)]) ex5 hx hb dX1_speedBehindBump_28 rfl hl (by decide) rfl (fun ls hl => ?_)
      refine lv_iload_n hx hb dX1_speedBehindBump_29 rfl (lv_at hl 2 rfl) ?_
      refine lv_if_le (tgt := 38) hx hb dX1_speedBehindBump_30 (by decide) (fun k30 => ?_) (fun k30 => ?_)
      · have hf := (op_if hf).1 k30
        refine lv_iload_n hx hb dX1_speedBehindBump_38 rfl (lv_at hl 0 rfl) ?_
        have hf := Option.some.inj hf
        rw [← hf]
        exact z_iret hx hb hr hlocks rfl hW hS hm trivial dX1_speedBehindBump_39
      · have hf := (op_if hf).2 k30
        refine lv_iload_n hx hb dX1_speedBehindBump_33 rfl (lv_at hl 0 rfl) ?_
        refine lv_ineg hx hb dX1_speedBehindBump_34 ?_
        refine lv_goto (tgt := 39) hx hb dX1_speedBehindBump_35 (by decide) ?_
        have hf := Option.some.inj hf
        rw [← hf]
        exact z_iret hx hb hr hlocks rfl hW hS hm trivial dX1_speedBehindBump_39
    · have hf := (op_if hf).2 k8
      exact hj1 () H locs ls  (lv_sub hl [1] rfl) hW hS hm hf

theorem ni_X6_pointsOf_X6 : ∀ w ∈ wsX60, w ∈ wsX6_pointsOf := by decide +kernel
def fX6_pointsOf (S : zSt) (a_z : Nat) (b_z : Nat) (i_1 : Int32) : Option Int32 :=
st (fun (u_ : Unit) => (some ((0 : Int32)) : Option Int32)) fun j1 =>
if i_1 < 0 then
j1 ()
else
if (8 : Int32) ≤ i_1 then
j1 ()
else
gd (¬ (i_1 < 0 ∨ 8 ≤ i_1.toNatClampNeg)) (
some ((zI S (12, a_z, b_z) i_1.toNatClampNeg)))
abbrev rmX6_pointsOf : Room := { frames := 0, cells := 0, slots := 0, locals := 0 }
set_option maxHeartbeats 4000000 in
set_option maxRecDepth 100000 in
theorem tX6_pointsOf (l : Launch) (Γ : zG) (lo : zId → Nat) (S : zSt) (X : va_W) {a_z : Nat} {b_z : Nat} {i_1 : Int32} (v_z : zV S (7, a_z, b_z) = true) {y : Int32} (hf : fX6_pointsOf S a_z b_z i_1 = some y) : Met l yX6_pointsOf wsX6_pointsOf rmX6_pointsOf (zP0 Γ lo S X [.ref (lo (7, a_z, b_z)), .int i_1]) (zQ0 Γ lo S S X (some (.int y)) True) 0 0 (zA Γ) := by
  refine Met.ofW (cc := cX6_pointsOf) (maxL := 2) (ret := (some .int)) (by decide) rfl ?_
  intro p e s m args below meth c s₁ B hml hv
  obtain ⟨rfl, hW, hKK⟩ := hv
  have hx := B.exec
  have hb := B.bytes
  have hr := B.returns
  have hts := atoms_spec (ws := wsX6_pointsOf) B.pre
  have hown : s.vm.findClass RX6 = some m.cls := findClass_of_methodNamed B.named
  have hlocks := B.notSynchronized
  have hS : va_S (zA Γ) s.heap s.heap [] := va_S.rf
  have hm : ∀ c, zV S c = zV S c := fun _ => rfl
  have hl := lv_entry ([.ref (lo (7, a_z, b_z)), .int i_1]) (n := 2) (Nat.le_of_ble_eq_true rfl)
  rw [lg_entry_eq]
  generalize (lg_sl ([.ref (lo (7, a_z, b_z)), .int i_1]) ++ List.replicate (2 - (lg_sl ([.ref (lo (7, a_z, b_z)), .int i_1])).length) Slot.unset).toArray = ls at hl ⊢
  have hl : lv_has ls 2 [(0, .ref (lo (7, a_z, b_z))), (1, .int i_1)] := hl
  obtain ⟨H, hH0⟩ : ∃ H, H = s.heap := ⟨_, rfl⟩
  obtain ⟨locs, hlo0⟩ : ∃ L : List Loc, L = [] := ⟨_, rfl⟩
  have hS : va_S (zA Γ) s.heap H locs := by rw [hH0, hlo0]; exact hS
  have hW : Wd Γ lo S X H := by rw [hH0]; exact hW
  rw [← hH0, ← hlo0]
  unfold fX6_pointsOf at hf
  refine lv_iload_n hx hb dX6_pointsOf_0 rfl (lv_at hl 1 rfl) ?_
  obtain ⟨j1, ej1, hf⟩ := op_st hf
  have hj1 : ∀ (u_ : Unit) (H : Heap) (locs : List Loc) (ls : Array Slot), lv_has ls 2 [] → Wd Γ lo S X H → va_S (zA Γ) s.heap H locs → (∀ c, zV S c = zV S c) → j1 () = some y → W p l e (headSpec wsX6_pointsOf rmX6_pointsOf).room s m ([.ref (lo (7, a_z, b_z)), .int i_1] : List Value).toArray below meth c H locs 0 0 (MQ below (zQ0 Γ lo S S X (some (.int y)) True) ([.ref (lo (7, a_z, b_z)), .int i_1] : List Value).toArray s 0 0 (zA Γ)) (F0 m 22 ls []) := by
    intro u_ H locs ls  hl hW hS hm hf
    rw [ej1] at hf
    refine lv_iconst (v := (0)) hx hb dX6_pointsOf_22 (by decide) ?_
    have hf := Option.some.inj hf
    rw [← hf]
    exact z_iret hx hb hr hlocks rfl hW hS hm trivial dX6_pointsOf_23
  refine lv_if_lt (tgt := 22) hx hb dX6_pointsOf_1 (by decide) (fun k1 => ?_) (fun k1 => ?_)
  · have hf := (op_if hf).1 k1
    exact hj1 () H locs ls  (lv_sub hl [] rfl) hW hS hm hf
  · have hf := (op_if hf).2 k1
    refine lv_iload_n hx hb dX6_pointsOf_4 rfl (lv_at hl 1 rfl) ?_
    refine lv_aload_n hx hb dX6_pointsOf_5 rfl (lv_at hl 0 rfl) ?_
    refine va_get hx hb hts ni_X6_pointsOf_X6 hown hKK.1 (wd_1 hW v_z) 0 rfl rfl 0 (by decide) (hts (.fieldLink RX6 9 "TiltRoute$Rules" "points" "[I") (List.mem_of_getElem? (i := 1) rfl)) (fun _ h => h) rfl dX6_pointsOf_6 ?_
    have v2 : zV S (12, a_z, b_z) = true := vf_7_0 hW v_z
    refine va_alen (v := 8) hx hb hKK.1 (wd_1 hW v2) 0 0 rfl rfl (show Int32.ofNat 8 = 8 by decide) dX6_pointsOf_9 ?_
    refine lv_icmp_ge (tgt := 22) hx hb dX6_pointsOf_10 (by decide) (fun k10 => ?_) (fun k10 => ?_)
    · have hf := (op_if hf).1 k10
      exact hj1 () H locs ls  (lv_sub hl [] rfl) hW hS hm hf
    · have hf := (op_if hf).2 k10
      refine lv_aload_n hx hb dX6_pointsOf_13 rfl (lv_at hl 0 rfl) ?_
      refine va_get hx hb hts ni_X6_pointsOf_X6 hown hKK.1 (wd_1 hW v_z) 0 rfl rfl 0 (by decide) (hts (.fieldLink RX6 9 "TiltRoute$Rules" "points" "[I") (List.mem_of_getElem? (i := 1) rfl)) (fun _ h => h) rfl dX6_pointsOf_14 ?_
      have v3 : zV S (12, a_z, b_z) = true := vf_7_0 hW v_z
      refine lv_iload_n hx hb dX6_pointsOf_17 rfl (lv_at hl 1 rfl) ?_
      obtain ⟨h18, hf⟩ := op_gd hf
      refine va_iald hx hb hKK.1 (wd_1 hW v3) 0 0 (n := 8) rfl rfl h18 dX6_pointsOf_18 ?_
      refine lv_goto (tgt := 23) hx hb dX6_pointsOf_19 (by decide) ?_
      have hf := Option.some.inj hf
      rw [← hf]
      exact z_iret hx hb hr hlocks rfl hW hS hm trivial dX6_pointsOf_23

theorem ni_X6_changePoints_X6 : ∀ w ∈ wsX60, w ∈ wsX6_changePoints := by decide +kernel
def fX6_changePoints (S : zSt) (a_z : Nat) (b_z : Nat) (i_1 : Int32) (i_2 : Int32) : Option zSt :=
if i_1 < 0 then
some (S)
else
if (8 : Int32) ≤ i_1 then
some (S)
else
gd (¬ (i_1 < 0 ∨ 8 ≤ i_1.toNatClampNeg)) (
st (pI S (12, a_z, b_z) i_1.toNatClampNeg i_2) fun S3 =>
some (S3))
abbrev rmX6_changePoints : Room := { frames := 0, cells := 0, slots := 0, locals := 0 }
set_option maxHeartbeats 4000000 in
set_option maxRecDepth 100000 in
theorem tX6_changePoints (l : Launch) (Γ : zG) (lo : zId → Nat) (S : zSt) (X : va_W) {a_z : Nat} {b_z : Nat} {i_1 : Int32} {i_2 : Int32} (v_z : zV S (7, a_z, b_z) = true) {y : zSt} (hf : fX6_changePoints S a_z b_z i_1 i_2 = some y) : Met l yX6_changePoints wsX6_changePoints rmX6_changePoints (zP0 Γ lo S X [.ref (lo (7, a_z, b_z)), .int i_1, .int i_2]) (zQ0 Γ lo S y X none True) 0 0 (zA Γ) := by
  refine Met.ofW (cc := cX6_changePoints) (maxL := 3) (ret := none) (by decide) rfl ?_
  intro p e s m args below meth c s₁ B hml hv
  obtain ⟨rfl, hW, hKK⟩ := hv
  have hx := B.exec
  have hb := B.bytes
  have hr := B.returns
  have hts := atoms_spec (ws := wsX6_changePoints) B.pre
  have hown : s.vm.findClass RX6 = some m.cls := findClass_of_methodNamed B.named
  have hlocks := B.notSynchronized
  have hS : va_S (zA Γ) s.heap s.heap [] := va_S.rf
  have hm : ∀ c, zV S c = zV S c := fun _ => rfl
  have hl := lv_entry ([.ref (lo (7, a_z, b_z)), .int i_1, .int i_2]) (n := 3) (Nat.le_of_ble_eq_true rfl)
  rw [lg_entry_eq]
  generalize (lg_sl ([.ref (lo (7, a_z, b_z)), .int i_1, .int i_2]) ++ List.replicate (3 - (lg_sl ([.ref (lo (7, a_z, b_z)), .int i_1, .int i_2])).length) Slot.unset).toArray = ls at hl ⊢
  have hl : lv_has ls 3 [(0, .ref (lo (7, a_z, b_z))), (1, .int i_1), (2, .int i_2)] := hl
  obtain ⟨H, hH0⟩ : ∃ H, H = s.heap := ⟨_, rfl⟩
  obtain ⟨locs, hlo0⟩ : ∃ L : List Loc, L = [] := ⟨_, rfl⟩
  have hS : va_S (zA Γ) s.heap H locs := by rw [hH0, hlo0]; exact hS
  have hW : Wd Γ lo S X H := by rw [hH0]; exact hW
  rw [← hH0, ← hlo0]
  unfold fX6_changePoints at hf
  refine lv_iload_n hx hb dX6_changePoints_0 rfl (lv_at hl 1 rfl) ?_
  refine lv_if_lt (tgt := 20) hx hb dX6_changePoints_1 (by decide) (fun k1 => ?_) (fun k1 => ?_)
  · have hf := (op_if hf).1 k1
    have hf := Option.some.inj hf
    rw [← hf]
    exact z_vret hx hb hr hlocks hW hS hm trivial dX6_changePoints_20
  · have hf := (op_if hf).2 k1
    refine lv_iload_n hx hb dX6_changePoints_4 rfl (lv_at hl 1 rfl) ?_
    refine lv_aload_n hx hb dX6_changePoints_5 rfl (lv_at hl 0 rfl) ?_
    refine va_get hx hb hts ni_X6_changePoints_X6 hown hKK.1 (wd_1 hW v_z) 0 rfl rfl 0 (by decide) (hts (.fieldLink RX6 9 "TiltRoute$Rules" "points" "[I") (List.mem_of_getElem? (i := 1) rfl)) (fun _ h => h) rfl dX6_changePoints_6 ?_
    have v1 : zV S (12, a_z, b_z) = true := vf_7_0 hW v_z
    refine va_alen (v := 8) hx hb hKK.1 (wd_1 hW v1) 0 0 rfl rfl (show Int32.ofNat 8 = 8 by decide) dX6_changePoints_9 ?_
    refine lv_icmp_ge (tgt := 20) hx hb dX6_changePoints_10 (by decide) (fun k10 => ?_) (fun k10 => ?_)
    · have hf := (op_if hf).1 k10
      have hf := Option.some.inj hf
      rw [← hf]
      exact z_vret hx hb hr hlocks hW hS hm trivial dX6_changePoints_20
    · have hf := (op_if hf).2 k10
      refine lv_aload_n hx hb dX6_changePoints_13 rfl (lv_at hl 0 rfl) ?_
      refine va_get hx hb hts ni_X6_changePoints_X6 hown hKK.1 (wd_1 hW v_z) 0 rfl rfl 0 (by decide) (hts (.fieldLink RX6 9 "TiltRoute$Rules" "points" "[I") (List.mem_of_getElem? (i := 1) rfl)) (fun _ h => h) rfl dX6_changePoints_14 ?_
      have v2 : zV S (12, a_z, b_z) = true := vf_7_0 hW v_z
      refine lv_iload_n hx hb dX6_changePoints_17 rfl (lv_at hl 1 rfl) ?_
      refine lv_iload_n hx hb dX6_changePoints_18 rfl (lv_at hl 2 rfl) ?_
      obtain ⟨h19, hf⟩ := op_gd hf
      obtain ⟨S3, eS3, hf⟩ := op_st hf
      refine g_iast (n := 8) hx hb hKK.1 hW hS v2 (fun _ _ _ _ => rfl) h19 dX6_changePoints_19 eS3 (fun H locs hW hS => ?_)
      have hm : ∀ c, zV S3 c = zV S c := fun c => by rw [eS3]; rfl
      have hf := Option.some.inj hf
      rw [← hf]
      exact z_vret hx hb hr hlocks hW hS hm trivial dX6_changePoints_20

theorem ni_X6_modeOf_X6 : ∀ w ∈ wsX60, w ∈ wsX6_modeOf := by decide +kernel
def fX6_modeOf (S : zSt) (a_z : Nat) (b_z : Nat) (i_1 : Int32) : Option (Option Nat) :=
st (fun (u_ : Unit) => (some (none) : Option (Option Nat))) fun j1 =>
if i_1 < 0 then
j1 ()
else
if (4 : Int32) ≤ i_1 then
j1 ()
else
gd (¬ (i_1 < 0 ∨ 4 ≤ i_1.toNatClampNeg)) (
some ((zQ S (13, a_z, b_z) i_1.toNatClampNeg)))
abbrev rmX6_modeOf : Room := { frames := 0, cells := 0, slots := 0, locals := 0 }
set_option maxHeartbeats 4000000 in
set_option maxRecDepth 100000 in
theorem tX6_modeOf (l : Launch) (Γ : zG) (lo : zId → Nat) (S : zSt) (X : va_W) {a_z : Nat} {b_z : Nat} {i_1 : Int32} (v_z : zV S (7, a_z, b_z) = true) {y : (Option Nat)} (hf : fX6_modeOf S a_z b_z i_1 = some y) : Met l yX6_modeOf wsX6_modeOf rmX6_modeOf (zP0 Γ lo S X [.ref (lo (7, a_z, b_z)), .int i_1]) (zQ0 Γ lo S S X (some (va_rf (Option.map (fun n => lo (4, n, 0)) y))) (∀ n, y = some n → zV S (4, n, 0) = true)) 0 0 (zA Γ) := by
  refine Met.ofW (cc := cX6_modeOf) (maxL := 2) (ret := (some (.object "TiltRoute$Mode"))) (by decide) rfl ?_
  intro p e s m args below meth c s₁ B hml hv
  obtain ⟨rfl, hW, hKK⟩ := hv
  have hx := B.exec
  have hb := B.bytes
  have hr := B.returns
  have hts := atoms_spec (ws := wsX6_modeOf) B.pre
  have hown : s.vm.findClass RX6 = some m.cls := findClass_of_methodNamed B.named
  have hlocks := B.notSynchronized
  have hS : va_S (zA Γ) s.heap s.heap [] := va_S.rf
  have hm : ∀ c, zV S c = zV S c := fun _ => rfl
  have hl := lv_entry ([.ref (lo (7, a_z, b_z)), .int i_1]) (n := 2) (Nat.le_of_ble_eq_true rfl)
  rw [lg_entry_eq]
  generalize (lg_sl ([.ref (lo (7, a_z, b_z)), .int i_1]) ++ List.replicate (2 - (lg_sl ([.ref (lo (7, a_z, b_z)), .int i_1])).length) Slot.unset).toArray = ls at hl ⊢
  have hl : lv_has ls 2 [(0, .ref (lo (7, a_z, b_z))), (1, .int i_1)] := hl
  obtain ⟨H, hH0⟩ : ∃ H, H = s.heap := ⟨_, rfl⟩
  obtain ⟨locs, hlo0⟩ : ∃ L : List Loc, L = [] := ⟨_, rfl⟩
  have hS : va_S (zA Γ) s.heap H locs := by rw [hH0, hlo0]; exact hS
  have hW : Wd Γ lo S X H := by rw [hH0]; exact hW
  rw [← hH0, ← hlo0]
  unfold fX6_modeOf at hf
  refine lv_iload_n hx hb dX6_modeOf_0 rfl (lv_at hl 1 rfl) ?_
  obtain ⟨j1, ej1, hf⟩ := op_st hf
  have hj1 : ∀ (u_ : Unit) (H : Heap) (locs : List Loc) (ls : Array Slot), lv_has ls 2 [] → Wd Γ lo S X H → va_S (zA Γ) s.heap H locs → (∀ c, zV S c = zV S c) → j1 () = some y → W p l e (headSpec wsX6_modeOf rmX6_modeOf).room s m ([.ref (lo (7, a_z, b_z)), .int i_1] : List Value).toArray below meth c H locs 0 0 (MQ below (zQ0 Γ lo S S X (some (va_rf (Option.map (fun n => lo (4, n, 0)) y))) (∀ n, y = some n → zV S (4, n, 0) = true)) ([.ref (lo (7, a_z, b_z)), .int i_1] : List Value).toArray s 0 0 (zA Γ)) (F0 m 22 ls []) := by
    intro u_ H locs ls  hl hW hS hm hf
    rw [ej1] at hf
    refine lv_null hx hb dX6_modeOf_22 ?_
    have hf := Option.some.inj hf
    rw [← hf]
    exact z_aret (o := none) hx hb hr hlocks hW hS hm (fun _ h => nomatch h) dX6_modeOf_23
  refine lv_if_lt (tgt := 22) hx hb dX6_modeOf_1 (by decide) (fun k1 => ?_) (fun k1 => ?_)
  · have hf := (op_if hf).1 k1
    exact hj1 () H locs ls  (lv_sub hl [] rfl) hW hS hm hf
  · have hf := (op_if hf).2 k1
    refine lv_iload_n hx hb dX6_modeOf_4 rfl (lv_at hl 1 rfl) ?_
    refine lv_aload_n hx hb dX6_modeOf_5 rfl (lv_at hl 0 rfl) ?_
    refine va_get hx hb hts ni_X6_modeOf_X6 hown hKK.1 (wd_1 hW v_z) 0 rfl rfl 1 (by decide) (hts (.fieldLink RX6 17 "TiltRoute$Rules" "modes" "[LTiltRoute$Mode;") (List.mem_of_getElem? (i := 1) rfl)) (fun _ h => h) rfl dX6_modeOf_6 ?_
    have v2 : zV S (13, a_z, b_z) = true := vf_7_1 hW v_z
    refine va_alen (v := 4) hx hb hKK.1 (wd_1 hW v2) 0 3 rfl rfl (show Int32.ofNat 4 = 4 by decide) dX6_modeOf_9 ?_
    refine lv_icmp_ge (tgt := 22) hx hb dX6_modeOf_10 (by decide) (fun k10 => ?_) (fun k10 => ?_)
    · have hf := (op_if hf).1 k10
      exact hj1 () H locs ls  (lv_sub hl [] rfl) hW hS hm hf
    · have hf := (op_if hf).2 k10
      refine lv_aload_n hx hb dX6_modeOf_13 rfl (lv_at hl 0 rfl) ?_
      refine va_get hx hb hts ni_X6_modeOf_X6 hown hKK.1 (wd_1 hW v_z) 0 rfl rfl 1 (by decide) (hts (.fieldLink RX6 17 "TiltRoute$Rules" "modes" "[LTiltRoute$Mode;") (List.mem_of_getElem? (i := 1) rfl)) (fun _ h => h) rfl dX6_modeOf_14 ?_
      have v3 : zV S (13, a_z, b_z) = true := vf_7_1 hW v_z
      refine lv_iload_n hx hb dX6_modeOf_17 rfl (lv_at hl 1 rfl) ?_
      obtain ⟨h18, hf⟩ := op_gd hf
      refine z_aldq hx hb hKK.1 hW v3 h18 dX6_modeOf_18 ?_
      have v4 : ∀ n, (zQ S (13, a_z, b_z) i_1.toNatClampNeg) = some n → zV S (4, n, 0) = true := fun n h => vf_13 hW v3 (z_in4 h18) h
      refine lv_goto (tgt := 23) hx hb dX6_modeOf_19 (by decide) ?_
      have hf := Option.some.inj hf
      rw [← hf]
      exact z_aret hx hb hr hlocks hW hS hm v4 dX6_modeOf_23

theorem ni_X8_spareOf_X8 : ∀ w ∈ wsX80, w ∈ wsX8_spareOf := by decide +kernel
def fX8_spareOf (S : zSt) (a_z : Nat) (i_1 : Int32) : Option Int32 :=
st (fun (u_ : Unit) => (some ((0 : Int32)) : Option Int32)) fun j1 =>
if i_1 < 0 then
j1 ()
else
if (2 : Int32) ≤ i_1 then
j1 ()
else
gd (¬ (i_1 < 0 ∨ 2 ≤ i_1.toNatClampNeg)) (
some ((zI S (20, a_z, 0) i_1.toNatClampNeg)))
abbrev rmX8_spareOf : Room := { frames := 0, cells := 0, slots := 0, locals := 0 }
set_option maxHeartbeats 4000000 in
set_option maxRecDepth 100000 in
theorem tX8_spareOf (l : Launch) (Γ : zG) (lo : zId → Nat) (S : zSt) (X : va_W) {a_z : Nat} {i_1 : Int32} (v_z : zV S (9, a_z, 0) = true) {y : Int32} (hf : fX8_spareOf S a_z i_1 = some y) : Met l yX8_spareOf wsX8_spareOf rmX8_spareOf (zP0 Γ lo S X [.ref (lo (9, a_z, 0)), .int i_1]) (zQ0 Γ lo S S X (some (.int y)) True) 0 0 (zA Γ) := by
  refine Met.ofW (cc := cX8_spareOf) (maxL := 2) (ret := (some .int)) (by decide) rfl ?_
  intro p e s m args below meth c s₁ B hml hv
  obtain ⟨rfl, hW, hKK⟩ := hv
  have hx := B.exec
  have hb := B.bytes
  have hr := B.returns
  have hts := atoms_spec (ws := wsX8_spareOf) B.pre
  have hown : s.vm.findClass RX8 = some m.cls := findClass_of_methodNamed B.named
  have hlocks := B.notSynchronized
  have hS : va_S (zA Γ) s.heap s.heap [] := va_S.rf
  have hm : ∀ c, zV S c = zV S c := fun _ => rfl
  have hl := lv_entry ([.ref (lo (9, a_z, 0)), .int i_1]) (n := 2) (Nat.le_of_ble_eq_true rfl)
  rw [lg_entry_eq]
  generalize (lg_sl ([.ref (lo (9, a_z, 0)), .int i_1]) ++ List.replicate (2 - (lg_sl ([.ref (lo (9, a_z, 0)), .int i_1])).length) Slot.unset).toArray = ls at hl ⊢
  have hl : lv_has ls 2 [(0, .ref (lo (9, a_z, 0))), (1, .int i_1)] := hl
  obtain ⟨H, hH0⟩ : ∃ H, H = s.heap := ⟨_, rfl⟩
  obtain ⟨locs, hlo0⟩ : ∃ L : List Loc, L = [] := ⟨_, rfl⟩
  have hS : va_S (zA Γ) s.heap H locs := by rw [hH0, hlo0]; exact hS
  have hW : Wd Γ lo S X H := by rw [hH0]; exact hW
  rw [← hH0, ← hlo0]
  unfold fX8_spareOf at hf
  refine lv_iload_n hx hb dX8_spareOf_0 rfl (lv_at hl 1 rfl) ?_
  obtain ⟨j1, ej1, hf⟩ := op_st hf
  have hj1 : ∀ (u_ : Unit) (H : Heap) (locs : List Loc) (ls : Array Slot), lv_has ls 2 [] → Wd Γ lo S X H → va_S (zA Γ) s.heap H locs → (∀ c, zV S c = zV S c) → j1 () = some y → W p l e (headSpec wsX8_spareOf rmX8_spareOf).room s m ([.ref (lo (9, a_z, 0)), .int i_1] : List Value).toArray below meth c H locs 0 0 (MQ below (zQ0 Γ lo S S X (some (.int y)) True) ([.ref (lo (9, a_z, 0)), .int i_1] : List Value).toArray s 0 0 (zA Γ)) (F0 m 22 ls []) := by
    intro u_ H locs ls  hl hW hS hm hf
    rw [ej1] at hf
    refine lv_iconst (v := (0)) hx hb dX8_spareOf_22 (by decide) ?_
    have hf := Option.some.inj hf
    rw [← hf]
    exact z_iret hx hb hr hlocks rfl hW hS hm trivial dX8_spareOf_23
  refine lv_if_lt (tgt := 22) hx hb dX8_spareOf_1 (by decide) (fun k1 => ?_) (fun k1 => ?_)
  · have hf := (op_if hf).1 k1
    exact hj1 () H locs ls  (lv_sub hl [] rfl) hW hS hm hf
  · have hf := (op_if hf).2 k1
    refine lv_iload_n hx hb dX8_spareOf_4 rfl (lv_at hl 1 rfl) ?_
    refine lv_aload_n hx hb dX8_spareOf_5 rfl (lv_at hl 0 rfl) ?_
    refine va_get hx hb hts ni_X8_spareOf_X8 hown hKK.1 (wd_1 hW v_z) 0 rfl rfl 0 (by decide) (hts (.fieldLink RX8 9 "TiltRoute$Van" "spare" "[I") (List.mem_of_getElem? (i := 1) rfl)) (fun _ h => h) rfl dX8_spareOf_6 ?_
    have v2 : zV S (20, a_z, 0) = true := vf_9_0 hW v_z
    refine va_alen (v := 2) hx hb hKK.1 (wd_1 hW v2) 0 0 rfl rfl (show Int32.ofNat 2 = 2 by decide) dX8_spareOf_9 ?_
    refine lv_icmp_ge (tgt := 22) hx hb dX8_spareOf_10 (by decide) (fun k10 => ?_) (fun k10 => ?_)
    · have hf := (op_if hf).1 k10
      exact hj1 () H locs ls  (lv_sub hl [] rfl) hW hS hm hf
    · have hf := (op_if hf).2 k10
      refine lv_aload_n hx hb dX8_spareOf_13 rfl (lv_at hl 0 rfl) ?_
      refine va_get hx hb hts ni_X8_spareOf_X8 hown hKK.1 (wd_1 hW v_z) 0 rfl rfl 0 (by decide) (hts (.fieldLink RX8 9 "TiltRoute$Van" "spare" "[I") (List.mem_of_getElem? (i := 1) rfl)) (fun _ h => h) rfl dX8_spareOf_14 ?_
      have v3 : zV S (20, a_z, 0) = true := vf_9_0 hW v_z
      refine lv_iload_n hx hb dX8_spareOf_17 rfl (lv_at hl 1 rfl) ?_
      obtain ⟨h18, hf⟩ := op_gd hf
      refine va_iald hx hb hKK.1 (wd_1 hW v3) 0 0 (n := 2) rfl rfl h18 dX8_spareOf_18 ?_
      refine lv_goto (tgt := 23) hx hb dX8_spareOf_19 (by decide) ?_
      have hf := Option.some.inj hf
      rw [← hf]
      exact z_iret hx hb hr hlocks rfl hW hS hm trivial dX8_spareOf_23

theorem ni_X8_addSpare_X8 : ∀ w ∈ wsX80, w ∈ wsX8_addSpare := by decide +kernel
def fX8_addSpare (S : zSt) (a_z : Nat) (i_1 : Int32) (i_2 : Int32) : Option zSt :=
if i_1 < 0 then
some (S)
else
if (2 : Int32) ≤ i_1 then
some (S)
else
gd (¬ (i_1 < 0 ∨ 2 ≤ i_1.toNatClampNeg)) (
gd (¬ (i_1 < 0 ∨ 2 ≤ i_1.toNatClampNeg)) (
st (pI S (20, a_z, 0) i_1.toNatClampNeg ((zI S (20, a_z, 0) i_1.toNatClampNeg) + i_2)) fun S3 =>
some (S3)))
abbrev rmX8_addSpare : Room := { frames := 0, cells := 0, slots := 0, locals := 0 }
set_option maxHeartbeats 4000000 in
set_option maxRecDepth 100000 in
theorem tX8_addSpare (l : Launch) (Γ : zG) (lo : zId → Nat) (S : zSt) (X : va_W) {a_z : Nat} {i_1 : Int32} {i_2 : Int32} (v_z : zV S (9, a_z, 0) = true) {y : zSt} (hf : fX8_addSpare S a_z i_1 i_2 = some y) : Met l yX8_addSpare wsX8_addSpare rmX8_addSpare (zP0 Γ lo S X [.ref (lo (9, a_z, 0)), .int i_1, .int i_2]) (zQ0 Γ lo S y X none True) 0 0 (zA Γ) := by
  refine Met.ofW (cc := cX8_addSpare) (maxL := 3) (ret := none) (by decide) rfl ?_
  intro p e s m args below meth c s₁ B hml hv
  obtain ⟨rfl, hW, hKK⟩ := hv
  have hx := B.exec
  have hb := B.bytes
  have hr := B.returns
  have hts := atoms_spec (ws := wsX8_addSpare) B.pre
  have hown : s.vm.findClass RX8 = some m.cls := findClass_of_methodNamed B.named
  have hlocks := B.notSynchronized
  have hS : va_S (zA Γ) s.heap s.heap [] := va_S.rf
  have hm : ∀ c, zV S c = zV S c := fun _ => rfl
  have hl := lv_entry ([.ref (lo (9, a_z, 0)), .int i_1, .int i_2]) (n := 3) (Nat.le_of_ble_eq_true rfl)
  rw [lg_entry_eq]
  generalize (lg_sl ([.ref (lo (9, a_z, 0)), .int i_1, .int i_2]) ++ List.replicate (3 - (lg_sl ([.ref (lo (9, a_z, 0)), .int i_1, .int i_2])).length) Slot.unset).toArray = ls at hl ⊢
  have hl : lv_has ls 3 [(0, .ref (lo (9, a_z, 0))), (1, .int i_1), (2, .int i_2)] := hl
  obtain ⟨H, hH0⟩ : ∃ H, H = s.heap := ⟨_, rfl⟩
  obtain ⟨locs, hlo0⟩ : ∃ L : List Loc, L = [] := ⟨_, rfl⟩
  have hS : va_S (zA Γ) s.heap H locs := by rw [hH0, hlo0]; exact hS
  have hW : Wd Γ lo S X H := by rw [hH0]; exact hW
  rw [← hH0, ← hlo0]
  unfold fX8_addSpare at hf
  refine lv_iload_n hx hb dX8_addSpare_0 rfl (lv_at hl 1 rfl) ?_
  refine lv_if_lt (tgt := 23) hx hb dX8_addSpare_1 (by decide) (fun k1 => ?_) (fun k1 => ?_)
  · have hf := (op_if hf).1 k1
    have hf := Option.some.inj hf
    rw [← hf]
    exact z_vret hx hb hr hlocks hW hS hm trivial dX8_addSpare_23
  · have hf := (op_if hf).2 k1
    refine lv_iload_n hx hb dX8_addSpare_4 rfl (lv_at hl 1 rfl) ?_
    refine lv_aload_n hx hb dX8_addSpare_5 rfl (lv_at hl 0 rfl) ?_
    refine va_get hx hb hts ni_X8_addSpare_X8 hown hKK.1 (wd_1 hW v_z) 0 rfl rfl 0 (by decide) (hts (.fieldLink RX8 9 "TiltRoute$Van" "spare" "[I") (List.mem_of_getElem? (i := 1) rfl)) (fun _ h => h) rfl dX8_addSpare_6 ?_
    have v1 : zV S (20, a_z, 0) = true := vf_9_0 hW v_z
    refine va_alen (v := 2) hx hb hKK.1 (wd_1 hW v1) 0 0 rfl rfl (show Int32.ofNat 2 = 2 by decide) dX8_addSpare_9 ?_
    refine lv_icmp_ge (tgt := 23) hx hb dX8_addSpare_10 (by decide) (fun k10 => ?_) (fun k10 => ?_)
    · have hf := (op_if hf).1 k10
      have hf := Option.some.inj hf
      rw [← hf]
      exact z_vret hx hb hr hlocks hW hS hm trivial dX8_addSpare_23
    · have hf := (op_if hf).2 k10
      refine lv_aload_n hx hb dX8_addSpare_13 rfl (lv_at hl 0 rfl) ?_
      refine va_get hx hb hts ni_X8_addSpare_X8 hown hKK.1 (wd_1 hW v_z) 0 rfl rfl 0 (by decide) (hts (.fieldLink RX8 9 "TiltRoute$Van" "spare" "[I") (List.mem_of_getElem? (i := 1) rfl)) (fun _ h => h) rfl dX8_addSpare_14 ?_
      have v2 : zV S (20, a_z, 0) = true := vf_9_0 hW v_z
      refine lv_iload_n hx hb dX8_addSpare_17 rfl (lv_at hl 1 rfl) ?_
      refine lv_dup2_11 hx hb dX8_addSpare_18 rfl rfl ?_
      obtain ⟨h19, hf⟩ := op_gd hf
      refine va_iald hx hb hKK.1 (wd_1 hW v2) 0 0 (n := 2) rfl rfl h19 dX8_addSpare_19 ?_
      refine lv_iload_n hx hb dX8_addSpare_20 rfl (lv_at hl 2 rfl) ?_
      refine lv_iadd hx hb dX8_addSpare_21 ?_
      obtain ⟨h22, hf⟩ := op_gd hf
      obtain ⟨S3, eS3, hf⟩ := op_st hf
      refine g_iast (n := 2) hx hb hKK.1 hW hS v2 (fun _ _ _ _ => rfl) h22 dX8_addSpare_22 eS3 (fun H locs hW hS => ?_)
      have hm : ∀ c, zV S3 c = zV S c := fun c => by rw [eS3]; rfl
      have hf := Option.some.inj hf
      rw [← hf]
      exact z_vret hx hb hr hlocks hW hS hm trivial dX8_addSpare_23

def fX8_takeSpare (S : zSt) (a_z : Nat) (i_1 : Int32) : Option (Int32 × zSt) :=
cl (fX8_spareOf S a_z i_1) fun r1 =>
if r1 = 0 then
some (((0 : Int32), S))
else
cl (fX8_addSpare S a_z i_1 (-1 : Int32)) fun S5 =>
some (((1 : Int32), S5))
abbrev rmX8_takeSpare : Room := { frames := 1, cells := 0, slots := 0, locals := 22 }
set_option maxHeartbeats 4000000 in
set_option maxRecDepth 100000 in
theorem tX8_takeSpare (l : Launch) (Γ : zG) (lo : zId → Nat) (S : zSt) (X : va_W) {a_z : Nat} {i_1 : Int32} (v_z : zV S (9, a_z, 0) = true) {y : (Int32 × zSt)} (hf : fX8_takeSpare S a_z i_1 = some y) : Met l yX8_takeSpare wsX8_takeSpare rmX8_takeSpare (zP0 Γ lo S X [.ref (lo (9, a_z, 0)), .int i_1]) (zQ0 Γ lo S y.2 X (some (.int y.1)) (y.1 = 0 ∨ y.1 = 1)) 0 0 (zA Γ) := by
  refine Met.ofW (cc := cX8_takeSpare) (maxL := 2) (ret := (some .boolean)) (by decide) rfl ?_
  intro p e s m args below meth c s₁ B hml hv
  obtain ⟨rfl, hW, hKK⟩ := hv
  have hx := B.exec
  have hb := B.bytes
  have hr := B.returns
  have hts := atoms_spec (ws := wsX8_takeSpare) B.pre
  have hown : s.vm.findClass RX8 = some m.cls := findClass_of_methodNamed B.named
  have hlocks := B.notSynchronized
  have hS : va_S (zA Γ) s.heap s.heap [] := va_S.rf
  have hm : ∀ c, zV S c = zV S c := fun _ => rfl
  have hl := lv_entry ([.ref (lo (9, a_z, 0)), .int i_1]) (n := 2) (Nat.le_of_ble_eq_true rfl)
  rw [lg_entry_eq]
  generalize (lg_sl ([.ref (lo (9, a_z, 0)), .int i_1]) ++ List.replicate (2 - (lg_sl ([.ref (lo (9, a_z, 0)), .int i_1])).length) Slot.unset).toArray = ls at hl ⊢
  have hl : lv_has ls 2 [(0, .ref (lo (9, a_z, 0))), (1, .int i_1)] := hl
  obtain ⟨H, hH0⟩ : ∃ H, H = s.heap := ⟨_, rfl⟩
  obtain ⟨locs, hlo0⟩ : ∃ L : List Loc, L = [] := ⟨_, rfl⟩
  have hS : va_S (zA Γ) s.heap H locs := by rw [hH0, hlo0]; exact hS
  have hW : Wd Γ lo S X H := by rw [hH0]; exact hW
  rw [← hH0, ← hlo0]
  unfold fX8_takeSpare at hf
  refine lv_aload_n hx hb dX8_takeSpare_0 rfl (lv_at hl 0 rfl) ?_
  refine lv_iload_n hx hb dX8_takeSpare_1 rfl (lv_at hl 1 rfl) ?_
  obtain ⟨r1, hc2, hf⟩ := op_cl hf
  refine z_callV (As := [.int i_1]) (rest := []) ⟨hx, hb, hml, hown, hts⟩ (tX8_spareOf l Γ lo S X v_z hc2) (cwV 1 hts gX8_takeSpare_X8_spareOf rfl rfl rfl (by decide +kernel) ⟨Nat.le_of_ble_eq_true rfl, Nat.le_of_ble_eq_true rfl⟩) (wd_1 hW v_z) rfl hKK hW hS rfl hl.1 rfl (Nat.le_of_ble_eq_true rfl) dX8_takeSpare_2 ⟨Nat.zero_le _, Nat.zero_le _⟩ (fun H locs hW hS hm1 hE => ?_)
  refine lv_if_ne (tgt := 10) hx hb dX8_takeSpare_5 (by decide) (fun k5 => ?_) (fun k5 => ?_)
  · have hf := (op_if hf).2 k5
    refine lv_aload_n hx hb dX8_takeSpare_10 rfl (lv_at hl 0 rfl) ?_
    refine lv_iload_n hx hb dX8_takeSpare_11 rfl (lv_at hl 1 rfl) ?_
    refine lv_iconst (v := (-1)) hx hb dX8_takeSpare_12 (by decide) ?_
    obtain ⟨S5, hc4, hf⟩ := op_cl hf
    refine z_callV (As := [.int i_1, .int (-1 : Int32)]) (rest := []) ⟨hx, hb, hml, hown, hts⟩ (tX8_addSpare l Γ lo S X v_z hc4) (cwV 2 hts gX8_takeSpare_X8_addSpare rfl rfl rfl (by decide +kernel) ⟨Nat.le_of_ble_eq_true rfl, Nat.le_of_ble_eq_true rfl⟩) (wd_1 hW v_z) rfl hKK hW hS rfl hl.1 rfl (Nat.le_of_ble_eq_true rfl) dX8_takeSpare_13 ⟨Nat.zero_le _, Nat.zero_le _⟩ (fun H locs hW hS hm1 hE => ?_)
    have hm : ∀ c, zV S5 c = zV S c := hm1
    refine lv_iconst (v := (1)) hx hb dX8_takeSpare_16 (by decide) ?_
    have hf := Option.some.inj hf
    rw [← hf]
    exact z_iret hx hb hr hlocks (z_bb (Or.inr rfl)) hW hS hm (Or.inr rfl) dX8_takeSpare_17
  · have hf := (op_if hf).1 k5
    refine lv_iconst (v := (0)) hx hb dX8_takeSpare_8 (by decide) ?_
    have hf := Option.some.inj hf
    rw [← hf]
    exact z_iret hx hb hr hlocks (z_bb (Or.inl rfl)) hW hS hm (Or.inl rfl) dX8_takeSpare_9

theorem ni_X5_restart_X5 : ∀ w ∈ wsX50, w ∈ wsX5_restart := by decide +kernel
def fX5_restart (S : zSt) (a_z : Nat) (b_z : Nat) : Option zSt :=
st (pI S (6, a_z, b_z) 2 (0 : Int32)) fun S1 =>
st (pI S1 (6, a_z, b_z) 3 (0 : Int32)) fun S2 =>
some (S2)
abbrev rmX5_restart : Room := { frames := 0, cells := 0, slots := 0, locals := 0 }
set_option maxHeartbeats 4000000 in
set_option maxRecDepth 100000 in
theorem tX5_restart (l : Launch) (Γ : zG) (lo : zId → Nat) (S : zSt) (X : va_W) {a_z : Nat} {b_z : Nat} (v_z : zV S (6, a_z, b_z) = true) {y : zSt} (hf : fX5_restart S a_z b_z = some y) : Met l yX5_restart wsX5_restart rmX5_restart (zP0 Γ lo S X [.ref (lo (6, a_z, b_z))]) (zQ0 Γ lo S y X none True) 0 0 (zA Γ) := by
  refine Met.ofW (cc := cX5_restart) (maxL := 1) (ret := none) (by decide) rfl ?_
  intro p e s m args below meth c s₁ B hml hv
  obtain ⟨rfl, hW, hKK⟩ := hv
  have hx := B.exec
  have hb := B.bytes
  have hr := B.returns
  have hts := atoms_spec (ws := wsX5_restart) B.pre
  have hown : s.vm.findClass RX5 = some m.cls := findClass_of_methodNamed B.named
  have hlocks := B.notSynchronized
  have hS : va_S (zA Γ) s.heap s.heap [] := va_S.rf
  have hm : ∀ c, zV S c = zV S c := fun _ => rfl
  have hl := lv_entry ([.ref (lo (6, a_z, b_z))]) (n := 1) (Nat.le_of_ble_eq_true rfl)
  rw [lg_entry_eq]
  generalize (lg_sl ([.ref (lo (6, a_z, b_z))]) ++ List.replicate (1 - (lg_sl ([.ref (lo (6, a_z, b_z))])).length) Slot.unset).toArray = ls at hl ⊢
  have hl : lv_has ls 1 [(0, .ref (lo (6, a_z, b_z)))] := hl
  obtain ⟨H, hH0⟩ : ∃ H, H = s.heap := ⟨_, rfl⟩
  obtain ⟨locs, hlo0⟩ : ∃ L : List Loc, L = [] := ⟨_, rfl⟩
  have hS : va_S (zA Γ) s.heap H locs := by rw [hH0, hlo0]; exact hS
  have hW : Wd Γ lo S X H := by rw [hH0]; exact hW
  rw [← hH0, ← hlo0]
  unfold fX5_restart at hf
  refine lv_aload_n hx hb dX5_restart_0 rfl (lv_at hl 0 rfl) ?_
  refine lv_iconst (v := (0)) hx hb dX5_restart_1 (by decide) ?_
  obtain ⟨S1, eS1, hf⟩ := op_st hf
  refine g_put hx hb hts ni_X5_restart_X5 tyX5 tyX5_ok nmX5 hown hKK.1 hW hS v_z rfl rfl 2 (by decide) (hts (.fieldLink RX5 18 "TiltRoute$Play" "depth" "I") (List.mem_of_getElem? (i := 1) rfl)) rfl rfl rfl (show 2 < 4 by decide) rfl dX5_restart_2 eS1 (fun H locs hW hS => ?_)
  have hm : ∀ c, zV S1 c = zV S c := fun c => by rw [eS1]; rfl
  refine lv_aload_n hx hb dX5_restart_5 rfl (lv_at hl 0 rfl) ?_
  refine lv_iconst (v := (0)) hx hb dX5_restart_6 (by decide) ?_
  obtain ⟨S2, eS2, hf⟩ := op_st hf
  refine g_put hx hb hts ni_X5_restart_X5 tyX5 tyX5_ok nmX5 hown hKK.1 hW hS ((hm _).trans v_z) rfl rfl 3 (by decide) (hts (.fieldLink RX5 22 "TiltRoute$Play" "score" "I") (List.mem_of_getElem? (i := 2) rfl)) rfl rfl rfl (show 3 < 4 by decide) rfl dX5_restart_7 eS2 (fun H locs hW hS => ?_)
  have hm : ∀ c, zV S2 c = zV S c := fun c => by rw [eS2]; exact hm c
  have hf := Option.some.inj hf
  rw [← hf]
  exact z_vret hx hb hr hlocks hW hS hm trivial dX5_restart_10

theorem ni_X5_isStacked_X5 : ∀ w ∈ wsX50, w ∈ wsX5_isStacked := by decide +kernel
def fX5_isStacked (S : zSt) (a_z : Nat) (b_z : Nat) (i_1 : Int32) : Option Int32 :=
st (0 : Int32) fun x1 =>
lp (fun (q2 : (Int32)) => (st (fun (u_ : Unit) => (some (.inr ((0 : Int32))) : Option ((Int32) ⊕ Int32))) fun j8 =>
if (zI S (6, a_z, b_z) 2) ≤ q2 then
j8 ()
else
if (3 : Int32) ≤ q2 then
j8 ()
else
gd (¬ (q2 < 0 ∨ 3 ≤ q2.toNatClampNeg)) (
if (zI S (14, a_z, b_z) q2.toNatClampNeg) = i_1 then
some (.inr ((1 : Int32)))
else
st (q2 + (1 : Int32)) fun x11 =>
some (.inl (x11))) : Option ((Int32) ⊕ Int32))) 40000 (x1)
abbrev rmX5_isStacked : Room := { frames := 0, cells := 0, slots := 0, locals := 0 }
set_option maxHeartbeats 4000000 in
set_option maxRecDepth 100000 in
theorem tX5_isStacked (l : Launch) (Γ : zG) (lo : zId → Nat) (S : zSt) (X : va_W) {a_z : Nat} {b_z : Nat} {i_1 : Int32} (v_z : zV S (6, a_z, b_z) = true) {y : Int32} (hf : fX5_isStacked S a_z b_z i_1 = some y) : Met l yX5_isStacked wsX5_isStacked rmX5_isStacked (zP0 Γ lo S X [.ref (lo (6, a_z, b_z)), .int i_1]) (zQ0 Γ lo S S X (some (.int y)) (y = 0 ∨ y = 1)) 0 0 (zA Γ) := by
  refine Met.ofW (cc := cX5_isStacked) (maxL := 3) (ret := (some .boolean)) (by decide) rfl ?_
  intro p e s m args below meth c s₁ B hml hv
  obtain ⟨rfl, hW, hKK⟩ := hv
  have hx := B.exec
  have hb := B.bytes
  have hr := B.returns
  have hts := atoms_spec (ws := wsX5_isStacked) B.pre
  have hown : s.vm.findClass RX5 = some m.cls := findClass_of_methodNamed B.named
  have hlocks := B.notSynchronized
  have hS : va_S (zA Γ) s.heap s.heap [] := va_S.rf
  have hm : ∀ c, zV S c = zV S c := fun _ => rfl
  have hl := lv_entry ([.ref (lo (6, a_z, b_z)), .int i_1]) (n := 3) (Nat.le_of_ble_eq_true rfl)
  rw [lg_entry_eq]
  generalize (lg_sl ([.ref (lo (6, a_z, b_z)), .int i_1]) ++ List.replicate (3 - (lg_sl ([.ref (lo (6, a_z, b_z)), .int i_1])).length) Slot.unset).toArray = ls at hl ⊢
  have hl : lv_has ls 3 [(0, .ref (lo (6, a_z, b_z))), (1, .int i_1)] := hl
  obtain ⟨H, hH0⟩ : ∃ H, H = s.heap := ⟨_, rfl⟩
  obtain ⟨locs, hlo0⟩ : ∃ L : List Loc, L = [] := ⟨_, rfl⟩
  have hS : va_S (zA Γ) s.heap H locs := by rw [hH0, hlo0]; exact hS
  have hW : Wd Γ lo S X H := by rw [hH0]; exact hW
  rw [← hH0, ← hlo0]
  unfold fX5_isStacked at hf
  refine lv_iconst (v := (0)) hx hb dX5_isStacked_0 (by decide) ?_
  obtain ⟨x1, ex1, hf⟩ := op_st hf
  have bx1 : x1 = 0 ∨ x1 = 1 := Or.inl ex1
  refine z_istn (lv' := [(2, .int x1), (0, .ref (lo (6, a_z, b_z))), (1, .int i_1)]) ex1 hx hb dX5_isStacked_1 rfl hl (by decide) rfl (fun ls hl => ?_)
  obtain ⟨w4, q20, ew4, eq20, hf⟩ := op_lb hf
  have hw4 : ∀ n7 : Nat, ∀ (q2 : (Int32)) (H : Heap) (locs : List Loc) (ls : Array Slot), lv_has ls 3 [(2, .int q2), (0, .ref (lo (6, a_z, b_z))), (1, .int i_1)] → Wd Γ lo S X H → va_S (zA Γ) s.heap H locs → (∀ c, zV S c = zV S c) → lp w4 n7 q2 = some y → W p l e (headSpec wsX5_isStacked rmX5_isStacked).room s m ([.ref (lo (6, a_z, b_z)), .int i_1] : List Value).toArray below meth c H locs 0 0 (MQ below (zQ0 Γ lo S S X (some (.int y)) (y = 0 ∨ y = 1)) ([.ref (lo (6, a_z, b_z)), .int i_1] : List Value).toArray s 0 0 (zA Γ)) (F0 m 2 ls []) := by
    intro n7
    induction n7 with
    | zero => intro q2 H locs ls hl hW hS hm hf; cases hf
    | succ n7 ih5 =>
      intro q2 H locs ls hl hW hS hm hf
      obtain ⟨n_, r3, hn_, hf, hr6⟩ := op_lq hf
      cases hn_
      rw [ew4] at hf
      refine lv_iload_n hx hb dX5_isStacked_2 rfl (lv_at hl 0 rfl) ?_
      refine lv_aload_n hx hb dX5_isStacked_3 rfl (lv_at hl 1 rfl) ?_
      refine va_get hx hb hts ni_X5_isStacked_X5 hown hKK.1 (wd_1 hW v_z) 0 rfl rfl 2 (by decide) (hts (.fieldLink RX5 18 "TiltRoute$Play" "depth" "I") (List.mem_of_getElem? (i := 1) rfl)) (fun _ h => h) rfl dX5_isStacked_4 ?_
      obtain ⟨j8, ej8, hf⟩ := op_st hf
      have hj8 : ∀ (u_ : Unit) (H : Heap) (locs : List Loc) (ls : Array Slot), lv_has ls 3 [] → Wd Γ lo S X H → va_S (zA Γ) s.heap H locs → (∀ c, zV S c = zV S c) → j8 () = some r3 → W p l e (headSpec wsX5_isStacked rmX5_isStacked).room s m ([.ref (lo (6, a_z, b_z)), .int i_1] : List Value).toArray below meth c H locs 0 0 (MQ below (zQ0 Γ lo S S X (some (.int y)) (y = 0 ∨ y = 1)) ([.ref (lo (6, a_z, b_z)), .int i_1] : List Value).toArray s 0 0 (zA Γ)) (F0 m 37 ls []) := by
        intro u_ H locs ls  hl hW hS hm hf
        rw [ej8] at hf
        refine lv_iconst (v := (0)) hx hb dX5_isStacked_37 (by decide) ?_
        have hf := zr_r hf hr6
        rw [← hf]
        exact z_iret hx hb hr hlocks (z_bb (Or.inl rfl)) hW hS hm (Or.inl rfl) dX5_isStacked_38
      refine lv_icmp_ge (tgt := 37) hx hb dX5_isStacked_7 (by decide) (fun k7 => ?_) (fun k7 => ?_)
      · have hf := (op_if hf).1 k7
        exact hj8 () H locs ls  (lv_sub hl [] rfl) hW hS hm hf
      · have hf := (op_if hf).2 k7
        refine lv_iload_n hx hb dX5_isStacked_10 rfl (lv_at hl 0 rfl) ?_
        refine lv_aload_n hx hb dX5_isStacked_11 rfl (lv_at hl 1 rfl) ?_
        refine va_get hx hb hts ni_X5_isStacked_X5 hown hKK.1 (wd_1 hW v_z) 0 rfl rfl 0 (by decide) (hts (.fieldLink RX5 9 "TiltRoute$Play" "stacked" "[I") (List.mem_of_getElem? (i := 2) rfl)) (fun _ h => h) rfl dX5_isStacked_12 ?_
        have v9 : zV S (14, a_z, b_z) = true := vf_6_0 hW v_z
        refine va_alen (v := 3) hx hb hKK.1 (wd_1 hW v9) 0 0 rfl rfl (show Int32.ofNat 3 = 3 by decide) dX5_isStacked_15 ?_
        refine lv_icmp_ge (tgt := 37) hx hb dX5_isStacked_16 (by decide) (fun k16 => ?_) (fun k16 => ?_)
        · have hf := (op_if hf).1 k16
          exact hj8 () H locs ls  (lv_sub hl [] rfl) hW hS hm hf
        · have hf := (op_if hf).2 k16
          refine lv_aload_n hx hb dX5_isStacked_19 rfl (lv_at hl 1 rfl) ?_
          refine va_get hx hb hts ni_X5_isStacked_X5 hown hKK.1 (wd_1 hW v_z) 0 rfl rfl 0 (by decide) (hts (.fieldLink RX5 9 "TiltRoute$Play" "stacked" "[I") (List.mem_of_getElem? (i := 2) rfl)) (fun _ h => h) rfl dX5_isStacked_20 ?_
          have v10 : zV S (14, a_z, b_z) = true := vf_6_0 hW v_z
          refine lv_iload_n hx hb dX5_isStacked_23 rfl (lv_at hl 0 rfl) ?_
          obtain ⟨h24, hf⟩ := op_gd hf
          refine va_iald hx hb hKK.1 (wd_1 hW v10) 0 0 (n := 3) rfl rfl h24 dX5_isStacked_24 ?_
          refine lv_iload_n hx hb dX5_isStacked_25 rfl (lv_at hl 2 rfl) ?_
          refine lv_icmp_ne (tgt := 31) hx hb dX5_isStacked_26 (by decide) (fun k26 => ?_) (fun k26 => ?_)
          · have hf := (op_if hf).2 k26
            obtain ⟨x11, ex11, hf⟩ := op_st hf
            refine lv_iinc (v := x11) (lv' := [(2, .int x11), (0, .ref (lo (6, a_z, b_z))), (1, .int i_1)]) hx hb dX5_isStacked_31 hl (k := 0) rfl (by rw [ex11]; rfl) (by decide) rfl (fun ls hl => ?_)
            refine lv_goto (tgt := 2) hx hb dX5_isStacked_34 (by decide) ?_
            have hf := zr_l hf hr6
            exact ih5 (x11) H locs ls (lv_sub hl [0, 1, 2] rfl) hW hS hm hf
          · have hf := (op_if hf).1 k26
            refine lv_iconst (v := (1)) hx hb dX5_isStacked_29 (by decide) ?_
            have hf := zr_r hf hr6
            rw [← hf]
            exact z_iret hx hb hr hlocks (z_bb (Or.inr rfl)) hW hS hm (Or.inr rfl) dX5_isStacked_30
  rw [eq20] at hf
  exact hw4 _ (x1) H locs ls (lv_sub hl [0, 1, 2] rfl) hW hS hm hf

theorem ni_X5_beginMode_X3 : ∀ w ∈ wsX30, w ∈ wsX5_beginMode := by decide +kernel
theorem ni_X5_beginMode_X5 : ∀ w ∈ wsX50, w ∈ wsX5_beginMode := by decide +kernel
def fX5_beginMode (S : zSt) (a_z : Nat) (b_z : Nat) (a_1 : Nat) (b_1 : Nat) (i_2 : Int32) : Option zSt :=
if (zI S (6, a_z, b_z) 2) < 0 then
some (S)
else
if (3 : Int32) ≤ (zI S (6, a_z, b_z) 2) then
some (S)
else
if (zI S (6, a_z, b_z) 2) < (3 : Int32) then
st (0 : Int32) fun x3 =>
lp (fun (q4 : (Int32)) => (if (4 : Int32) ≤ q4 then
some (.inr (S))
else
cl (fX6_modeOf S a_1 b_1 q4) fun r10 =>
om r10 (
st (fun (u_ : Unit) => (st (q4 + (1 : Int32)) fun x16 =>
some (.inl (x16)) : Option ((Int32) ⊕ zSt))) fun j15 =>
j15 ()) fun n13 =>
st (fun (u_ : Unit) => (st (q4 + (1 : Int32)) fun x18 =>
some (.inl (x18)) : Option ((Int32) ⊕ zSt))) fun j17 =>
if (zI S (4, n13, 0) 0) = i_2 then
cl (fX5_isStacked S a_z b_z q4) fun r19 =>
if r19 = 0 then
gd (¬ ((zI S (6, a_z, b_z) 2) < 0 ∨ 3 ≤ (zI S (6, a_z, b_z) 2).toNatClampNeg)) (
st (pI S (14, a_z, b_z) (zI S (6, a_z, b_z) 2).toNatClampNeg q4) fun S23 =>
gd (¬ ((zI S23 (6, a_z, b_z) 2) < 0 ∨ 3 ≤ (zI S23 (6, a_z, b_z) 2).toNatClampNeg)) (
st (pI S23 (15, a_z, b_z) (zI S23 (6, a_z, b_z) 2).toNatClampNeg (0 : Int32)) fun S25 =>
st (pI S25 (6, a_z, b_z) 2 ((zI S25 (6, a_z, b_z) 2) + (1 : Int32))) fun S26 =>
some (.inr (S26))))
else
j17 ()
else
j17 () : Option ((Int32) ⊕ zSt))) 40000 (x3)
else
some (S)
abbrev rmX5_beginMode : Room := { frames := 1, cells := 0, slots := 0, locals := 22 }
set_option maxHeartbeats 4000000 in
set_option maxRecDepth 100000 in
theorem tX5_beginMode (l : Launch) (Γ : zG) (lo : zId → Nat) (S : zSt) (X : va_W) {a_z : Nat} {b_z : Nat} {a_1 : Nat} {b_1 : Nat} {i_2 : Int32} (v_z : zV S (6, a_z, b_z) = true) (v_1 : zV S (7, a_1, b_1) = true) {y : zSt} (hf : fX5_beginMode S a_z b_z a_1 b_1 i_2 = some y) : Met l yX5_beginMode wsX5_beginMode rmX5_beginMode (zP0 Γ lo S X [.ref (lo (6, a_z, b_z)), .ref (lo (7, a_1, b_1)), .int i_2]) (zQ0 Γ lo S y X none True) 0 0 (zA Γ) := by
  refine Met.ofW (cc := cX5_beginMode) (maxL := 5) (ret := none) (by decide) rfl ?_
  intro p e s m args below meth c s₁ B hml hv
  obtain ⟨rfl, hW, hKK⟩ := hv
  have hx := B.exec
  have hb := B.bytes
  have hr := B.returns
  have hts := atoms_spec (ws := wsX5_beginMode) B.pre
  have hown : s.vm.findClass RX5 = some m.cls := findClass_of_methodNamed B.named
  have hlocks := B.notSynchronized
  have hS : va_S (zA Γ) s.heap s.heap [] := va_S.rf
  have hm : ∀ c, zV S c = zV S c := fun _ => rfl
  have hl := lv_entry ([.ref (lo (6, a_z, b_z)), .ref (lo (7, a_1, b_1)), .int i_2]) (n := 5) (Nat.le_of_ble_eq_true rfl)
  rw [lg_entry_eq]
  generalize (lg_sl ([.ref (lo (6, a_z, b_z)), .ref (lo (7, a_1, b_1)), .int i_2]) ++ List.replicate (5 - (lg_sl ([.ref (lo (6, a_z, b_z)), .ref (lo (7, a_1, b_1)), .int i_2])).length) Slot.unset).toArray = ls at hl ⊢
  have hl : lv_has ls 5 [(0, .ref (lo (6, a_z, b_z))), (1, .ref (lo (7, a_1, b_1))), (2, .int i_2)] := hl
  obtain ⟨H, hH0⟩ : ∃ H, H = s.heap := ⟨_, rfl⟩
  obtain ⟨locs, hlo0⟩ : ∃ L : List Loc, L = [] := ⟨_, rfl⟩
  have hS : va_S (zA Γ) s.heap H locs := by rw [hH0, hlo0]; exact hS
  have hW : Wd Γ lo S X H := by rw [hH0]; exact hW
  rw [← hH0, ← hlo0]
  unfold fX5_beginMode at hf
  refine lv_aload_n hx hb dX5_beginMode_0 rfl (lv_at hl 0 rfl) ?_
  refine va_get hx hb hts ni_X5_beginMode_X5 hown hKK.1 (wd_1 hW v_z) 0 rfl rfl 2 (by decide) (hts (.fieldLink RX5 18 "TiltRoute$Play" "depth" "I") (List.mem_of_getElem? (i := 1) rfl)) (fun _ h => h) rfl dX5_beginMode_1 ?_
  refine lv_if_lt (tgt := 31) hx hb dX5_beginMode_4 (by decide) (fun k4 => ?_) (fun k4 => ?_)
  · have hf := (op_if hf).1 k4
    have hf := Option.some.inj hf
    rw [← hf]
    exact z_vret hx hb hr hlocks hW hS hm trivial dX5_beginMode_31
  · have hf := (op_if hf).2 k4
    refine lv_aload_n hx hb dX5_beginMode_7 rfl (lv_at hl 0 rfl) ?_
    refine va_get hx hb hts ni_X5_beginMode_X5 hown hKK.1 (wd_1 hW v_z) 0 rfl rfl 2 (by decide) (hts (.fieldLink RX5 18 "TiltRoute$Play" "depth" "I") (List.mem_of_getElem? (i := 1) rfl)) (fun _ h => h) rfl dX5_beginMode_8 ?_
    refine lv_aload_n hx hb dX5_beginMode_11 rfl (lv_at hl 0 rfl) ?_
    refine va_get hx hb hts ni_X5_beginMode_X5 hown hKK.1 (wd_1 hW v_z) 0 rfl rfl 0 (by decide) (hts (.fieldLink RX5 9 "TiltRoute$Play" "stacked" "[I") (List.mem_of_getElem? (i := 2) rfl)) (fun _ h => h) rfl dX5_beginMode_12 ?_
    have v1 : zV S (14, a_z, b_z) = true := vf_6_0 hW v_z
    refine va_alen (v := 3) hx hb hKK.1 (wd_1 hW v1) 0 0 rfl rfl (show Int32.ofNat 3 = 3 by decide) dX5_beginMode_15 ?_
    refine lv_icmp_ge (tgt := 31) hx hb dX5_beginMode_16 (by decide) (fun k16 => ?_) (fun k16 => ?_)
    · have hf := (op_if hf).1 k16
      have hf := Option.some.inj hf
      rw [← hf]
      exact z_vret hx hb hr hlocks hW hS hm trivial dX5_beginMode_31
    · have hf := (op_if hf).2 k16
      refine lv_aload_n hx hb dX5_beginMode_19 rfl (lv_at hl 0 rfl) ?_
      refine va_get hx hb hts ni_X5_beginMode_X5 hown hKK.1 (wd_1 hW v_z) 0 rfl rfl 2 (by decide) (hts (.fieldLink RX5 18 "TiltRoute$Play" "depth" "I") (List.mem_of_getElem? (i := 1) rfl)) (fun _ h => h) rfl dX5_beginMode_20 ?_
      refine lv_aload_n hx hb dX5_beginMode_23 rfl (lv_at hl 0 rfl) ?_
      refine va_get hx hb hts ni_X5_beginMode_X5 hown hKK.1 (wd_1 hW v_z) 0 rfl rfl 1 (by decide) (hts (.fieldLink RX5 15 "TiltRoute$Play" "hits" "[I") (List.mem_of_getElem? (i := 3) rfl)) (fun _ h => h) rfl dX5_beginMode_24 ?_
      have v2 : zV S (15, a_z, b_z) = true := vf_6_1 hW v_z
      refine va_alen (v := 3) hx hb hKK.1 (wd_1 hW v2) 0 0 rfl rfl (show Int32.ofNat 3 = 3 by decide) dX5_beginMode_27 ?_
      refine lv_icmp_lt (tgt := 32) hx hb dX5_beginMode_28 (by decide) (fun k28 => ?_) (fun k28 => ?_)
      · have hf := (op_if hf).1 k28
        refine lv_iconst (v := (0)) hx hb dX5_beginMode_32 (by decide) ?_
        obtain ⟨x3, ex3, hf⟩ := op_st hf
        have bx3 : x3 = 0 ∨ x3 = 1 := Or.inl ex3
        refine z_istn (lv' := [(3, .int x3), (0, .ref (lo (6, a_z, b_z))), (1, .ref (lo (7, a_1, b_1))), (2, .int i_2)]) ex3 hx hb dX5_beginMode_33 rfl hl (by decide) rfl (fun ls hl => ?_)
        obtain ⟨w6, q40, ew6, eq40, hf⟩ := op_lb hf
        have hw6 : ∀ n9 : Nat, ∀ (q4 : (Int32)) (H : Heap) (locs : List Loc) (ls : Array Slot), lv_has ls 5 [(3, .int q4), (0, .ref (lo (6, a_z, b_z))), (1, .ref (lo (7, a_1, b_1))), (2, .int i_2)] → Wd Γ lo S X H → va_S (zA Γ) s.heap H locs → (∀ c, zV S c = zV S c) → lp w6 n9 q4 = some y → W p l e (headSpec wsX5_beginMode rmX5_beginMode).room s m ([.ref (lo (6, a_z, b_z)), .ref (lo (7, a_1, b_1)), .int i_2] : List Value).toArray below meth c H locs 0 0 (MQ below (zQ0 Γ lo S y X none True) ([.ref (lo (6, a_z, b_z)), .ref (lo (7, a_1, b_1)), .int i_2] : List Value).toArray s 0 0 (zA Γ)) (F0 m 34 ls []) := by
          intro n9
          induction n9 with
          | zero => intro q4 H locs ls hl hW hS hm hf; cases hf
          | succ n9 ih7 =>
            intro q4 H locs ls hl hW hS hm hf
            obtain ⟨n_, r5, hn_, hf, hr8⟩ := op_lq hf
            cases hn_
            rw [ew6] at hf
            refine lv_iload_n hx hb dX5_beginMode_34 rfl (lv_at hl 0 rfl) ?_
            refine lv_iconst (v := (4)) hx hb dX5_beginMode_35 (by decide) ?_
            refine lv_icmp_ge (tgt := 105) hx hb dX5_beginMode_36 (by decide) (fun k36 => ?_) (fun k36 => ?_)
            · have hf := (op_if hf).1 k36
              have hf := zr_r hf hr8
              rw [← hf]
              exact z_vret hx hb hr hlocks hW hS hm trivial dX5_beginMode_105
            · have hf := (op_if hf).2 k36
              refine lv_aload_n hx hb dX5_beginMode_39 rfl (lv_at hl 2 rfl) ?_
              refine lv_iload_n hx hb dX5_beginMode_40 rfl (lv_at hl 0 rfl) ?_
              obtain ⟨r10, hc11, hf⟩ := op_cl hf
              refine z_callV (As := [.int q4]) (rest := []) ⟨hx, hb, hml, hown, hts⟩ (tX6_modeOf l Γ lo S X v_1 hc11) (cwV 1 hts gX5_beginMode_X6_modeOf rfl rfl rfl (by decide +kernel) ⟨Nat.le_of_ble_eq_true rfl, Nat.le_of_ble_eq_true rfl⟩) (wd_1 hW v_1) rfl hKK hW hS rfl hl.1 rfl (Nat.le_of_ble_eq_true rfl) dX5_beginMode_41 ⟨Nat.zero_le _, Nat.zero_le _⟩ (fun H locs hW hS hm1 hE => ?_)
              have v12 := hE
              rcases ho14 : r10 with _ | n13
              · rw [ho14] at hf
                have hf := op_omN hf
                refine lv_astoreN (lv' := [(4, .null), (3, .int q4), (0, .ref (lo (6, a_z, b_z))), (1, .ref (lo (7, a_1, b_1))), (2, .int i_2)]) hx hb dX5_beginMode_44 hl (by decide) rfl (fun ls hl => ?_)
                refine lv_aloadN hx hb dX5_beginMode_46 (lv_at hl 0 rfl) ?_
                obtain ⟨j15, ej15, hf⟩ := op_st hf
                have hj15 : ∀ (u_ : Unit) (H : Heap) (locs : List Loc) (ls : Array Slot), lv_has ls 5 [(3, .int q4), (0, .ref (lo (6, a_z, b_z))), (1, .ref (lo (7, a_1, b_1))), (2, .int i_2)] → Wd Γ lo S X H → va_S (zA Γ) s.heap H locs → (∀ c, zV S c = zV S c) → j15 () = some r5 → W p l e (headSpec wsX5_beginMode rmX5_beginMode).room s m ([.ref (lo (6, a_z, b_z)), .ref (lo (7, a_1, b_1)), .int i_2] : List Value).toArray below meth c H locs 0 0 (MQ below (zQ0 Γ lo S y X none True) ([.ref (lo (6, a_z, b_z)), .ref (lo (7, a_1, b_1)), .int i_2] : List Value).toArray s 0 0 (zA Γ)) (F0 m 99 ls []) := by
                  intro u_ H locs ls  hl hW hS hm hf
                  rw [ej15] at hf
                  obtain ⟨x16, ex16, hf⟩ := op_st hf
                  refine lv_iinc (v := x16) (lv' := [(3, .int x16), (0, .ref (lo (6, a_z, b_z))), (1, .ref (lo (7, a_1, b_1))), (2, .int i_2)]) hx hb dX5_beginMode_99 hl (k := 0) rfl (by rw [ex16]; rfl) (by decide) rfl (fun ls hl => ?_)
                  refine lv_goto (tgt := 34) hx hb dX5_beginMode_102 (by decide) ?_
                  have hf := zr_l hf hr8
                  exact ih7 (x16) H locs ls (lv_sub hl [0, 1, 2, 3] rfl) hW hS hm hf
                refine lv_ifnullN (tgt := 99) hx hb dX5_beginMode_48 (by decide) ?_
                exact hj15 () H locs ls  (lv_sub hl [1, 2, 3, 4] rfl) hW hS hm hf
              · rw [ho14] at hf
                have hf := op_omS hf
                refine lv_astore (lv' := [(4, .ref (lo (4, n13, 0))), (3, .int q4), (0, .ref (lo (6, a_z, b_z))), (1, .ref (lo (7, a_1, b_1))), (2, .int i_2)]) hx hb dX5_beginMode_44 hl (by decide) rfl (fun ls hl => ?_)
                refine lv_aload hx hb dX5_beginMode_46 (lv_at hl 0 rfl) ?_
                obtain ⟨j17, ej17, hf⟩ := op_st hf
                have hj17 : ∀ (u_ : Unit) (H : Heap) (locs : List Loc) (ls : Array Slot), lv_has ls 5 [(3, .int q4), (0, .ref (lo (6, a_z, b_z))), (1, .ref (lo (7, a_1, b_1))), (2, .int i_2)] → Wd Γ lo S X H → va_S (zA Γ) s.heap H locs → (∀ c, zV S c = zV S c) → j17 () = some r5 → W p l e (headSpec wsX5_beginMode rmX5_beginMode).room s m ([.ref (lo (6, a_z, b_z)), .ref (lo (7, a_1, b_1)), .int i_2] : List Value).toArray below meth c H locs 0 0 (MQ below (zQ0 Γ lo S y X none True) ([.ref (lo (6, a_z, b_z)), .ref (lo (7, a_1, b_1)), .int i_2] : List Value).toArray s 0 0 (zA Γ)) (F0 m 99 ls []) := by
                  intro u_ H locs ls  hl hW hS hm hf
                  rw [ej17] at hf
                  obtain ⟨x18, ex18, hf⟩ := op_st hf
                  refine lv_iinc (v := x18) (lv' := [(3, .int x18), (0, .ref (lo (6, a_z, b_z))), (1, .ref (lo (7, a_1, b_1))), (2, .int i_2)]) hx hb dX5_beginMode_99 hl (k := 0) rfl (by rw [ex18]; rfl) (by decide) rfl (fun ls hl => ?_)
                  refine lv_goto (tgt := 34) hx hb dX5_beginMode_102 (by decide) ?_
                  have hf := zr_l hf hr8
                  exact ih7 (x18) H locs ls (lv_sub hl [0, 1, 2, 3] rfl) hW hS hm hf
                refine lv_ifnull hx hb dX5_beginMode_48 ?_
                refine lv_aload hx hb dX5_beginMode_51 (lv_at hl 0 rfl) ?_
                refine va_get hx hb hts ni_X5_beginMode_X3 hown hKK.1 (wd_1 hW (v12 _ ho14)) 0 rfl rfl 0 (by decide) (hts (.fieldLink RX5 53 "TiltRoute$Mode" "begins" "I") (List.mem_of_getElem? (i := 4) rfl)) (fun _ h => h) rfl dX5_beginMode_53 ?_
                refine lv_iload_n hx hb dX5_beginMode_56 rfl (lv_at hl 4 rfl) ?_
                refine lv_icmp_ne (tgt := 99) hx hb dX5_beginMode_57 (by decide) (fun k57 => ?_) (fun k57 => ?_)
                · have hf := (op_if hf).2 k57
                  exact hj17 () H locs ls  (lv_sub hl [1, 2, 3, 4] rfl) hW hS hm hf
                · have hf := (op_if hf).1 k57
                  refine lv_aload_n hx hb dX5_beginMode_60 rfl (lv_at hl 2 rfl) ?_
                  refine lv_iload_n hx hb dX5_beginMode_61 rfl (lv_at hl 1 rfl) ?_
                  obtain ⟨r19, hc20, hf⟩ := op_cl hf
                  refine z_callV (As := [.int q4]) (rest := []) ⟨hx, hb, hml, hown, hts⟩ (tX5_isStacked l Γ lo S X v_z hc20) (cwV 1 hts gX5_beginMode_X5_isStacked rfl rfl rfl (by decide +kernel) ⟨Nat.le_of_ble_eq_true rfl, Nat.le_of_ble_eq_true rfl⟩) (wd_1 hW v_z) rfl hKK hW hS rfl hl.1 rfl (Nat.le_of_ble_eq_true rfl) dX5_beginMode_62 ⟨Nat.zero_le _, Nat.zero_le _⟩ (fun H locs hW hS hm1 hE => ?_)
                  have b21 := hE
                  refine lv_if_ne (tgt := 99) hx hb dX5_beginMode_65 (by decide) (fun k65 => ?_) (fun k65 => ?_)
                  · have hf := (op_if hf).2 k65
                    exact hj17 () H locs ls  (lv_sub hl [1, 2, 3, 4] rfl) hW hS hm hf
                  · have hf := (op_if hf).1 k65
                    refine lv_aload_n hx hb dX5_beginMode_68 rfl (lv_at hl 2 rfl) ?_
                    refine va_get hx hb hts ni_X5_beginMode_X5 hown hKK.1 (wd_1 hW v_z) 0 rfl rfl 0 (by decide) (hts (.fieldLink RX5 9 "TiltRoute$Play" "stacked" "[I") (List.mem_of_getElem? (i := 2) rfl)) (fun _ h => h) rfl dX5_beginMode_69 ?_
                    have v22 : zV S (14, a_z, b_z) = true := vf_6_0 hW v_z
                    refine lv_aload_n hx hb dX5_beginMode_72 rfl (lv_at hl 2 rfl) ?_
                    refine va_get hx hb hts ni_X5_beginMode_X5 hown hKK.1 (wd_1 hW v_z) 0 rfl rfl 2 (by decide) (hts (.fieldLink RX5 18 "TiltRoute$Play" "depth" "I") (List.mem_of_getElem? (i := 1) rfl)) (fun _ h => h) rfl dX5_beginMode_73 ?_
                    refine lv_iload_n hx hb dX5_beginMode_76 rfl (lv_at hl 1 rfl) ?_
                    obtain ⟨h77, hf⟩ := op_gd hf
                    obtain ⟨S23, eS23, hf⟩ := op_st hf
                    refine g_iast (n := 3) hx hb hKK.1 hW hS v22 (fun _ _ _ _ => rfl) h77 dX5_beginMode_77 eS23 (fun H locs hW hS => ?_)
                    have hm : ∀ c, zV S23 c = zV S c := fun c => by rw [eS23]; rfl
                    refine lv_aload_n hx hb dX5_beginMode_78 rfl (lv_at hl 2 rfl) ?_
                    refine va_get hx hb hts ni_X5_beginMode_X5 hown hKK.1 (wd_1 hW ((hm _).trans v_z)) 0 rfl rfl 1 (by decide) (hts (.fieldLink RX5 15 "TiltRoute$Play" "hits" "[I") (List.mem_of_getElem? (i := 3) rfl)) (fun _ h => h) rfl dX5_beginMode_79 ?_
                    have v24 : zV S (15, a_z, b_z) = true := (hm _).symm.trans (vf_6_1 hW ((hm _).trans v_z))
                    refine lv_aload_n hx hb dX5_beginMode_82 rfl (lv_at hl 2 rfl) ?_
                    refine va_get hx hb hts ni_X5_beginMode_X5 hown hKK.1 (wd_1 hW ((hm _).trans v_z)) 0 rfl rfl 2 (by decide) (hts (.fieldLink RX5 18 "TiltRoute$Play" "depth" "I") (List.mem_of_getElem? (i := 1) rfl)) (fun _ h => h) rfl dX5_beginMode_83 ?_
                    refine lv_iconst (v := (0)) hx hb dX5_beginMode_86 (by decide) ?_
                    obtain ⟨h87, hf⟩ := op_gd hf
                    obtain ⟨S25, eS25, hf⟩ := op_st hf
                    refine g_iast (n := 3) hx hb hKK.1 hW hS ((hm _).trans v24) (fun _ _ _ _ => rfl) h87 dX5_beginMode_87 eS25 (fun H locs hW hS => ?_)
                    have hm : ∀ c, zV S25 c = zV S c := fun c => by rw [eS25]; exact hm c
                    refine lv_aload_n hx hb dX5_beginMode_88 rfl (lv_at hl 2 rfl) ?_
                    refine lv_dup hx hb dX5_beginMode_89 rfl ?_
                    refine va_get hx hb hts ni_X5_beginMode_X5 hown hKK.1 (wd_1 hW ((hm _).trans v_z)) 0 rfl rfl 2 (by decide) (hts (.fieldLink RX5 18 "TiltRoute$Play" "depth" "I") (List.mem_of_getElem? (i := 1) rfl)) (fun _ h => h) rfl dX5_beginMode_90 ?_
                    refine lv_iconst (v := (1)) hx hb dX5_beginMode_93 (by decide) ?_
                    refine lv_iadd hx hb dX5_beginMode_94 ?_
                    obtain ⟨S26, eS26, hf⟩ := op_st hf
                    refine g_put hx hb hts ni_X5_beginMode_X5 tyX5 tyX5_ok nmX5 hown hKK.1 hW hS ((hm _).trans v_z) rfl rfl 2 (by decide) (hts (.fieldLink RX5 18 "TiltRoute$Play" "depth" "I") (List.mem_of_getElem? (i := 1) rfl)) rfl rfl rfl (show 2 < 4 by decide) rfl dX5_beginMode_95 eS26 (fun H locs hW hS => ?_)
                    have hm : ∀ c, zV S26 c = zV S c := fun c => by rw [eS26]; exact hm c
                    have hf := zr_r hf hr8
                    rw [← hf]
                    exact z_vret hx hb hr hlocks hW hS hm trivial dX5_beginMode_98
        rw [eq40] at hf
        exact hw6 _ (x3) H locs ls (lv_sub hl [0, 1, 2, 3] rfl) hW hS hm hf
      · have hf := (op_if hf).2 k28
        have hf := Option.some.inj hf
        rw [← hf]
        exact z_vret hx hb hr hlocks hW hS hm trivial dX5_beginMode_31

theorem ni_X5_takeSwitch_X3 : ∀ w ∈ wsX30, w ∈ wsX5_takeSwitch := by decide +kernel
theorem ni_X5_takeSwitch_X5 : ∀ w ∈ wsX50, w ∈ wsX5_takeSwitch := by decide +kernel
def fX5_takeSwitch (S : zSt) (a_z : Nat) (b_z : Nat) (a_1 : Nat) (b_1 : Nat) (i_2 : Int32) : Option zSt :=
st ((zI S (6, a_z, b_z) 2) - (1 : Int32)) fun x1 =>
st (fun (y2 : Option Nat) => (om y2 (
cl (fX6_pointsOf S a_1 b_1 i_2) fun r7 =>
st (fun (y9 : Int32) => (st (pI S (6, a_z, b_z) 3 ((zI S (6, a_z, b_z) 3) + (r7 * y9))) fun S11 =>
st (fun (S12 : zSt) => (cl (fX5_beginMode S12 a_z b_z a_1 b_1 i_2) fun S16 =>
some (S16) : Option zSt)) fun j13 =>
j13 S11 : Option zSt)) fun j10 =>
j10 (1 : Int32)) fun n5 =>
cl (fX6_pointsOf S a_1 b_1 i_2) fun r17 =>
st (fun (y19 : Int32) => (st (pI S (6, a_z, b_z) 3 ((zI S (6, a_z, b_z) 3) + (r17 * y19))) fun S21 =>
st (fun (S22 : zSt) => (cl (fX5_beginMode S22 a_z b_z a_1 b_1 i_2) fun S26 =>
some (S26) : Option zSt)) fun j23 =>
if (3 : Int32) ≤ x1 then
j23 S21
else
gd (¬ (x1 < 0 ∨ 3 ≤ x1.toNatClampNeg)) (
gd (¬ (x1 < 0 ∨ 3 ≤ x1.toNatClampNeg)) (
st (pI S21 (15, a_z, b_z) x1.toNatClampNeg ((zI S21 (15, a_z, b_z) x1.toNatClampNeg) + (1 : Int32))) fun S29 =>
st (fun (u_ : Unit) => (st (pI S29 (6, a_z, b_z) 2 x1) fun S31 =>
st (pI S31 (6, a_z, b_z) 3 ((zI S31 (6, a_z, b_z) 3) + (zI S31 (4, n5, 0) 4))) fun S32 =>
some (S32) : Option zSt)) fun j30 =>
if i_2 = (zI S29 (4, n5, 0) 1) then
j30 ()
else
gd (¬ (x1 < 0 ∨ 3 ≤ x1.toNatClampNeg)) (
if (zI S29 (15, a_z, b_z) x1.toNatClampNeg) = (zI S29 (4, n5, 0) 2) then
j30 ()
else
j23 S29))) : Option zSt)) fun j20 =>
j20 (zI S (4, n5, 0) 3) : Option zSt)) fun j4 =>
st (fun (u_ : Unit) => (j4 none : Option zSt)) fun j34 =>
if x1 < 0 then
j34 ()
else
if (3 : Int32) ≤ x1 then
j34 ()
else
gd (¬ (x1 < 0 ∨ 3 ≤ x1.toNatClampNeg)) (
cl (fX6_modeOf S a_1 b_1 (zI S (14, a_z, b_z) x1.toNatClampNeg)) fun r37 =>
j4 r37)
abbrev rmX5_takeSwitch : Room := { frames := 2, cells := 0, slots := 0, locals := 46 }
set_option maxHeartbeats 4000000 in
set_option maxRecDepth 100000 in
theorem tX5_takeSwitch (l : Launch) (Γ : zG) (lo : zId → Nat) (S : zSt) (X : va_W) {a_z : Nat} {b_z : Nat} {a_1 : Nat} {b_1 : Nat} {i_2 : Int32} (v_z : zV S (6, a_z, b_z) = true) (v_1 : zV S (7, a_1, b_1) = true) {y : zSt} (hf : fX5_takeSwitch S a_z b_z a_1 b_1 i_2 = some y) : Met l yX5_takeSwitch wsX5_takeSwitch rmX5_takeSwitch (zP0 Γ lo S X [.ref (lo (6, a_z, b_z)), .ref (lo (7, a_1, b_1)), .int i_2]) (zQ0 Γ lo S y X none True) 0 0 (zA Γ) := by
  refine Met.ofW (cc := cX5_takeSwitch) (maxL := 5) (ret := none) (by decide) rfl ?_
  intro p e s m args below meth c s₁ B hml hv
  obtain ⟨rfl, hW, hKK⟩ := hv
  have hx := B.exec
  have hb := B.bytes
  have hr := B.returns
  have hts := atoms_spec (ws := wsX5_takeSwitch) B.pre
  have hown : s.vm.findClass RX5 = some m.cls := findClass_of_methodNamed B.named
  have hlocks := B.notSynchronized
  have hS : va_S (zA Γ) s.heap s.heap [] := va_S.rf
  have hm : ∀ c, zV S c = zV S c := fun _ => rfl
  have hl := lv_entry ([.ref (lo (6, a_z, b_z)), .ref (lo (7, a_1, b_1)), .int i_2]) (n := 5) (Nat.le_of_ble_eq_true rfl)
  rw [lg_entry_eq]
  generalize (lg_sl ([.ref (lo (6, a_z, b_z)), .ref (lo (7, a_1, b_1)), .int i_2]) ++ List.replicate (5 - (lg_sl ([.ref (lo (6, a_z, b_z)), .ref (lo (7, a_1, b_1)), .int i_2])).length) Slot.unset).toArray = ls at hl ⊢
  have hl : lv_has ls 5 [(0, .ref (lo (6, a_z, b_z))), (1, .ref (lo (7, a_1, b_1))), (2, .int i_2)] := hl
  obtain ⟨H, hH0⟩ : ∃ H, H = s.heap := ⟨_, rfl⟩
  obtain ⟨locs, hlo0⟩ : ∃ L : List Loc, L = [] := ⟨_, rfl⟩
  have hS : va_S (zA Γ) s.heap H locs := by rw [hH0, hlo0]; exact hS
  have hW : Wd Γ lo S X H := by rw [hH0]; exact hW
  rw [← hH0, ← hlo0]
  unfold fX5_takeSwitch at hf
  refine lv_aload_n hx hb dX5_takeSwitch_0 rfl (lv_at hl 0 rfl) ?_
  refine va_get hx hb hts ni_X5_takeSwitch_X5 hown hKK.1 (wd_1 hW v_z) 0 rfl rfl 2 (by decide) (hts (.fieldLink RX5 18 "TiltRoute$Play" "depth" "I") (List.mem_of_getElem? (i := 1) rfl)) (fun _ h => h) rfl dX5_takeSwitch_1 ?_
  refine lv_iconst (v := (1)) hx hb dX5_takeSwitch_4 (by decide) ?_
  refine lv_isub hx hb dX5_takeSwitch_5 ?_
  obtain ⟨x1, ex1, hf⟩ := op_st hf
  refine z_istn (lv' := [(3, .int x1), (0, .ref (lo (6, a_z, b_z))), (1, .ref (lo (7, a_1, b_1))), (2, .int i_2)]) ex1 hx hb dX5_takeSwitch_6 rfl hl (by decide) rfl (fun ls hl => ?_)
  refine lv_iload_n hx hb dX5_takeSwitch_7 rfl (lv_at hl 0 rfl) ?_
  obtain ⟨j4, ej4, hf⟩ := op_st hf
  have hj4 : ∀ (y2 : Option Nat) (H : Heap) (locs : List Loc) (ls : Array Slot) (v3 : ∀ n, y2 = some n → zV S (4, n, 0) = true), lv_has ls 5 [(3, .int x1), (0, .ref (lo (6, a_z, b_z))), (1, .ref (lo (7, a_1, b_1))), (2, .int i_2)] → Wd Γ lo S X H → va_S (zA Γ) s.heap H locs → (∀ c, zV S c = zV S c) → j4 y2 = some y → W p l e (headSpec wsX5_takeSwitch rmX5_takeSwitch).room s m ([.ref (lo (6, a_z, b_z)), .ref (lo (7, a_1, b_1)), .int i_2] : List Value).toArray below meth c H locs 0 0 (MQ below (zQ0 Γ lo S y X none True) ([.ref (lo (6, a_z, b_z)), .ref (lo (7, a_1, b_1)), .int i_2] : List Value).toArray s 0 0 (zA Γ)) (F0 m 34 ls [va_rf (y2.map (fun n => lo (4, n, 0)))]) := by
    intro y2 H locs ls v3 hl hW hS hm hf
    rw [ej4] at hf
    rcases ho6 : y2 with _ | n5
    · rw [ho6] at hf
      have hf := op_omN hf
      refine lv_astoreN (lv' := [(4, .null), (3, .int x1), (0, .ref (lo (6, a_z, b_z))), (1, .ref (lo (7, a_1, b_1))), (2, .int i_2)]) hx hb dX5_takeSwitch_34 hl (by decide) rfl (fun ls hl => ?_)
      refine lv_aload_n hx hb dX5_takeSwitch_36 rfl (lv_at hl 2 rfl) ?_
      refine lv_dup hx hb dX5_takeSwitch_37 rfl ?_
      refine va_get hx hb hts ni_X5_takeSwitch_X5 hown hKK.1 (wd_1 hW v_z) 0 rfl rfl 3 (by decide) (hts (.fieldLink RX5 22 "TiltRoute$Play" "score" "I") (List.mem_of_getElem? (i := 3) rfl)) (fun _ h => h) rfl dX5_takeSwitch_38 ?_
      refine lv_aload_n hx hb dX5_takeSwitch_41 rfl (lv_at hl 3 rfl) ?_
      refine lv_iload_n hx hb dX5_takeSwitch_42 rfl (lv_at hl 4 rfl) ?_
      obtain ⟨r7, hc8, hf⟩ := op_cl hf
      refine z_callV (As := [.int i_2]) (rest := [.int (zI S (6, a_z, b_z) 3), .ref (lo (6, a_z, b_z))]) ⟨hx, hb, hml, hown, hts⟩ (tX6_pointsOf l Γ lo S X v_1 hc8) (cwV 1 hts gX5_takeSwitch_X6_pointsOf rfl rfl rfl (by decide +kernel) ⟨Nat.le_of_ble_eq_true rfl, Nat.le_of_ble_eq_true rfl⟩) (wd_1 hW v_1) rfl hKK hW hS rfl hl.1 rfl (Nat.le_of_ble_eq_true rfl) dX5_takeSwitch_43 ⟨Nat.zero_le _, Nat.zero_le _⟩ (fun H locs hW hS hm1 hE => ?_)
      refine lv_aloadN hx hb dX5_takeSwitch_46 (lv_at hl 0 rfl) ?_
      obtain ⟨j10, ej10, hf⟩ := op_st hf
      have hj10 : ∀ (y9 : Int32) (H : Heap) (locs : List Loc) (ls : Array Slot), lv_has ls 5 [(4, .null), (3, .int x1), (0, .ref (lo (6, a_z, b_z))), (1, .ref (lo (7, a_1, b_1))), (2, .int i_2)] → Wd Γ lo S X H → va_S (zA Γ) s.heap H locs → (∀ c, zV S c = zV S c) → j10 y9 = some y → W p l e (headSpec wsX5_takeSwitch rmX5_takeSwitch).room s m ([.ref (lo (6, a_z, b_z)), .ref (lo (7, a_1, b_1)), .int i_2] : List Value).toArray below meth c H locs 0 0 (MQ below (zQ0 Γ lo S y X none True) ([.ref (lo (6, a_z, b_z)), .ref (lo (7, a_1, b_1)), .int i_2] : List Value).toArray s 0 0 (zA Γ)) (F0 m 60 ls [.int y9, .int r7, .int (zI S (6, a_z, b_z) 3), .ref (lo (6, a_z, b_z))]) := by
        intro y9 H locs ls  hl hW hS hm hf
        rw [ej10] at hf
        refine lv_imul hx hb dX5_takeSwitch_60 ?_
        refine lv_iadd hx hb dX5_takeSwitch_61 ?_
        obtain ⟨S11, eS11, hf⟩ := op_st hf
        refine g_put hx hb hts ni_X5_takeSwitch_X5 tyX5 tyX5_ok nmX5 hown hKK.1 hW hS v_z rfl rfl 3 (by decide) (hts (.fieldLink RX5 22 "TiltRoute$Play" "score" "I") (List.mem_of_getElem? (i := 3) rfl)) rfl rfl rfl (show 3 < 4 by decide) rfl dX5_takeSwitch_62 eS11 (fun H locs hW hS => ?_)
        have hm : ∀ c, zV S11 c = zV S c := fun c => by rw [eS11]; rfl
        refine lv_aloadN hx hb dX5_takeSwitch_65 (lv_at hl 0 rfl) ?_
        obtain ⟨j13, ej13, hf⟩ := op_st hf
        have hj13 : ∀ (S12 : zSt) (H : Heap) (locs : List Loc) (ls : Array Slot), lv_has ls 5 [(0, .ref (lo (6, a_z, b_z))), (1, .ref (lo (7, a_1, b_1))), (2, .int i_2)] → Wd Γ lo S12 X H → va_S (zA Γ) s.heap H locs → (∀ c, zV S12 c = zV S c) → j13 S12 = some y → W p l e (headSpec wsX5_takeSwitch rmX5_takeSwitch).room s m ([.ref (lo (6, a_z, b_z)), .ref (lo (7, a_1, b_1)), .int i_2] : List Value).toArray below meth c H locs 0 0 (MQ below (zQ0 Γ lo S y X none True) ([.ref (lo (6, a_z, b_z)), .ref (lo (7, a_1, b_1)), .int i_2] : List Value).toArray s 0 0 (zA Γ)) (F0 m 132 ls []) := by
          intro S12 H locs ls  hl hW hS hm hf
          rw [ej13] at hf
          refine lv_aload_n hx hb dX5_takeSwitch_132 rfl (lv_at hl 0 rfl) ?_
          refine lv_aload_n hx hb dX5_takeSwitch_133 rfl (lv_at hl 1 rfl) ?_
          refine lv_iload_n hx hb dX5_takeSwitch_134 rfl (lv_at hl 2 rfl) ?_
          obtain ⟨S16, hc15, hf⟩ := op_cl hf
          refine z_callV (As := [.ref (lo (7, a_1, b_1)), .int i_2]) (rest := []) ⟨hx, hb, hml, hown, hts⟩ (tX5_beginMode l Γ lo S12 X ((hm _).trans v_z) ((hm _).trans v_1) hc15) (cwV 2 hts gX5_takeSwitch_X5_beginMode rfl rfl rfl (by decide +kernel) ⟨Nat.le_of_ble_eq_true rfl, Nat.le_of_ble_eq_true rfl⟩) (wd_1 hW ((hm _).trans v_z)) rfl hKK hW hS rfl hl.1 rfl (Nat.le_of_ble_eq_true rfl) dX5_takeSwitch_135 ⟨Nat.zero_le _, Nat.zero_le _⟩ (fun H locs hW hS hm1 hE => ?_)
          have hm : ∀ c, zV S16 c = zV S c := fun c => (hm1 c).trans (hm c)
          have hf := Option.some.inj hf
          rw [← hf]
          exact z_vret hx hb hr hlocks hW hS hm trivial dX5_takeSwitch_138
        refine lv_ifnullN (tgt := 132) hx hb dX5_takeSwitch_67 (by decide) ?_
        exact hj13 S11 H locs ls  (lv_sub hl [2, 3, 4] rfl) hW hS hm hf
      refine lv_ifnonnullN hx hb dX5_takeSwitch_48 ?_
      refine lv_iconst (v := (1)) hx hb dX5_takeSwitch_51 (by decide) ?_
      refine lv_goto (tgt := 60) hx hb dX5_takeSwitch_52 (by decide) ?_
      exact hj10 (1 : Int32) H locs ls  (lv_sub hl [0, 1, 2, 3, 4] rfl) hW hS hm hf
    · rw [ho6] at hf
      have hf := op_omS hf
      refine lv_astore (lv' := [(4, .ref (lo (4, n5, 0))), (3, .int x1), (0, .ref (lo (6, a_z, b_z))), (1, .ref (lo (7, a_1, b_1))), (2, .int i_2)]) hx hb dX5_takeSwitch_34 hl (by decide) rfl (fun ls hl => ?_)
      refine lv_aload_n hx hb dX5_takeSwitch_36 rfl (lv_at hl 2 rfl) ?_
      refine lv_dup hx hb dX5_takeSwitch_37 rfl ?_
      refine va_get hx hb hts ni_X5_takeSwitch_X5 hown hKK.1 (wd_1 hW v_z) 0 rfl rfl 3 (by decide) (hts (.fieldLink RX5 22 "TiltRoute$Play" "score" "I") (List.mem_of_getElem? (i := 3) rfl)) (fun _ h => h) rfl dX5_takeSwitch_38 ?_
      refine lv_aload_n hx hb dX5_takeSwitch_41 rfl (lv_at hl 3 rfl) ?_
      refine lv_iload_n hx hb dX5_takeSwitch_42 rfl (lv_at hl 4 rfl) ?_
      obtain ⟨r17, hc18, hf⟩ := op_cl hf
      refine z_callV (As := [.int i_2]) (rest := [.int (zI S (6, a_z, b_z) 3), .ref (lo (6, a_z, b_z))]) ⟨hx, hb, hml, hown, hts⟩ (tX6_pointsOf l Γ lo S X v_1 hc18) (cwV 1 hts gX5_takeSwitch_X6_pointsOf rfl rfl rfl (by decide +kernel) ⟨Nat.le_of_ble_eq_true rfl, Nat.le_of_ble_eq_true rfl⟩) (wd_1 hW v_1) rfl hKK hW hS rfl hl.1 rfl (Nat.le_of_ble_eq_true rfl) dX5_takeSwitch_43 ⟨Nat.zero_le _, Nat.zero_le _⟩ (fun H locs hW hS hm1 hE => ?_)
      refine lv_aload hx hb dX5_takeSwitch_46 (lv_at hl 0 rfl) ?_
      obtain ⟨j20, ej20, hf⟩ := op_st hf
      have hj20 : ∀ (y19 : Int32) (H : Heap) (locs : List Loc) (ls : Array Slot), lv_has ls 5 [(4, .ref (lo (4, n5, 0))), (3, .int x1), (0, .ref (lo (6, a_z, b_z))), (1, .ref (lo (7, a_1, b_1))), (2, .int i_2)] → Wd Γ lo S X H → va_S (zA Γ) s.heap H locs → (∀ c, zV S c = zV S c) → j20 y19 = some y → W p l e (headSpec wsX5_takeSwitch rmX5_takeSwitch).room s m ([.ref (lo (6, a_z, b_z)), .ref (lo (7, a_1, b_1)), .int i_2] : List Value).toArray below meth c H locs 0 0 (MQ below (zQ0 Γ lo S y X none True) ([.ref (lo (6, a_z, b_z)), .ref (lo (7, a_1, b_1)), .int i_2] : List Value).toArray s 0 0 (zA Γ)) (F0 m 60 ls [.int y19, .int r17, .int (zI S (6, a_z, b_z) 3), .ref (lo (6, a_z, b_z))]) := by
        intro y19 H locs ls  hl hW hS hm hf
        rw [ej20] at hf
        refine lv_imul hx hb dX5_takeSwitch_60 ?_
        refine lv_iadd hx hb dX5_takeSwitch_61 ?_
        obtain ⟨S21, eS21, hf⟩ := op_st hf
        refine g_put hx hb hts ni_X5_takeSwitch_X5 tyX5 tyX5_ok nmX5 hown hKK.1 hW hS v_z rfl rfl 3 (by decide) (hts (.fieldLink RX5 22 "TiltRoute$Play" "score" "I") (List.mem_of_getElem? (i := 3) rfl)) rfl rfl rfl (show 3 < 4 by decide) rfl dX5_takeSwitch_62 eS21 (fun H locs hW hS => ?_)
        have hm : ∀ c, zV S21 c = zV S c := fun c => by rw [eS21]; rfl
        refine lv_aload hx hb dX5_takeSwitch_65 (lv_at hl 0 rfl) ?_
        obtain ⟨j23, ej23, hf⟩ := op_st hf
        have hj23 : ∀ (S22 : zSt) (H : Heap) (locs : List Loc) (ls : Array Slot), lv_has ls 5 [(0, .ref (lo (6, a_z, b_z))), (1, .ref (lo (7, a_1, b_1))), (2, .int i_2)] → Wd Γ lo S22 X H → va_S (zA Γ) s.heap H locs → (∀ c, zV S22 c = zV S c) → j23 S22 = some y → W p l e (headSpec wsX5_takeSwitch rmX5_takeSwitch).room s m ([.ref (lo (6, a_z, b_z)), .ref (lo (7, a_1, b_1)), .int i_2] : List Value).toArray below meth c H locs 0 0 (MQ below (zQ0 Γ lo S y X none True) ([.ref (lo (6, a_z, b_z)), .ref (lo (7, a_1, b_1)), .int i_2] : List Value).toArray s 0 0 (zA Γ)) (F0 m 132 ls []) := by
          intro S22 H locs ls  hl hW hS hm hf
          rw [ej23] at hf
          refine lv_aload_n hx hb dX5_takeSwitch_132 rfl (lv_at hl 0 rfl) ?_
          refine lv_aload_n hx hb dX5_takeSwitch_133 rfl (lv_at hl 1 rfl) ?_
          refine lv_iload_n hx hb dX5_takeSwitch_134 rfl (lv_at hl 2 rfl) ?_
          obtain ⟨S26, hc25, hf⟩ := op_cl hf
          refine z_callV (As := [.ref (lo (7, a_1, b_1)), .int i_2]) (rest := []) ⟨hx, hb, hml, hown, hts⟩ (tX5_beginMode l Γ lo S22 X ((hm _).trans v_z) ((hm _).trans v_1) hc25) (cwV 2 hts gX5_takeSwitch_X5_beginMode rfl rfl rfl (by decide +kernel) ⟨Nat.le_of_ble_eq_true rfl, Nat.le_of_ble_eq_true rfl⟩) (wd_1 hW ((hm _).trans v_z)) rfl hKK hW hS rfl hl.1 rfl (Nat.le_of_ble_eq_true rfl) dX5_takeSwitch_135 ⟨Nat.zero_le _, Nat.zero_le _⟩ (fun H locs hW hS hm1 hE => ?_)
          have hm : ∀ c, zV S26 c = zV S c := fun c => (hm1 c).trans (hm c)
          have hf := Option.some.inj hf
          rw [← hf]
          exact z_vret hx hb hr hlocks hW hS hm trivial dX5_takeSwitch_138
        refine lv_ifnull hx hb dX5_takeSwitch_67 ?_
        refine lv_iload_n hx hb dX5_takeSwitch_70 rfl (lv_at hl 1 rfl) ?_
        refine lv_aload_n hx hb dX5_takeSwitch_71 rfl (lv_at hl 2 rfl) ?_
        refine va_get hx hb hts ni_X5_takeSwitch_X5 hown hKK.1 (wd_1 hW ((hm _).trans v_z)) 0 rfl rfl 1 (by decide) (hts (.fieldLink RX5 15 "TiltRoute$Play" "hits" "[I") (List.mem_of_getElem? (i := 5) rfl)) (fun _ h => h) rfl dX5_takeSwitch_72 ?_
        have v27 : zV S (15, a_z, b_z) = true := (hm _).symm.trans (vf_6_1 hW ((hm _).trans v_z))
        refine va_alen (v := 3) hx hb hKK.1 (wd_1 hW ((hm _).trans v27)) 0 0 rfl rfl (show Int32.ofNat 3 = 3 by decide) dX5_takeSwitch_75 ?_
        refine lv_icmp_ge (tgt := 132) hx hb dX5_takeSwitch_76 (by decide) (fun k76 => ?_) (fun k76 => ?_)
        · have hf := (op_if hf).1 k76
          exact hj23 S21 H locs ls  (lv_sub hl [2, 3, 4] rfl) hW hS hm hf
        · have hf := (op_if hf).2 k76
          refine lv_aload_n hx hb dX5_takeSwitch_79 rfl (lv_at hl 2 rfl) ?_
          refine va_get hx hb hts ni_X5_takeSwitch_X5 hown hKK.1 (wd_1 hW ((hm _).trans v_z)) 0 rfl rfl 1 (by decide) (hts (.fieldLink RX5 15 "TiltRoute$Play" "hits" "[I") (List.mem_of_getElem? (i := 5) rfl)) (fun _ h => h) rfl dX5_takeSwitch_80 ?_
          have v28 : zV S (15, a_z, b_z) = true := (hm _).symm.trans (vf_6_1 hW ((hm _).trans v_z))
          refine lv_iload_n hx hb dX5_takeSwitch_83 rfl (lv_at hl 1 rfl) ?_
          refine lv_dup2_11 hx hb dX5_takeSwitch_84 rfl rfl ?_
          obtain ⟨h85, hf⟩ := op_gd hf
          refine va_iald hx hb hKK.1 (wd_1 hW ((hm _).trans v28)) 0 0 (n := 3) rfl rfl h85 dX5_takeSwitch_85 ?_
          refine lv_iconst (v := (1)) hx hb dX5_takeSwitch_86 (by decide) ?_
          refine lv_iadd hx hb dX5_takeSwitch_87 ?_
          obtain ⟨h88, hf⟩ := op_gd hf
          obtain ⟨S29, eS29, hf⟩ := op_st hf
          refine g_iast (n := 3) hx hb hKK.1 hW hS ((hm _).trans v28) (fun _ _ _ _ => rfl) h88 dX5_takeSwitch_88 eS29 (fun H locs hW hS => ?_)
          have hm : ∀ c, zV S29 c = zV S c := fun c => by rw [eS29]; exact hm c
          refine lv_iload_n hx hb dX5_takeSwitch_89 rfl (lv_at hl 4 rfl) ?_
          refine lv_aload hx hb dX5_takeSwitch_90 (lv_at hl 0 rfl) ?_
          refine va_get hx hb hts ni_X5_takeSwitch_X3 hown hKK.1 (wd_1 hW ((hm _).trans (v3 _ ho6))) 0 rfl rfl 1 (by decide) (hts (.fieldLink RX5 40 "TiltRoute$Mode" "ends" "I") (List.mem_of_getElem? (i := 6) rfl)) (fun _ h => h) rfl dX5_takeSwitch_92 ?_
          obtain ⟨j30, ej30, hf⟩ := op_st hf
          have hj30 : ∀ (u_ : Unit) (H : Heap) (locs : List Loc) (ls : Array Slot), lv_has ls 5 [(4, .ref (lo (4, n5, 0))), (3, .int x1), (0, .ref (lo (6, a_z, b_z)))] → Wd Γ lo S29 X H → va_S (zA Γ) s.heap H locs → (∀ c, zV S29 c = zV S c) → j30 () = some y → W p l e (headSpec wsX5_takeSwitch rmX5_takeSwitch).room s m ([.ref (lo (6, a_z, b_z)), .ref (lo (7, a_1, b_1)), .int i_2] : List Value).toArray below meth c H locs 0 0 (MQ below (zQ0 Γ lo S y X none True) ([.ref (lo (6, a_z, b_z)), .ref (lo (7, a_1, b_1)), .int i_2] : List Value).toArray s 0 0 (zA Γ)) (F0 m 112 ls []) := by
            intro u_ H locs ls  hl hW hS hm hf
            rw [ej30] at hf
            refine lv_aload_n hx hb dX5_takeSwitch_112 rfl (lv_at hl 2 rfl) ?_
            refine lv_iload_n hx hb dX5_takeSwitch_113 rfl (lv_at hl 1 rfl) ?_
            obtain ⟨S31, eS31, hf⟩ := op_st hf
            refine g_put hx hb hts ni_X5_takeSwitch_X5 tyX5 tyX5_ok nmX5 hown hKK.1 hW hS ((hm _).trans v_z) rfl rfl 2 (by decide) (hts (.fieldLink RX5 18 "TiltRoute$Play" "depth" "I") (List.mem_of_getElem? (i := 1) rfl)) rfl rfl rfl (show 2 < 4 by decide) rfl dX5_takeSwitch_114 eS31 (fun H locs hW hS => ?_)
            have hm : ∀ c, zV S31 c = zV S c := fun c => by rw [eS31]; exact hm c
            refine lv_aload_n hx hb dX5_takeSwitch_117 rfl (lv_at hl 2 rfl) ?_
            refine lv_dup hx hb dX5_takeSwitch_118 rfl ?_
            refine va_get hx hb hts ni_X5_takeSwitch_X5 hown hKK.1 (wd_1 hW ((hm _).trans v_z)) 0 rfl rfl 3 (by decide) (hts (.fieldLink RX5 22 "TiltRoute$Play" "score" "I") (List.mem_of_getElem? (i := 3) rfl)) (fun _ h => h) rfl dX5_takeSwitch_119 ?_
            refine lv_aload hx hb dX5_takeSwitch_122 (lv_at hl 0 rfl) ?_
            refine va_get hx hb hts ni_X5_takeSwitch_X3 hown hKK.1 (wd_1 hW ((hm _).trans (v3 _ ho6))) 0 rfl rfl 4 (by decide) (hts (.fieldLink RX5 46 "TiltRoute$Mode" "bonus" "I") (List.mem_of_getElem? (i := 8) rfl)) (fun _ h => h) rfl dX5_takeSwitch_124 ?_
            refine lv_iadd hx hb dX5_takeSwitch_127 ?_
            obtain ⟨S32, eS32, hf⟩ := op_st hf
            refine g_put hx hb hts ni_X5_takeSwitch_X5 tyX5 tyX5_ok nmX5 hown hKK.1 hW hS ((hm _).trans v_z) rfl rfl 3 (by decide) (hts (.fieldLink RX5 22 "TiltRoute$Play" "score" "I") (List.mem_of_getElem? (i := 3) rfl)) rfl rfl rfl (show 3 < 4 by decide) rfl dX5_takeSwitch_128 eS32 (fun H locs hW hS => ?_)
            have hm : ∀ c, zV S32 c = zV S c := fun c => by rw [eS32]; exact hm c
            have hf := Option.some.inj hf
            rw [← hf]
            exact z_vret hx hb hr hlocks hW hS hm trivial dX5_takeSwitch_131
          refine lv_icmp_eq (tgt := 112) hx hb dX5_takeSwitch_95 (by decide) (fun k95 => ?_) (fun k95 => ?_)
          · have hf := (op_if hf).1 k95
            exact hj30 () H locs ls  (lv_sub hl [0, 1, 2] rfl) hW hS hm hf
          · have hf := (op_if hf).2 k95
            refine lv_aload_n hx hb dX5_takeSwitch_98 rfl (lv_at hl 2 rfl) ?_
            refine va_get hx hb hts ni_X5_takeSwitch_X5 hown hKK.1 (wd_1 hW ((hm _).trans v_z)) 0 rfl rfl 1 (by decide) (hts (.fieldLink RX5 15 "TiltRoute$Play" "hits" "[I") (List.mem_of_getElem? (i := 5) rfl)) (fun _ h => h) rfl dX5_takeSwitch_99 ?_
            have v33 : zV S (15, a_z, b_z) = true := (hm _).symm.trans (vf_6_1 hW ((hm _).trans v_z))
            refine lv_iload_n hx hb dX5_takeSwitch_102 rfl (lv_at hl 1 rfl) ?_
            obtain ⟨h103, hf⟩ := op_gd hf
            refine va_iald hx hb hKK.1 (wd_1 hW ((hm _).trans v33)) 0 0 (n := 3) rfl rfl h103 dX5_takeSwitch_103 ?_
            refine lv_aload hx hb dX5_takeSwitch_104 (lv_at hl 0 rfl) ?_
            refine va_get hx hb hts ni_X5_takeSwitch_X3 hown hKK.1 (wd_1 hW ((hm _).trans (v3 _ ho6))) 0 rfl rfl 2 (by decide) (hts (.fieldLink RX5 43 "TiltRoute$Mode" "limit" "I") (List.mem_of_getElem? (i := 7) rfl)) (fun _ h => h) rfl dX5_takeSwitch_106 ?_
            refine lv_icmp_ne (tgt := 132) hx hb dX5_takeSwitch_109 (by decide) (fun k109 => ?_) (fun k109 => ?_)
            · have hf := (op_if hf).2 k109
              exact hj23 S29 H locs ls  (lv_sub hl [2, 3, 4] rfl) hW hS hm hf
            · have hf := (op_if hf).1 k109
              exact hj30 () H locs ls  (lv_sub hl [0, 1, 2] rfl) hW hS hm hf
      refine lv_ifnonnull (tgt := 55) hx hb dX5_takeSwitch_48 (by decide) ?_
      refine lv_aload hx hb dX5_takeSwitch_55 (lv_at hl 0 rfl) ?_
      refine va_get hx hb hts ni_X5_takeSwitch_X3 hown hKK.1 (wd_1 hW (v3 _ ho6)) 0 rfl rfl 3 (by decide) (hts (.fieldLink RX5 35 "TiltRoute$Mode" "times" "I") (List.mem_of_getElem? (i := 4) rfl)) (fun _ h => h) rfl dX5_takeSwitch_57 ?_
      exact hj20 (zI S (4, n5, 0) 3) H locs ls  (lv_sub hl [0, 1, 2, 3, 4] rfl) hW hS hm hf
  obtain ⟨j34, ej34, hf⟩ := op_st hf
  have hj34 : ∀ (u_ : Unit) (H : Heap) (locs : List Loc) (ls : Array Slot), lv_has ls 5 [(3, .int x1), (0, .ref (lo (6, a_z, b_z))), (1, .ref (lo (7, a_1, b_1))), (2, .int i_2)] → Wd Γ lo S X H → va_S (zA Γ) s.heap H locs → (∀ c, zV S c = zV S c) → j34 () = some y → W p l e (headSpec wsX5_takeSwitch rmX5_takeSwitch).room s m ([.ref (lo (6, a_z, b_z)), .ref (lo (7, a_1, b_1)), .int i_2] : List Value).toArray below meth c H locs 0 0 (MQ below (zQ0 Γ lo S y X none True) ([.ref (lo (6, a_z, b_z)), .ref (lo (7, a_1, b_1)), .int i_2] : List Value).toArray s 0 0 (zA Γ)) (F0 m 33 ls []) := by
    intro u_ H locs ls  hl hW hS hm hf
    rw [ej34] at hf
    refine lv_null hx hb dX5_takeSwitch_33 ?_
    exact hj4 none H locs ls (fun _ h => nomatch h) (lv_sub hl [0, 1, 2, 3] rfl) hW hS hm hf
  refine lv_if_lt (tgt := 33) hx hb dX5_takeSwitch_8 (by decide) (fun k8 => ?_) (fun k8 => ?_)
  · have hf := (op_if hf).1 k8
    exact hj34 () H locs ls  (lv_sub hl [0, 1, 2, 3] rfl) hW hS hm hf
  · have hf := (op_if hf).2 k8
    refine lv_iload_n hx hb dX5_takeSwitch_11 rfl (lv_at hl 0 rfl) ?_
    refine lv_aload_n hx hb dX5_takeSwitch_12 rfl (lv_at hl 1 rfl) ?_
    refine va_get hx hb hts ni_X5_takeSwitch_X5 hown hKK.1 (wd_1 hW v_z) 0 rfl rfl 0 (by decide) (hts (.fieldLink RX5 9 "TiltRoute$Play" "stacked" "[I") (List.mem_of_getElem? (i := 2) rfl)) (fun _ h => h) rfl dX5_takeSwitch_13 ?_
    have v35 : zV S (14, a_z, b_z) = true := vf_6_0 hW v_z
    refine va_alen (v := 3) hx hb hKK.1 (wd_1 hW v35) 0 0 rfl rfl (show Int32.ofNat 3 = 3 by decide) dX5_takeSwitch_16 ?_
    refine lv_icmp_ge (tgt := 33) hx hb dX5_takeSwitch_17 (by decide) (fun k17 => ?_) (fun k17 => ?_)
    · have hf := (op_if hf).1 k17
      exact hj34 () H locs ls  (lv_sub hl [0, 1, 2, 3] rfl) hW hS hm hf
    · have hf := (op_if hf).2 k17
      refine lv_aload_n hx hb dX5_takeSwitch_20 rfl (lv_at hl 2 rfl) ?_
      refine lv_aload_n hx hb dX5_takeSwitch_21 rfl (lv_at hl 1 rfl) ?_
      refine va_get hx hb hts ni_X5_takeSwitch_X5 hown hKK.1 (wd_1 hW v_z) 0 rfl rfl 0 (by decide) (hts (.fieldLink RX5 9 "TiltRoute$Play" "stacked" "[I") (List.mem_of_getElem? (i := 2) rfl)) (fun _ h => h) rfl dX5_takeSwitch_22 ?_
      have v36 : zV S (14, a_z, b_z) = true := vf_6_0 hW v_z
      refine lv_iload_n hx hb dX5_takeSwitch_25 rfl (lv_at hl 0 rfl) ?_
      obtain ⟨h26, hf⟩ := op_gd hf
      refine va_iald hx hb hKK.1 (wd_1 hW v36) 0 0 (n := 3) rfl rfl h26 dX5_takeSwitch_26 ?_
      obtain ⟨r37, hc38, hf⟩ := op_cl hf
      refine z_callV (As := [.int (zI S (14, a_z, b_z) x1.toNatClampNeg)]) (rest := []) ⟨hx, hb, hml, hown, hts⟩ (tX6_modeOf l Γ lo S X v_1 hc38) (cwV 1 hts gX5_takeSwitch_X6_modeOf rfl rfl rfl (by decide +kernel) ⟨Nat.le_of_ble_eq_true rfl, Nat.le_of_ble_eq_true rfl⟩) (wd_1 hW v_1) rfl hKK hW hS rfl hl.1 rfl (Nat.le_of_ble_eq_true rfl) dX5_takeSwitch_27 ⟨Nat.zero_le _, Nat.zero_le _⟩ (fun H locs hW hS hm1 hE => ?_)
      have v39 := hE
      refine lv_goto (tgt := 34) hx hb dX5_takeSwitch_30 (by decide) ?_
      exact hj4 r37 H locs ls v39 (lv_sub hl [0, 1, 2, 3] rfl) hW hS hm hf

theorem ni_X5_stackedModes_X5 : ∀ w ∈ wsX50, w ∈ wsX5_stackedModes := by decide +kernel
def fX5_stackedModes (S : zSt) (a_z : Nat) (b_z : Nat) : Option Int32 :=
st (0 : Int32) fun x1 =>
st (0 : Int32) fun x2 =>
lp (fun (q3 : (Int32 × Int32)) => (if (zI S (6, a_z, b_z) 2) ≤ q3.2 then
some (.inr (q3.1))
else
if (3 : Int32) ≤ q3.2 then
some (.inr (q3.1))
else
gd (¬ (q3.2 < 0 ∨ 3 ≤ q3.2.toNatClampNeg)) (
st (((q3.1 * (10 : Int32)) + (zI S (14, a_z, b_z) q3.2.toNatClampNeg)) + (1 : Int32)) fun x11 =>
st (q3.2 + (1 : Int32)) fun x12 =>
some (.inl (x11, x12))) : Option ((Int32 × Int32) ⊕ Int32))) 40000 (x1, x2)
abbrev rmX5_stackedModes : Room := { frames := 0, cells := 0, slots := 0, locals := 0 }
set_option maxHeartbeats 4000000 in
set_option maxRecDepth 100000 in
theorem tX5_stackedModes (l : Launch) (Γ : zG) (lo : zId → Nat) (S : zSt) (X : va_W) {a_z : Nat} {b_z : Nat} (v_z : zV S (6, a_z, b_z) = true) {y : Int32} (hf : fX5_stackedModes S a_z b_z = some y) : Met l yX5_stackedModes wsX5_stackedModes rmX5_stackedModes (zP0 Γ lo S X [.ref (lo (6, a_z, b_z))]) (zQ0 Γ lo S S X (some (.int y)) True) 0 0 (zA Γ) := by
  refine Met.ofW (cc := cX5_stackedModes) (maxL := 3) (ret := (some .int)) (by decide) rfl ?_
  intro p e s m args below meth c s₁ B hml hv
  obtain ⟨rfl, hW, hKK⟩ := hv
  have hx := B.exec
  have hb := B.bytes
  have hr := B.returns
  have hts := atoms_spec (ws := wsX5_stackedModes) B.pre
  have hown : s.vm.findClass RX5 = some m.cls := findClass_of_methodNamed B.named
  have hlocks := B.notSynchronized
  have hS : va_S (zA Γ) s.heap s.heap [] := va_S.rf
  have hm : ∀ c, zV S c = zV S c := fun _ => rfl
  have hl := lv_entry ([.ref (lo (6, a_z, b_z))]) (n := 3) (Nat.le_of_ble_eq_true rfl)
  rw [lg_entry_eq]
  generalize (lg_sl ([.ref (lo (6, a_z, b_z))]) ++ List.replicate (3 - (lg_sl ([.ref (lo (6, a_z, b_z))])).length) Slot.unset).toArray = ls at hl ⊢
  have hl : lv_has ls 3 [(0, .ref (lo (6, a_z, b_z)))] := hl
  obtain ⟨H, hH0⟩ : ∃ H, H = s.heap := ⟨_, rfl⟩
  obtain ⟨locs, hlo0⟩ : ∃ L : List Loc, L = [] := ⟨_, rfl⟩
  have hS : va_S (zA Γ) s.heap H locs := by rw [hH0, hlo0]; exact hS
  have hW : Wd Γ lo S X H := by rw [hH0]; exact hW
  rw [← hH0, ← hlo0]
  unfold fX5_stackedModes at hf
  refine lv_iconst (v := (0)) hx hb dX5_stackedModes_0 (by decide) ?_
  obtain ⟨x1, ex1, hf⟩ := op_st hf
  have bx1 : x1 = 0 ∨ x1 = 1 := Or.inl ex1
  refine z_istn (lv' := [(1, .int x1), (0, .ref (lo (6, a_z, b_z)))]) ex1 hx hb dX5_stackedModes_1 rfl hl (by decide) rfl (fun ls hl => ?_)
  refine lv_iconst (v := (0)) hx hb dX5_stackedModes_2 (by decide) ?_
  obtain ⟨x2, ex2, hf⟩ := op_st hf
  have bx2 : x2 = 0 ∨ x2 = 1 := Or.inl ex2
  refine z_istn (lv' := [(2, .int x2), (1, .int x1), (0, .ref (lo (6, a_z, b_z)))]) ex2 hx hb dX5_stackedModes_3 rfl hl (by decide) rfl (fun ls hl => ?_)
  obtain ⟨w5, q30, ew5, eq30, hf⟩ := op_lb hf
  have hw5 : ∀ n8 : Nat, ∀ (q3 : (Int32 × Int32)) (H : Heap) (locs : List Loc) (ls : Array Slot), lv_has ls 3 [(2, .int q3.2), (1, .int q3.1), (0, .ref (lo (6, a_z, b_z)))] → Wd Γ lo S X H → va_S (zA Γ) s.heap H locs → (∀ c, zV S c = zV S c) → lp w5 n8 q3 = some y → W p l e (headSpec wsX5_stackedModes rmX5_stackedModes).room s m ([.ref (lo (6, a_z, b_z))] : List Value).toArray below meth c H locs 0 0 (MQ below (zQ0 Γ lo S S X (some (.int y)) True) ([.ref (lo (6, a_z, b_z))] : List Value).toArray s 0 0 (zA Γ)) (F0 m 4 ls []) := by
    intro n8
    induction n8 with
    | zero => intro q3 H locs ls hl hW hS hm hf; cases hf
    | succ n8 ih6 =>
      intro q3 H locs ls hl hW hS hm hf
      obtain ⟨n_, r4, hn_, hf, hr7⟩ := op_lq hf
      cases hn_
      rw [ew5] at hf
      refine lv_iload_n hx hb dX5_stackedModes_4 rfl (lv_at hl 0 rfl) ?_
      refine lv_aload_n hx hb dX5_stackedModes_5 rfl (lv_at hl 2 rfl) ?_
      refine va_get hx hb hts ni_X5_stackedModes_X5 hown hKK.1 (wd_1 hW v_z) 0 rfl rfl 2 (by decide) (hts (.fieldLink RX5 18 "TiltRoute$Play" "depth" "I") (List.mem_of_getElem? (i := 1) rfl)) (fun _ h => h) rfl dX5_stackedModes_6 ?_
      refine lv_icmp_ge (tgt := 41) hx hb dX5_stackedModes_9 (by decide) (fun k9 => ?_) (fun k9 => ?_)
      · have hf := (op_if hf).1 k9
        refine lv_iload_n hx hb dX5_stackedModes_41 rfl (lv_at hl 1 rfl) ?_
        have hf := zr_r hf hr7
        rw [← hf]
        exact z_iret hx hb hr hlocks rfl hW hS hm trivial dX5_stackedModes_42
      · have hf := (op_if hf).2 k9
        refine lv_iload_n hx hb dX5_stackedModes_12 rfl (lv_at hl 0 rfl) ?_
        refine lv_aload_n hx hb dX5_stackedModes_13 rfl (lv_at hl 2 rfl) ?_
        refine va_get hx hb hts ni_X5_stackedModes_X5 hown hKK.1 (wd_1 hW v_z) 0 rfl rfl 0 (by decide) (hts (.fieldLink RX5 9 "TiltRoute$Play" "stacked" "[I") (List.mem_of_getElem? (i := 2) rfl)) (fun _ h => h) rfl dX5_stackedModes_14 ?_
        have v9 : zV S (14, a_z, b_z) = true := vf_6_0 hW v_z
        refine va_alen (v := 3) hx hb hKK.1 (wd_1 hW v9) 0 0 rfl rfl (show Int32.ofNat 3 = 3 by decide) dX5_stackedModes_17 ?_
        refine lv_icmp_ge (tgt := 41) hx hb dX5_stackedModes_18 (by decide) (fun k18 => ?_) (fun k18 => ?_)
        · have hf := (op_if hf).1 k18
          refine lv_iload_n hx hb dX5_stackedModes_41 rfl (lv_at hl 1 rfl) ?_
          have hf := zr_r hf hr7
          rw [← hf]
          exact z_iret hx hb hr hlocks rfl hW hS hm trivial dX5_stackedModes_42
        · have hf := (op_if hf).2 k18
          refine lv_iload_n hx hb dX5_stackedModes_21 rfl (lv_at hl 1 rfl) ?_
          refine lv_bipush (v := (10)) hx hb dX5_stackedModes_22 (by decide) ?_
          refine lv_imul hx hb dX5_stackedModes_24 ?_
          refine lv_aload_n hx hb dX5_stackedModes_25 rfl (lv_at hl 2 rfl) ?_
          refine va_get hx hb hts ni_X5_stackedModes_X5 hown hKK.1 (wd_1 hW v_z) 0 rfl rfl 0 (by decide) (hts (.fieldLink RX5 9 "TiltRoute$Play" "stacked" "[I") (List.mem_of_getElem? (i := 2) rfl)) (fun _ h => h) rfl dX5_stackedModes_26 ?_
          have v10 : zV S (14, a_z, b_z) = true := vf_6_0 hW v_z
          refine lv_iload_n hx hb dX5_stackedModes_29 rfl (lv_at hl 0 rfl) ?_
          obtain ⟨h30, hf⟩ := op_gd hf
          refine va_iald hx hb hKK.1 (wd_1 hW v10) 0 0 (n := 3) rfl rfl h30 dX5_stackedModes_30 ?_
          refine lv_iadd hx hb dX5_stackedModes_31 ?_
          refine lv_iconst (v := (1)) hx hb dX5_stackedModes_32 (by decide) ?_
          refine lv_iadd hx hb dX5_stackedModes_33 ?_
          obtain ⟨x11, ex11, hf⟩ := op_st hf
          refine z_istn (lv' := [(1, .int x11), (2, .int q3.2), (0, .ref (lo (6, a_z, b_z)))]) ex11 hx hb dX5_stackedModes_34 rfl hl (by decide) rfl (fun ls hl => ?_)
          obtain ⟨x12, ex12, hf⟩ := op_st hf
          refine lv_iinc (v := x12) (lv' := [(2, .int x12), (1, .int x11), (0, .ref (lo (6, a_z, b_z)))]) hx hb dX5_stackedModes_35 hl (k := 1) rfl (by rw [ex12]; rfl) (by decide) rfl (fun ls hl => ?_)
          refine lv_goto (tgt := 4) hx hb dX5_stackedModes_38 (by decide) ?_
          have hf := zr_l hf hr7
          exact ih6 (x11, x12) H locs ls (lv_sub hl [0, 1, 2] rfl) hW hS hm hf
  rw [eq30] at hf
  exact hw5 _ (x1, x2) H locs ls (lv_sub hl [0, 1, 2] rfl) hW hS hm hf

theorem ni_X6_changeMode_X6 : ∀ w ∈ wsX60, w ∈ wsX6_changeMode := by decide +kernel
def fX6_changeMode (S : zSt) (a_z : Nat) (b_z : Nat) (i_1 : Int32) (o_2 : Option Nat) : Option zSt :=
if i_1 < 0 then
some (S)
else
if (4 : Int32) ≤ i_1 then
some (S)
else
om o_2 (
gd (¬ (i_1 < 0 ∨ 4 ≤ i_1.toNatClampNeg)) (
st (pQ S (13, a_z, b_z) i_1.toNatClampNeg none) fun S5 =>
some (S5))) fun n3 =>
gd (¬ (i_1 < 0 ∨ 4 ≤ i_1.toNatClampNeg)) (
st (pQ S (13, a_z, b_z) i_1.toNatClampNeg (some n3)) fun S6 =>
some (S6))
abbrev rmX6_changeMode : Room := { frames := 0, cells := 0, slots := 0, locals := 0 }
set_option maxHeartbeats 4000000 in
set_option maxRecDepth 100000 in
theorem tX6_changeMode (l : Launch) (Γ : zG) (lo : zId → Nat) (S : zSt) (X : va_W) {a_z : Nat} {b_z : Nat} {i_1 : Int32} {o_2 : Option Nat} (v_z : zV S (7, a_z, b_z) = true) (v_2 : ∀ n, o_2 = some n → zV S (4, n, 0) = true) {y : zSt} (hf : fX6_changeMode S a_z b_z i_1 o_2 = some y) : Met l yX6_changeMode wsX6_changeMode rmX6_changeMode (zP0 Γ lo S X [.ref (lo (7, a_z, b_z)), .int i_1, va_rf (o_2.map (fun n => lo (4, n, 0)))]) (zQ0 Γ lo S y X none True) 0 0 (zA Γ) := by
  refine Met.ofW (cc := cX6_changeMode) (maxL := 3) (ret := none) (by decide) rfl ?_
  intro p e s m args below meth c s₁ B hml hv
  obtain ⟨rfl, hW, hKK⟩ := hv
  have hx := B.exec
  have hb := B.bytes
  have hr := B.returns
  have hts := atoms_spec (ws := wsX6_changeMode) B.pre
  have hown : s.vm.findClass RX6 = some m.cls := findClass_of_methodNamed B.named
  have hlocks := B.notSynchronized
  have hS : va_S (zA Γ) s.heap s.heap [] := va_S.rf
  have hm : ∀ c, zV S c = zV S c := fun _ => rfl
  have hl := lv_entry ([.ref (lo (7, a_z, b_z)), .int i_1, va_rf (o_2.map (fun n => lo (4, n, 0)))]) (n := 3) (by cases o_2 <;> exact Nat.le_of_ble_eq_true rfl)
  rw [lg_entry_eq]
  generalize (lg_sl ([.ref (lo (7, a_z, b_z)), .int i_1, va_rf (o_2.map (fun n => lo (4, n, 0)))]) ++ List.replicate (3 - (lg_sl ([.ref (lo (7, a_z, b_z)), .int i_1, va_rf (o_2.map (fun n => lo (4, n, 0)))])).length) Slot.unset).toArray = ls at hl ⊢
  have hl : lv_has ls 3 [(0, .ref (lo (7, a_z, b_z))), (1, .int i_1), (2, va_rf (o_2.map (fun n => lo (4, n, 0))))] := by cases o_2 <;> exact hl
  obtain ⟨H, hH0⟩ : ∃ H, H = s.heap := ⟨_, rfl⟩
  obtain ⟨locs, hlo0⟩ : ∃ L : List Loc, L = [] := ⟨_, rfl⟩
  have hS : va_S (zA Γ) s.heap H locs := by rw [hH0, hlo0]; exact hS
  have hW : Wd Γ lo S X H := by rw [hH0]; exact hW
  rw [← hH0, ← hlo0]
  unfold fX6_changeMode at hf
  refine lv_iload_n hx hb dX6_changeMode_0 rfl (lv_at hl 1 rfl) ?_
  refine lv_if_lt (tgt := 20) hx hb dX6_changeMode_1 (by decide) (fun k1 => ?_) (fun k1 => ?_)
  · have hf := (op_if hf).1 k1
    have hf := Option.some.inj hf
    rw [← hf]
    exact z_vret hx hb hr hlocks hW hS hm trivial dX6_changeMode_20
  · have hf := (op_if hf).2 k1
    refine lv_iload_n hx hb dX6_changeMode_4 rfl (lv_at hl 1 rfl) ?_
    refine lv_aload_n hx hb dX6_changeMode_5 rfl (lv_at hl 0 rfl) ?_
    refine va_get hx hb hts ni_X6_changeMode_X6 hown hKK.1 (wd_1 hW v_z) 0 rfl rfl 1 (by decide) (hts (.fieldLink RX6 17 "TiltRoute$Rules" "modes" "[LTiltRoute$Mode;") (List.mem_of_getElem? (i := 1) rfl)) (fun _ h => h) rfl dX6_changeMode_6 ?_
    have v1 : zV S (13, a_z, b_z) = true := vf_7_1 hW v_z
    refine va_alen (v := 4) hx hb hKK.1 (wd_1 hW v1) 0 3 rfl rfl (show Int32.ofNat 4 = 4 by decide) dX6_changeMode_9 ?_
    refine lv_icmp_ge (tgt := 20) hx hb dX6_changeMode_10 (by decide) (fun k10 => ?_) (fun k10 => ?_)
    · have hf := (op_if hf).1 k10
      have hf := Option.some.inj hf
      rw [← hf]
      exact z_vret hx hb hr hlocks hW hS hm trivial dX6_changeMode_20
    · have hf := (op_if hf).2 k10
      refine lv_aload_n hx hb dX6_changeMode_13 rfl (lv_at hl 0 rfl) ?_
      refine va_get hx hb hts ni_X6_changeMode_X6 hown hKK.1 (wd_1 hW v_z) 0 rfl rfl 1 (by decide) (hts (.fieldLink RX6 17 "TiltRoute$Rules" "modes" "[LTiltRoute$Mode;") (List.mem_of_getElem? (i := 1) rfl)) (fun _ h => h) rfl dX6_changeMode_14 ?_
      have v2 : zV S (13, a_z, b_z) = true := vf_7_1 hW v_z
      refine lv_iload_n hx hb dX6_changeMode_17 rfl (lv_at hl 1 rfl) ?_
      rcases ho4 : o_2 with _ | n3
      · rw [ho4] at hf
        have hf := op_omN hf
        rw [ho4] at hl
        refine lv_aload_nN hx hb dX6_changeMode_18 rfl (lv_at hl 2 rfl) ?_
        obtain ⟨h19, hf⟩ := op_gd hf
        obtain ⟨S5, eS5, hf⟩ := op_st hf
        refine g_astN hx hb hKK.1 hW hS v2 h19 dX6_changeMode_19 eS5 (fun H locs hW hS => ?_)
        have hm : ∀ c, zV S5 c = zV S c := fun c => by rw [eS5]; rfl
        have hf := Option.some.inj hf
        rw [← hf]
        exact z_vret hx hb hr hlocks hW hS hm trivial dX6_changeMode_20
      · rw [ho4] at hf
        have hf := op_omS hf
        rw [ho4] at hl
        refine lv_aload_n hx hb dX6_changeMode_18 rfl (lv_at hl 2 rfl) ?_
        obtain ⟨h19, hf⟩ := op_gd hf
        obtain ⟨S6, eS6, hf⟩ := op_st hf
        refine g_astq hx hb hKK.1 hW hS v2 (v_2 _ ho4) h19 dX6_changeMode_19 eS6 (fun H locs hW hS => ?_)
        have hm : ∀ c, zV S6 c = zV S c := fun c => by rw [eS6]; rfl
        have hf := Option.some.inj hf
        rw [← hf]
        exact z_vret hx hb hr hlocks hW hS hm trivial dX6_changeMode_20

theorem ni_X7_bumperOver_X7 : ∀ w ∈ wsX70, w ∈ wsX7_bumperOver := by decide +kernel
def fX7_bumperOver (S : zSt) (a_z : Nat) (i_1 : Int32) (i_2 : Int32) : Option Int32 :=
st (0 : Int32) fun x1 =>
lp (fun (q2 : (Int32)) => (cl (fJ_size S (a_z + 2)) fun r9 =>
if r9 ≤ q2 then
some (.inr ((-1 : Int32)))
else
cl (fJ_get S (a_z + 2) q2) fun r12 =>
cl (fX1_holdsPart S a_z r12 i_1 i_2) fun r15 =>
if r15 = 0 then
st (q2 + (1 : Int32)) fun x18 =>
some (.inl (x18))
else
some (.inr (q2)) : Option ((Int32) ⊕ Int32))) 40000 (x1)
abbrev rmX7_bumperOver : Room := { frames := 3, cells := 0, slots := 0, locals := 64 }
set_option maxHeartbeats 4000000 in
set_option maxRecDepth 100000 in
theorem tX7_bumperOver (l : Launch) (Γ : zG) (lo : zId → Nat) (S : zSt) (X : va_W) {a_z : Nat} {i_1 : Int32} {i_2 : Int32} (v_z : zV S (8, a_z, 0) = true) {y : Int32} (hf : fX7_bumperOver S a_z i_1 i_2 = some y) : Met l yX7_bumperOver wsX7_bumperOver rmX7_bumperOver (zP0 Γ lo S X [.ref (lo (8, a_z, 0)), .int i_1, .int i_2]) (zQ0 Γ lo S S X (some (.int y)) True) 0 0 (zA Γ) := by
  refine Met.ofW (cc := cX7_bumperOver) (maxL := 4) (ret := (some .int)) (by decide) rfl ?_
  intro p e s m args below meth c s₁ B hml hv
  obtain ⟨rfl, hW, hKK⟩ := hv
  have hx := B.exec
  have hb := B.bytes
  have hr := B.returns
  have hts := atoms_spec (ws := wsX7_bumperOver) B.pre
  have hown : s.vm.findClass RX7 = some m.cls := findClass_of_methodNamed B.named
  have hlocks := B.notSynchronized
  have hS : va_S (zA Γ) s.heap s.heap [] := va_S.rf
  have hm : ∀ c, zV S c = zV S c := fun _ => rfl
  have hl := lv_entry ([.ref (lo (8, a_z, 0)), .int i_1, .int i_2]) (n := 4) (Nat.le_of_ble_eq_true rfl)
  rw [lg_entry_eq]
  generalize (lg_sl ([.ref (lo (8, a_z, 0)), .int i_1, .int i_2]) ++ List.replicate (4 - (lg_sl ([.ref (lo (8, a_z, 0)), .int i_1, .int i_2])).length) Slot.unset).toArray = ls at hl ⊢
  have hl : lv_has ls 4 [(0, .ref (lo (8, a_z, 0))), (1, .int i_1), (2, .int i_2)] := hl
  obtain ⟨H, hH0⟩ : ∃ H, H = s.heap := ⟨_, rfl⟩
  obtain ⟨locs, hlo0⟩ : ∃ L : List Loc, L = [] := ⟨_, rfl⟩
  have hS : va_S (zA Γ) s.heap H locs := by rw [hH0, hlo0]; exact hS
  have hW : Wd Γ lo S X H := by rw [hH0]; exact hW
  rw [← hH0, ← hlo0]
  unfold fX7_bumperOver at hf
  refine lv_iconst (v := (0)) hx hb dX7_bumperOver_0 (by decide) ?_
  obtain ⟨x1, ex1, hf⟩ := op_st hf
  have bx1 : x1 = 0 ∨ x1 = 1 := Or.inl ex1
  refine z_istn (lv' := [(3, .int x1), (0, .ref (lo (8, a_z, 0))), (1, .int i_1), (2, .int i_2)]) ex1 hx hb dX7_bumperOver_1 rfl hl (by decide) rfl (fun ls hl => ?_)
  obtain ⟨w4, q20, ew4, eq20, hf⟩ := op_lb hf
  have hw4 : ∀ n7 : Nat, ∀ (q2 : (Int32)) (H : Heap) (locs : List Loc) (ls : Array Slot), lv_has ls 4 [(3, .int q2), (0, .ref (lo (8, a_z, 0))), (1, .int i_1), (2, .int i_2)] → Wd Γ lo S X H → va_S (zA Γ) s.heap H locs → (∀ c, zV S c = zV S c) → lp w4 n7 q2 = some y → W p l e (headSpec wsX7_bumperOver rmX7_bumperOver).room s m ([.ref (lo (8, a_z, 0)), .int i_1, .int i_2] : List Value).toArray below meth c H locs 0 0 (MQ below (zQ0 Γ lo S S X (some (.int y)) True) ([.ref (lo (8, a_z, 0)), .int i_1, .int i_2] : List Value).toArray s 0 0 (zA Γ)) (F0 m 2 ls []) := by
    intro n7
    induction n7 with
    | zero => intro q2 H locs ls hl hW hS hm hf; cases hf
    | succ n7 ih5 =>
      intro q2 H locs ls hl hW hS hm hf
      obtain ⟨n_, r3, hn_, hf, hr6⟩ := op_lq hf
      cases hn_
      rw [ew4] at hf
      refine lv_iload_n hx hb dX7_bumperOver_2 rfl (lv_at hl 0 rfl) ?_
      refine lv_aload_n hx hb dX7_bumperOver_3 rfl (lv_at hl 1 rfl) ?_
      refine va_get hx hb hts ni_X7_bumperOver_X7 hown hKK.1 (wd_1 hW v_z) 0 rfl rfl 2 (by decide) (hts (.fieldLink RX7 12 "TiltRoute$Table" "bumpers" "Ljava/util/ArrayList;") (List.mem_of_getElem? (i := 1) rfl)) (fun _ h => h) rfl dX7_bumperOver_4 ?_
      have v8 : zV S (0, (a_z + 2), 0) = true := vf_8_2 hW v_z
      obtain ⟨r9, hc10, hf⟩ := op_cl hf
      refine z_callV (As := []) (rest := [.int q2]) ⟨hx, hb, hml, hown, hts⟩ (tJ_size l Γ lo S X v8 hc10) (cwV 0 hts gX7_bumperOver_Jx4a65c_size_8abf5 rfl rfl rfl (by decide +kernel) ⟨Nat.le_of_ble_eq_true rfl, Nat.le_of_ble_eq_true rfl⟩) (wd_1 hW v8) rfl hKK hW hS rfl hl.1 rfl (Nat.le_of_ble_eq_true rfl) dX7_bumperOver_7 ⟨Nat.zero_le _, Nat.zero_le _⟩ (fun H locs hW hS hm1 hE => ?_)
      refine lv_icmp_ge (tgt := 40) hx hb dX7_bumperOver_10 (by decide) (fun k10 => ?_) (fun k10 => ?_)
      · have hf := (op_if hf).1 k10
        refine lv_iconst (v := (-1)) hx hb dX7_bumperOver_40 (by decide) ?_
        have hf := zr_r hf hr6
        rw [← hf]
        exact z_iret hx hb hr hlocks rfl hW hS hm trivial dX7_bumperOver_41
      · have hf := (op_if hf).2 k10
        refine lv_aload_n hx hb dX7_bumperOver_13 rfl (lv_at hl 1 rfl) ?_
        refine va_get hx hb hts ni_X7_bumperOver_X7 hown hKK.1 (wd_1 hW v_z) 0 rfl rfl 2 (by decide) (hts (.fieldLink RX7 12 "TiltRoute$Table" "bumpers" "Ljava/util/ArrayList;") (List.mem_of_getElem? (i := 1) rfl)) (fun _ h => h) rfl dX7_bumperOver_14 ?_
        have v11 : zV S (0, (a_z + 2), 0) = true := vf_8_2 hW v_z
        refine lv_iload_n hx hb dX7_bumperOver_17 rfl (lv_at hl 0 rfl) ?_
        obtain ⟨r12, hc13, hf⟩ := op_cl hf
        refine z_callV (As := [.int q2]) (rest := []) ⟨hx, hb, hml, hown, hts⟩ (tJ_get l Γ lo S X v11 hc13) (cwV 1 hts gX7_bumperOver_Jx4a65c_get_915e3 rfl rfl rfl (by decide +kernel) ⟨Nat.le_of_ble_eq_true rfl, Nat.le_of_ble_eq_true rfl⟩) (wd_1 hW v11) rfl hKK hW hS rfl hl.1 rfl (Nat.le_of_ble_eq_true rfl) dX7_bumperOver_18 ⟨Nat.zero_le _, Nat.zero_le _⟩ (fun H locs hW hS hm1 hE => ?_)
        have v14 : zV S (2, a_z, r12) = true := hE
        refine va_castE hx hb hown (hts (.classLink RX7 52 "TiltRoute$Bumper") (List.mem_of_getElem? (i := 2) rfl)) (va_recv (q0 := 0) hKK.1 (wd_1 hW v14) (ci := 2) rfl rfl) dX7_bumperOver_21 ?_
        refine lv_iload_n hx hb dX7_bumperOver_24 rfl (lv_at hl 2 rfl) ?_
        refine lv_iload_n hx hb dX7_bumperOver_25 rfl (lv_at hl 3 rfl) ?_
        obtain ⟨r15, hc16, hf⟩ := op_cl hf
        refine z_callV (As := [.int i_1, .int i_2]) (rest := []) ⟨hx, hb, hml, hown, hts⟩ (tX1_holdsPart l Γ lo S X v14 hc16) (cwV 2 hts gX7_bumperOver_X1_holdsPart rfl rfl rfl (by decide +kernel) ⟨Nat.le_of_ble_eq_true rfl, Nat.le_of_ble_eq_true rfl⟩) (wd_1 hW v14) rfl hKK hW hS rfl hl.1 rfl (Nat.le_of_ble_eq_true rfl) dX7_bumperOver_26 ⟨Nat.zero_le _, Nat.zero_le _⟩ (fun H locs hW hS hm1 hE => ?_)
        have b17 := hE
        refine lv_if_eq (tgt := 34) hx hb dX7_bumperOver_29 (by decide) (fun k29 => ?_) (fun k29 => ?_)
        · have hf := (op_if hf).1 k29
          obtain ⟨x18, ex18, hf⟩ := op_st hf
          refine lv_iinc (v := x18) (lv' := [(3, .int x18), (0, .ref (lo (8, a_z, 0))), (1, .int i_1), (2, .int i_2)]) hx hb dX7_bumperOver_34 hl (k := 0) rfl (by rw [ex18]; rfl) (by decide) rfl (fun ls hl => ?_)
          refine lv_goto (tgt := 2) hx hb dX7_bumperOver_37 (by decide) ?_
          have hf := zr_l hf hr6
          exact ih5 (x18) H locs ls (lv_sub hl [0, 1, 2, 3] rfl) hW hS hm hf
        · have hf := (op_if hf).2 k29
          refine lv_iload_n hx hb dX7_bumperOver_32 rfl (lv_at hl 0 rfl) ?_
          have hf := zr_r hf hr6
          rw [← hf]
          exact z_iret hx hb hr hlocks rfl hW hS hm trivial dX7_bumperOver_33
  rw [eq20] at hf
  exact hw4 _ (x1) H locs ls (lv_sub hl [0, 1, 2, 3] rfl) hW hS hm hf

theorem ni_X7_countFaults_X1 : ∀ w ∈ wsX10, w ∈ wsX7_countFaults := by decide +kernel
theorem ni_X7_countFaults_X7 : ∀ w ∈ wsX70, w ∈ wsX7_countFaults := by decide +kernel
def fX7_countFaults (S : zSt) (a_z : Nat) (i_1 : Int32) : Option Int32 :=
st (0 : Int32) fun x1 =>
st (0 : Int32) fun x2 =>
lp (fun (q3 : (Int32 × Int32)) => (cl (fJ_size S (a_z + 2)) fun r10 =>
if r10 ≤ q3.2 then
some (.inr (q3.1))
else
cl (fJ_get S (a_z + 2) q3.2) fun r13 =>
st (fun (y16 : Int32) => (st (q3.2 + (1 : Int32)) fun x18 =>
some (.inl (y16, x18)) : Option ((Int32 × Int32) ⊕ Int32))) fun j17 =>
st (fun (u_ : Unit) => (st (q3.1 + (1 : Int32)) fun x20 =>
j17 x20 : Option ((Int32 × Int32) ⊕ Int32))) fun j19 =>
if i_1 = 0 then
if (zI S (2, a_z, r13) 6) = (-1 : Int32) then
j17 q3.1
else
j19 ()
else
cl (fX1_isBroken S a_z r13) fun r21 =>
if r21 = 0 then
j17 q3.1
else
j19 () : Option ((Int32 × Int32) ⊕ Int32))) 40000 (x1, x2)
abbrev rmX7_countFaults : Room := { frames := 3, cells := 0, slots := 0, locals := 64 }
set_option maxHeartbeats 4000000 in
set_option maxRecDepth 100000 in
theorem tX7_countFaults (l : Launch) (Γ : zG) (lo : zId → Nat) (S : zSt) (X : va_W) {a_z : Nat} {i_1 : Int32} (v_z : zV S (8, a_z, 0) = true) {y : Int32} (hf : fX7_countFaults S a_z i_1 = some y) : Met l yX7_countFaults wsX7_countFaults rmX7_countFaults (zP0 Γ lo S X [.ref (lo (8, a_z, 0)), .int i_1]) (zQ0 Γ lo S S X (some (.int y)) True) 0 0 (zA Γ) := by
  refine Met.ofW (cc := cX7_countFaults) (maxL := 5) (ret := (some .int)) (by decide) rfl ?_
  intro p e s m args below meth c s₁ B hml hv
  obtain ⟨rfl, hW, hKK⟩ := hv
  have hx := B.exec
  have hb := B.bytes
  have hr := B.returns
  have hts := atoms_spec (ws := wsX7_countFaults) B.pre
  have hown : s.vm.findClass RX7 = some m.cls := findClass_of_methodNamed B.named
  have hlocks := B.notSynchronized
  have hS : va_S (zA Γ) s.heap s.heap [] := va_S.rf
  have hm : ∀ c, zV S c = zV S c := fun _ => rfl
  have hl := lv_entry ([.ref (lo (8, a_z, 0)), .int i_1]) (n := 5) (Nat.le_of_ble_eq_true rfl)
  rw [lg_entry_eq]
  generalize (lg_sl ([.ref (lo (8, a_z, 0)), .int i_1]) ++ List.replicate (5 - (lg_sl ([.ref (lo (8, a_z, 0)), .int i_1])).length) Slot.unset).toArray = ls at hl ⊢
  have hl : lv_has ls 5 [(0, .ref (lo (8, a_z, 0))), (1, .int i_1)] := hl
  obtain ⟨H, hH0⟩ : ∃ H, H = s.heap := ⟨_, rfl⟩
  obtain ⟨locs, hlo0⟩ : ∃ L : List Loc, L = [] := ⟨_, rfl⟩
  have hS : va_S (zA Γ) s.heap H locs := by rw [hH0, hlo0]; exact hS
  have hW : Wd Γ lo S X H := by rw [hH0]; exact hW
  rw [← hH0, ← hlo0]
  unfold fX7_countFaults at hf
  refine lv_iconst (v := (0)) hx hb dX7_countFaults_0 (by decide) ?_
  obtain ⟨x1, ex1, hf⟩ := op_st hf
  have bx1 : x1 = 0 ∨ x1 = 1 := Or.inl ex1
  refine z_istn (lv' := [(2, .int x1), (0, .ref (lo (8, a_z, 0))), (1, .int i_1)]) ex1 hx hb dX7_countFaults_1 rfl hl (by decide) rfl (fun ls hl => ?_)
  refine lv_iconst (v := (0)) hx hb dX7_countFaults_2 (by decide) ?_
  obtain ⟨x2, ex2, hf⟩ := op_st hf
  have bx2 : x2 = 0 ∨ x2 = 1 := Or.inl ex2
  refine z_istn (lv' := [(3, .int x2), (2, .int x1), (0, .ref (lo (8, a_z, 0))), (1, .int i_1)]) ex2 hx hb dX7_countFaults_3 rfl hl (by decide) rfl (fun ls hl => ?_)
  obtain ⟨w5, q30, ew5, eq30, hf⟩ := op_lb hf
  have hw5 : ∀ n8 : Nat, ∀ (q3 : (Int32 × Int32)) (H : Heap) (locs : List Loc) (ls : Array Slot), lv_has ls 5 [(3, .int q3.2), (2, .int q3.1), (0, .ref (lo (8, a_z, 0))), (1, .int i_1)] → Wd Γ lo S X H → va_S (zA Γ) s.heap H locs → (∀ c, zV S c = zV S c) → lp w5 n8 q3 = some y → W p l e (headSpec wsX7_countFaults rmX7_countFaults).room s m ([.ref (lo (8, a_z, 0)), .int i_1] : List Value).toArray below meth c H locs 0 0 (MQ below (zQ0 Γ lo S S X (some (.int y)) True) ([.ref (lo (8, a_z, 0)), .int i_1] : List Value).toArray s 0 0 (zA Γ)) (F0 m 4 ls []) := by
    intro n8
    induction n8 with
    | zero => intro q3 H locs ls hl hW hS hm hf; cases hf
    | succ n8 ih6 =>
      intro q3 H locs ls hl hW hS hm hf
      obtain ⟨n_, r4, hn_, hf, hr7⟩ := op_lq hf
      cases hn_
      rw [ew5] at hf
      refine lv_iload_n hx hb dX7_countFaults_4 rfl (lv_at hl 0 rfl) ?_
      refine lv_aload_n hx hb dX7_countFaults_5 rfl (lv_at hl 2 rfl) ?_
      refine va_get hx hb hts ni_X7_countFaults_X7 hown hKK.1 (wd_1 hW v_z) 0 rfl rfl 2 (by decide) (hts (.fieldLink RX7 12 "TiltRoute$Table" "bumpers" "Ljava/util/ArrayList;") (List.mem_of_getElem? (i := 1) rfl)) (fun _ h => h) rfl dX7_countFaults_6 ?_
      have v9 : zV S (0, (a_z + 2), 0) = true := vf_8_2 hW v_z
      obtain ⟨r10, hc11, hf⟩ := op_cl hf
      refine z_callV (As := []) (rest := [.int q3.2]) ⟨hx, hb, hml, hown, hts⟩ (tJ_size l Γ lo S X v9 hc11) (cwV 0 hts gX7_countFaults_Jx4a65c_size_8abf5 rfl rfl rfl (by decide +kernel) ⟨Nat.le_of_ble_eq_true rfl, Nat.le_of_ble_eq_true rfl⟩) (wd_1 hW v9) rfl hKK hW hS rfl hl.1 rfl (Nat.le_of_ble_eq_true rfl) dX7_countFaults_9 ⟨Nat.zero_le _, Nat.zero_le _⟩ (fun H locs hW hS hm1 hE => ?_)
      refine lv_icmp_ge (tgt := 61) hx hb dX7_countFaults_12 (by decide) (fun k12 => ?_) (fun k12 => ?_)
      · have hf := (op_if hf).1 k12
        refine lv_iload_n hx hb dX7_countFaults_61 rfl (lv_at hl 1 rfl) ?_
        have hf := zr_r hf hr7
        rw [← hf]
        exact z_iret hx hb hr hlocks rfl hW hS hm trivial dX7_countFaults_62
      · have hf := (op_if hf).2 k12
        refine lv_aload_n hx hb dX7_countFaults_15 rfl (lv_at hl 2 rfl) ?_
        refine va_get hx hb hts ni_X7_countFaults_X7 hown hKK.1 (wd_1 hW v_z) 0 rfl rfl 2 (by decide) (hts (.fieldLink RX7 12 "TiltRoute$Table" "bumpers" "Ljava/util/ArrayList;") (List.mem_of_getElem? (i := 1) rfl)) (fun _ h => h) rfl dX7_countFaults_16 ?_
        have v12 : zV S (0, (a_z + 2), 0) = true := vf_8_2 hW v_z
        refine lv_iload_n hx hb dX7_countFaults_19 rfl (lv_at hl 0 rfl) ?_
        obtain ⟨r13, hc14, hf⟩ := op_cl hf
        refine z_callV (As := [.int q3.2]) (rest := []) ⟨hx, hb, hml, hown, hts⟩ (tJ_get l Γ lo S X v12 hc14) (cwV 1 hts gX7_countFaults_Jx4a65c_get_915e3 rfl rfl rfl (by decide +kernel) ⟨Nat.le_of_ble_eq_true rfl, Nat.le_of_ble_eq_true rfl⟩) (wd_1 hW v12) rfl hKK hW hS rfl hl.1 rfl (Nat.le_of_ble_eq_true rfl) dX7_countFaults_20 ⟨Nat.zero_le _, Nat.zero_le _⟩ (fun H locs hW hS hm1 hE => ?_)
        have v15 : zV S (2, a_z, r13) = true := hE
        refine va_castE hx hb hown (hts (.classLink RX7 52 "TiltRoute$Bumper") (List.mem_of_getElem? (i := 2) rfl)) (va_recv (q0 := 0) hKK.1 (wd_1 hW v15) (ci := 2) rfl rfl) dX7_countFaults_23 ?_
        refine lv_astore (lv' := [(4, .ref (lo (2, a_z, r13))), (3, .int q3.2), (2, .int q3.1), (0, .ref (lo (8, a_z, 0))), (1, .int i_1)]) hx hb dX7_countFaults_26 hl (by decide) rfl (fun ls hl => ?_)
        refine lv_iload_n hx hb dX7_countFaults_28 rfl (lv_at hl 4 rfl) ?_
        obtain ⟨j17, ej17, hf⟩ := op_st hf
        have hj17 : ∀ (y16 : Int32) (H : Heap) (locs : List Loc) (ls : Array Slot), lv_has ls 5 [(3, .int q3.2), (0, .ref (lo (8, a_z, 0))), (1, .int i_1), (2, .int y16)] → Wd Γ lo S X H → va_S (zA Γ) s.heap H locs → (∀ c, zV S c = zV S c) → j17 y16 = some r4 → W p l e (headSpec wsX7_countFaults rmX7_countFaults).room s m ([.ref (lo (8, a_z, 0)), .int i_1] : List Value).toArray below meth c H locs 0 0 (MQ below (zQ0 Γ lo S S X (some (.int y)) True) ([.ref (lo (8, a_z, 0)), .int i_1] : List Value).toArray s 0 0 (zA Γ)) (F0 m 55 ls []) := by
          intro y16 H locs ls  hl hW hS hm hf
          rw [ej17] at hf
          obtain ⟨x18, ex18, hf⟩ := op_st hf
          refine lv_iinc (v := x18) (lv' := [(3, .int x18), (0, .ref (lo (8, a_z, 0))), (1, .int i_1), (2, .int y16)]) hx hb dX7_countFaults_55 hl (k := 0) rfl (by rw [ex18]; rfl) (by decide) rfl (fun ls hl => ?_)
          refine lv_goto (tgt := 4) hx hb dX7_countFaults_58 (by decide) ?_
          have hf := zr_l hf hr7
          exact ih6 (y16, x18) H locs ls (lv_sub hl [0, 3, 1, 2] rfl) hW hS hm hf
        obtain ⟨j19, ej19, hf⟩ := op_st hf
        have hj19 : ∀ (u_ : Unit) (H : Heap) (locs : List Loc) (ls : Array Slot), lv_has ls 5 [(3, .int q3.2), (2, .int q3.1), (0, .ref (lo (8, a_z, 0))), (1, .int i_1)] → Wd Γ lo S X H → va_S (zA Γ) s.heap H locs → (∀ c, zV S c = zV S c) → j19 () = some r4 → W p l e (headSpec wsX7_countFaults rmX7_countFaults).room s m ([.ref (lo (8, a_z, 0)), .int i_1] : List Value).toArray below meth c H locs 0 0 (MQ below (zQ0 Γ lo S S X (some (.int y)) True) ([.ref (lo (8, a_z, 0)), .int i_1] : List Value).toArray s 0 0 (zA Γ)) (F0 m 52 ls []) := by
          intro u_ H locs ls  hl hW hS hm hf
          rw [ej19] at hf
          obtain ⟨x20, ex20, hf⟩ := op_st hf
          refine lv_iinc (v := x20) (lv' := [(2, .int x20), (3, .int q3.2), (0, .ref (lo (8, a_z, 0))), (1, .int i_1)]) hx hb dX7_countFaults_52 hl (k := 1) rfl (by rw [ex20]; rfl) (by decide) rfl (fun ls hl => ?_)
          exact hj17 x20 H locs ls  (lv_sub hl [1, 2, 3, 0] rfl) hW hS hm hf
        refine lv_if_ne (tgt := 44) hx hb dX7_countFaults_29 (by decide) (fun k29 => ?_) (fun k29 => ?_)
        · have hf := (op_if hf).2 k29
          refine lv_aload hx hb dX7_countFaults_44 (lv_at hl 0 rfl) ?_
          obtain ⟨r21, hc22, hf⟩ := op_cl hf
          refine z_callV (As := []) (rest := []) ⟨hx, hb, hml, hown, hts⟩ (tX1_isBroken l Γ lo S X v15 hc22) (cwV 0 hts gX7_countFaults_X1_isBroken rfl rfl rfl (by decide +kernel) ⟨Nat.le_of_ble_eq_true rfl, Nat.le_of_ble_eq_true rfl⟩) (wd_1 hW v15) rfl hKK hW hS rfl hl.1 rfl (Nat.le_of_ble_eq_true rfl) dX7_countFaults_46 ⟨Nat.zero_le _, Nat.zero_le _⟩ (fun H locs hW hS hm1 hE => ?_)
          have b23 := hE
          refine lv_if_eq (tgt := 55) hx hb dX7_countFaults_49 (by decide) (fun k49 => ?_) (fun k49 => ?_)
          · have hf := (op_if hf).1 k49
            exact hj17 q3.1 H locs ls  (lv_sub hl [1, 3, 4, 2] rfl) hW hS hm hf
          · have hf := (op_if hf).2 k49
            exact hj19 () H locs ls  (lv_sub hl [1, 2, 3, 4] rfl) hW hS hm hf
        · have hf := (op_if hf).1 k29
          refine lv_aload hx hb dX7_countFaults_32 (lv_at hl 0 rfl) ?_
          refine va_get hx hb hts ni_X7_countFaults_X1 hown hKK.1 (wd_1 hW v15) 0 rfl rfl 6 (by decide) (hts (.fieldLink RX7 58 "TiltRoute$Bumper" "sticking" "I") (List.mem_of_getElem? (i := 3) rfl)) (fun _ h => h) rfl dX7_countFaults_34 ?_
          refine lv_iconst (v := (-1)) hx hb dX7_countFaults_37 (by decide) ?_
          refine lv_icmp_eq (tgt := 55) hx hb dX7_countFaults_38 (by decide) (fun k38 => ?_) (fun k38 => ?_)
          · have hf := (op_if hf).1 k38
            exact hj17 q3.1 H locs ls  (lv_sub hl [1, 3, 4, 2] rfl) hW hS hm hf
          · have hf := (op_if hf).2 k38
            refine lv_goto (tgt := 52) hx hb dX7_countFaults_41 (by decide) ?_
            exact hj19 () H locs ls  (lv_sub hl [1, 2, 3, 4] rfl) hW hS hm hf
  rw [eq30] at hf
  exact hw5 _ (x1, x2) H locs ls (lv_sub hl [0, 1, 2, 3] rfl) hW hS hm hf

theorem ni_X7_needsService_X7 : ∀ w ∈ wsX70, w ∈ wsX7_needsService := by decide +kernel
def fX7_needsService (S : zSt) (a_z : Nat) : Option Int32 :=
st (fun (u_ : Unit) => (some ((0 : Int32)) : Option Int32)) fun j1 =>
if (zI S (8, a_z, 0) 4) = (-1 : Int32) then
st (fun (u_ : Unit) => (some ((1 : Int32)) : Option Int32)) fun j2 =>
if (20 : Int32) ≤ (zI S (8, a_z, 0) 5) then
j2 ()
else
cl (fX7_countFaults S a_z (0 : Int32)) fun r3 =>
if 0 < r3 then
j2 ()
else
cl (fX7_countFaults S a_z (1 : Int32)) fun r5 =>
if r5 ≤ 0 then
j1 ()
else
j2 ()
else
j1 ()
abbrev rmX7_needsService : Room := { frames := 4, cells := 0, slots := 0, locals := 88 }
set_option maxHeartbeats 4000000 in
set_option maxRecDepth 100000 in
theorem tX7_needsService (l : Launch) (Γ : zG) (lo : zId → Nat) (S : zSt) (X : va_W) {a_z : Nat} (v_z : zV S (8, a_z, 0) = true) {y : Int32} (hf : fX7_needsService S a_z = some y) : Met l yX7_needsService wsX7_needsService rmX7_needsService (zP0 Γ lo S X [.ref (lo (8, a_z, 0))]) (zQ0 Γ lo S S X (some (.int y)) (y = 0 ∨ y = 1)) 0 0 (zA Γ) := by
  refine Met.ofW (cc := cX7_needsService) (maxL := 1) (ret := (some .boolean)) (by decide) rfl ?_
  intro p e s m args below meth c s₁ B hml hv
  obtain ⟨rfl, hW, hKK⟩ := hv
  have hx := B.exec
  have hb := B.bytes
  have hr := B.returns
  have hts := atoms_spec (ws := wsX7_needsService) B.pre
  have hown : s.vm.findClass RX7 = some m.cls := findClass_of_methodNamed B.named
  have hlocks := B.notSynchronized
  have hS : va_S (zA Γ) s.heap s.heap [] := va_S.rf
  have hm : ∀ c, zV S c = zV S c := fun _ => rfl
  have hl := lv_entry ([.ref (lo (8, a_z, 0))]) (n := 1) (Nat.le_of_ble_eq_true rfl)
  rw [lg_entry_eq]
  generalize (lg_sl ([.ref (lo (8, a_z, 0))]) ++ List.replicate (1 - (lg_sl ([.ref (lo (8, a_z, 0))])).length) Slot.unset).toArray = ls at hl ⊢
  have hl : lv_has ls 1 [(0, .ref (lo (8, a_z, 0)))] := hl
  obtain ⟨H, hH0⟩ : ∃ H, H = s.heap := ⟨_, rfl⟩
  obtain ⟨locs, hlo0⟩ : ∃ L : List Loc, L = [] := ⟨_, rfl⟩
  have hS : va_S (zA Γ) s.heap H locs := by rw [hH0, hlo0]; exact hS
  have hW : Wd Γ lo S X H := by rw [hH0]; exact hW
  rw [← hH0, ← hlo0]
  unfold fX7_needsService at hf
  refine lv_aload_n hx hb dX7_needsService_0 rfl (lv_at hl 0 rfl) ?_
  refine va_get hx hb hts ni_X7_needsService_X7 hown hKK.1 (wd_1 hW v_z) 0 rfl rfl 4 (by decide) (hts (.fieldLink RX7 25 "TiltRoute$Table" "game" "I") (List.mem_of_getElem? (i := 1) rfl)) (fun _ h => h) rfl dX7_needsService_1 ?_
  refine lv_iconst (v := (-1)) hx hb dX7_needsService_4 (by decide) ?_
  obtain ⟨j1, ej1, hf⟩ := op_st hf
  have hj1 : ∀ (u_ : Unit) (H : Heap) (locs : List Loc) (ls : Array Slot), lv_has ls 1 [] → Wd Γ lo S X H → va_S (zA Γ) s.heap H locs → (∀ c, zV S c = zV S c) → j1 () = some y → W p l e (headSpec wsX7_needsService rmX7_needsService).room s m ([.ref (lo (8, a_z, 0))] : List Value).toArray below meth c H locs 0 0 (MQ below (zQ0 Γ lo S S X (some (.int y)) (y = 0 ∨ y = 1)) ([.ref (lo (8, a_z, 0))] : List Value).toArray s 0 0 (zA Γ)) (F0 m 37 ls []) := by
    intro u_ H locs ls  hl hW hS hm hf
    rw [ej1] at hf
    refine lv_iconst (v := (0)) hx hb dX7_needsService_37 (by decide) ?_
    have hf := Option.some.inj hf
    rw [← hf]
    exact z_iret hx hb hr hlocks (z_bb (Or.inl rfl)) hW hS hm (Or.inl rfl) dX7_needsService_38
  refine lv_icmp_ne (tgt := 37) hx hb dX7_needsService_5 (by decide) (fun k5 => ?_) (fun k5 => ?_)
  · have hf := (op_if hf).2 k5
    exact hj1 () H locs ls  (lv_sub hl [] rfl) hW hS hm hf
  · have hf := (op_if hf).1 k5
    refine lv_aload_n hx hb dX7_needsService_8 rfl (lv_at hl 0 rfl) ?_
    refine va_get hx hb hts ni_X7_needsService_X7 hown hKK.1 (wd_1 hW v_z) 0 rfl rfl 5 (by decide) (hts (.fieldLink RX7 29 "TiltRoute$Table" "box" "I") (List.mem_of_getElem? (i := 2) rfl)) (fun _ h => h) rfl dX7_needsService_9 ?_
    refine lv_bipush (v := (20)) hx hb dX7_needsService_12 (by decide) ?_
    obtain ⟨j2, ej2, hf⟩ := op_st hf
    have hj2 : ∀ (u_ : Unit) (H : Heap) (locs : List Loc) (ls : Array Slot), lv_has ls 1 [] → Wd Γ lo S X H → va_S (zA Γ) s.heap H locs → (∀ c, zV S c = zV S c) → j2 () = some y → W p l e (headSpec wsX7_needsService rmX7_needsService).room s m ([.ref (lo (8, a_z, 0))] : List Value).toArray below meth c H locs 0 0 (MQ below (zQ0 Γ lo S S X (some (.int y)) (y = 0 ∨ y = 1)) ([.ref (lo (8, a_z, 0))] : List Value).toArray s 0 0 (zA Γ)) (F0 m 33 ls []) := by
      intro u_ H locs ls  hl hW hS hm hf
      rw [ej2] at hf
      refine lv_iconst (v := (1)) hx hb dX7_needsService_33 (by decide) ?_
      refine lv_goto (tgt := 38) hx hb dX7_needsService_34 (by decide) ?_
      have hf := Option.some.inj hf
      rw [← hf]
      exact z_iret hx hb hr hlocks (z_bb (Or.inr rfl)) hW hS hm (Or.inr rfl) dX7_needsService_38
    refine lv_icmp_ge (tgt := 33) hx hb dX7_needsService_14 (by decide) (fun k14 => ?_) (fun k14 => ?_)
    · have hf := (op_if hf).1 k14
      exact hj2 () H locs ls  (lv_sub hl [] rfl) hW hS hm hf
    · have hf := (op_if hf).2 k14
      refine lv_aload_n hx hb dX7_needsService_17 rfl (lv_at hl 0 rfl) ?_
      refine lv_iconst (v := (0)) hx hb dX7_needsService_18 (by decide) ?_
      obtain ⟨r3, hc4, hf⟩ := op_cl hf
      refine z_callV (As := [.int (0 : Int32)]) (rest := []) ⟨hx, hb, hml, hown, hts⟩ (tX7_countFaults l Γ lo S X v_z hc4) (cwV 1 hts gX7_needsService_X7_countFaults rfl rfl rfl (by decide +kernel) ⟨Nat.le_of_ble_eq_true rfl, Nat.le_of_ble_eq_true rfl⟩) (wd_1 hW v_z) rfl hKK hW hS rfl hl.1 rfl (Nat.le_of_ble_eq_true rfl) dX7_needsService_19 ⟨Nat.zero_le _, Nat.zero_le _⟩ (fun H locs hW hS hm1 hE => ?_)
      refine lv_if_gt (tgt := 33) hx hb dX7_needsService_22 (by decide) (fun k22 => ?_) (fun k22 => ?_)
      · have hf := (op_if hf).1 k22
        exact hj2 () H locs ls  (lv_sub hl [] rfl) hW hS hm hf
      · have hf := (op_if hf).2 k22
        refine lv_aload_n hx hb dX7_needsService_25 rfl (lv_at hl 0 rfl) ?_
        refine lv_iconst (v := (1)) hx hb dX7_needsService_26 (by decide) ?_
        obtain ⟨r5, hc6, hf⟩ := op_cl hf
        refine z_callV (As := [.int (1 : Int32)]) (rest := []) ⟨hx, hb, hml, hown, hts⟩ (tX7_countFaults l Γ lo S X v_z hc6) (cwV 1 hts gX7_needsService_X7_countFaults rfl rfl rfl (by decide +kernel) ⟨Nat.le_of_ble_eq_true rfl, Nat.le_of_ble_eq_true rfl⟩) (wd_1 hW v_z) rfl hKK hW hS rfl hl.1 rfl (Nat.le_of_ble_eq_true rfl) dX7_needsService_27 ⟨Nat.zero_le _, Nat.zero_le _⟩ (fun H locs hW hS hm1 hE => ?_)
        refine lv_if_le (tgt := 37) hx hb dX7_needsService_30 (by decide) (fun k30 => ?_) (fun k30 => ?_)
        · have hf := (op_if hf).1 k30
          exact hj1 () H locs ls  (lv_sub hl [] rfl) hW hS hm hf
        · have hf := (op_if hf).2 k30
          exact hj2 () H locs ls  (lv_sub hl [] rfl) hW hS hm hf

theorem ni_X7_emptyBox_X7 : ∀ w ∈ wsX70, w ∈ wsX7_emptyBox := by decide +kernel
def fX7_emptyBox (S : zSt) (a_z : Nat) : Option (Int32 × zSt) :=
st (zI S (8, a_z, 0) 5) fun x1 =>
st (pI S (8, a_z, 0) 7 ((zI S (8, a_z, 0) 7) + ((zI S (8, a_z, 0) 6) - (zI S (8, a_z, 0) 5)))) fun S2 =>
st (pI S2 (8, a_z, 0) 6 (0 : Int32)) fun S3 =>
st (pI S3 (8, a_z, 0) 5 (0 : Int32)) fun S4 =>
some ((x1, S4))
abbrev rmX7_emptyBox : Room := { frames := 0, cells := 0, slots := 0, locals := 0 }
set_option maxHeartbeats 4000000 in
set_option maxRecDepth 100000 in
theorem tX7_emptyBox (l : Launch) (Γ : zG) (lo : zId → Nat) (S : zSt) (X : va_W) {a_z : Nat} (v_z : zV S (8, a_z, 0) = true) {y : (Int32 × zSt)} (hf : fX7_emptyBox S a_z = some y) : Met l yX7_emptyBox wsX7_emptyBox rmX7_emptyBox (zP0 Γ lo S X [.ref (lo (8, a_z, 0))]) (zQ0 Γ lo S y.2 X (some (.int y.1)) True) 0 0 (zA Γ) := by
  refine Met.ofW (cc := cX7_emptyBox) (maxL := 2) (ret := (some .int)) (by decide) rfl ?_
  intro p e s m args below meth c s₁ B hml hv
  obtain ⟨rfl, hW, hKK⟩ := hv
  have hx := B.exec
  have hb := B.bytes
  have hr := B.returns
  have hts := atoms_spec (ws := wsX7_emptyBox) B.pre
  have hown : s.vm.findClass RX7 = some m.cls := findClass_of_methodNamed B.named
  have hlocks := B.notSynchronized
  have hS : va_S (zA Γ) s.heap s.heap [] := va_S.rf
  have hm : ∀ c, zV S c = zV S c := fun _ => rfl
  have hl := lv_entry ([.ref (lo (8, a_z, 0))]) (n := 2) (Nat.le_of_ble_eq_true rfl)
  rw [lg_entry_eq]
  generalize (lg_sl ([.ref (lo (8, a_z, 0))]) ++ List.replicate (2 - (lg_sl ([.ref (lo (8, a_z, 0))])).length) Slot.unset).toArray = ls at hl ⊢
  have hl : lv_has ls 2 [(0, .ref (lo (8, a_z, 0)))] := hl
  obtain ⟨H, hH0⟩ : ∃ H, H = s.heap := ⟨_, rfl⟩
  obtain ⟨locs, hlo0⟩ : ∃ L : List Loc, L = [] := ⟨_, rfl⟩
  have hS : va_S (zA Γ) s.heap H locs := by rw [hH0, hlo0]; exact hS
  have hW : Wd Γ lo S X H := by rw [hH0]; exact hW
  rw [← hH0, ← hlo0]
  unfold fX7_emptyBox at hf
  refine lv_aload_n hx hb dX7_emptyBox_0 rfl (lv_at hl 0 rfl) ?_
  refine va_get hx hb hts ni_X7_emptyBox_X7 hown hKK.1 (wd_1 hW v_z) 0 rfl rfl 5 (by decide) (hts (.fieldLink RX7 29 "TiltRoute$Table" "box" "I") (List.mem_of_getElem? (i := 1) rfl)) (fun _ h => h) rfl dX7_emptyBox_1 ?_
  obtain ⟨x1, ex1, hf⟩ := op_st hf
  refine z_istn (lv' := [(1, .int x1), (0, .ref (lo (8, a_z, 0)))]) ex1 hx hb dX7_emptyBox_4 rfl hl (by decide) rfl (fun ls hl => ?_)
  refine lv_aload_n hx hb dX7_emptyBox_5 rfl (lv_at hl 1 rfl) ?_
  refine lv_dup hx hb dX7_emptyBox_6 rfl ?_
  refine va_get hx hb hts ni_X7_emptyBox_X7 hown hKK.1 (wd_1 hW v_z) 0 rfl rfl 7 (by decide) (hts (.fieldLink RX7 35 "TiltRoute$Table" "missing" "I") (List.mem_of_getElem? (i := 2) rfl)) (fun _ h => h) rfl dX7_emptyBox_7 ?_
  refine lv_aload_n hx hb dX7_emptyBox_10 rfl (lv_at hl 1 rfl) ?_
  refine va_get hx hb hts ni_X7_emptyBox_X7 hown hKK.1 (wd_1 hW v_z) 0 rfl rfl 6 (by decide) (hts (.fieldLink RX7 32 "TiltRoute$Table" "brought" "I") (List.mem_of_getElem? (i := 3) rfl)) (fun _ h => h) rfl dX7_emptyBox_11 ?_
  refine lv_aload_n hx hb dX7_emptyBox_14 rfl (lv_at hl 1 rfl) ?_
  refine va_get hx hb hts ni_X7_emptyBox_X7 hown hKK.1 (wd_1 hW v_z) 0 rfl rfl 5 (by decide) (hts (.fieldLink RX7 29 "TiltRoute$Table" "box" "I") (List.mem_of_getElem? (i := 1) rfl)) (fun _ h => h) rfl dX7_emptyBox_15 ?_
  refine lv_isub hx hb dX7_emptyBox_18 ?_
  refine lv_iadd hx hb dX7_emptyBox_19 ?_
  obtain ⟨S2, eS2, hf⟩ := op_st hf
  refine g_put hx hb hts ni_X7_emptyBox_X7 tyX7 tyX7_ok nmX7 hown hKK.1 hW hS v_z rfl rfl 7 (by decide) (hts (.fieldLink RX7 35 "TiltRoute$Table" "missing" "I") (List.mem_of_getElem? (i := 2) rfl)) rfl rfl rfl (show 7 < 8 by decide) rfl dX7_emptyBox_20 eS2 (fun H locs hW hS => ?_)
  have hm : ∀ c, zV S2 c = zV S c := fun c => by rw [eS2]; rfl
  refine lv_aload_n hx hb dX7_emptyBox_23 rfl (lv_at hl 1 rfl) ?_
  refine lv_iconst (v := (0)) hx hb dX7_emptyBox_24 (by decide) ?_
  obtain ⟨S3, eS3, hf⟩ := op_st hf
  refine g_put hx hb hts ni_X7_emptyBox_X7 tyX7 tyX7_ok nmX7 hown hKK.1 hW hS ((hm _).trans v_z) rfl rfl 6 (by decide) (hts (.fieldLink RX7 32 "TiltRoute$Table" "brought" "I") (List.mem_of_getElem? (i := 3) rfl)) rfl rfl rfl (show 6 < 8 by decide) rfl dX7_emptyBox_25 eS3 (fun H locs hW hS => ?_)
  have hm : ∀ c, zV S3 c = zV S c := fun c => by rw [eS3]; exact hm c
  refine lv_aload_n hx hb dX7_emptyBox_28 rfl (lv_at hl 1 rfl) ?_
  refine lv_iconst (v := (0)) hx hb dX7_emptyBox_29 (by decide) ?_
  obtain ⟨S4, eS4, hf⟩ := op_st hf
  refine g_put hx hb hts ni_X7_emptyBox_X7 tyX7 tyX7_ok nmX7 hown hKK.1 hW hS ((hm _).trans v_z) rfl rfl 5 (by decide) (hts (.fieldLink RX7 29 "TiltRoute$Table" "box" "I") (List.mem_of_getElem? (i := 1) rfl)) rfl rfl rfl (show 5 < 8 by decide) rfl dX7_emptyBox_30 eS4 (fun H locs hW hS => ?_)
  have hm : ∀ c, zV S4 c = zV S c := fun c => by rw [eS4]; exact hm c
  refine lv_iload_n hx hb dX7_emptyBox_33 rfl (lv_at hl 0 rfl) ?_
  have hf := Option.some.inj hf
  rw [← hf]
  exact z_iret hx hb hr hlocks rfl hW hS hm trivial dX7_emptyBox_34

theorem ni_X0_isOut_X0 : ∀ w ∈ wsX00, w ∈ wsX0_isOut := by decide +kernel
def fX0_isOut (S : zSt)  : Option Int32 :=
if (zI S (1, 0, 0) 1) ≤ (239 : Int32) then
some ((0 : Int32))
else
some ((1 : Int32))
abbrev rmX0_isOut : Room := { frames := 0, cells := 0, slots := 0, locals := 0 }
set_option maxHeartbeats 4000000 in
set_option maxRecDepth 100000 in
theorem tX0_isOut (l : Launch) (Γ : zG) (lo : zId → Nat) (S : zSt) (X : va_W)  (v_z : zV S (1, 0, 0) = true) {y : Int32} (hf : fX0_isOut S  = some y) : Met l yX0_isOut wsX0_isOut rmX0_isOut (zP0 Γ lo S X [.ref (lo (1, 0, 0))]) (zQ0 Γ lo S S X (some (.int y)) (y = 0 ∨ y = 1)) 0 0 (zA Γ) := by
  refine Met.ofW (cc := cX0_isOut) (maxL := 1) (ret := (some .boolean)) (by decide) rfl ?_
  intro p e s m args below meth c s₁ B hml hv
  obtain ⟨rfl, hW, hKK⟩ := hv
  have hx := B.exec
  have hb := B.bytes
  have hr := B.returns
  have hts := atoms_spec (ws := wsX0_isOut) B.pre
  have hown : s.vm.findClass RX0 = some m.cls := findClass_of_methodNamed B.named
  have hlocks := B.notSynchronized
  have hS : va_S (zA Γ) s.heap s.heap [] := va_S.rf
  have hm : ∀ c, zV S c = zV S c := fun _ => rfl
  have hl := lv_entry ([.ref (lo (1, 0, 0))]) (n := 1) (Nat.le_of_ble_eq_true rfl)
  rw [lg_entry_eq]
  generalize (lg_sl ([.ref (lo (1, 0, 0))]) ++ List.replicate (1 - (lg_sl ([.ref (lo (1, 0, 0))])).length) Slot.unset).toArray = ls at hl ⊢
  have hl : lv_has ls 1 [(0, .ref (lo (1, 0, 0)))] := hl
  obtain ⟨H, hH0⟩ : ∃ H, H = s.heap := ⟨_, rfl⟩
  obtain ⟨locs, hlo0⟩ : ∃ L : List Loc, L = [] := ⟨_, rfl⟩
  have hS : va_S (zA Γ) s.heap H locs := by rw [hH0, hlo0]; exact hS
  have hW : Wd Γ lo S X H := by rw [hH0]; exact hW
  rw [← hH0, ← hlo0]
  unfold fX0_isOut at hf
  refine lv_aload_n hx hb dX0_isOut_0 rfl (lv_at hl 0 rfl) ?_
  refine va_get hx hb hts ni_X0_isOut_X0 hown hKK.1 (wd_1 hW v_z) 0 rfl rfl 1 (by decide) (hts (.fieldLink RX0 9 "TiltRoute$Ball" "y" "I") (List.mem_of_getElem? (i := 1) rfl)) (fun _ h => h) rfl dX0_isOut_1 ?_
  refine lv_sipush (v := (239)) hx hb dX0_isOut_4 (by decide) ?_
  refine lv_icmp_le (tgt := 14) hx hb dX0_isOut_7 (by decide) (fun k7 => ?_) (fun k7 => ?_)
  · have hf := (op_if hf).1 k7
    refine lv_iconst (v := (0)) hx hb dX0_isOut_14 (by decide) ?_
    have hf := Option.some.inj hf
    rw [← hf]
    exact z_iret hx hb hr hlocks (z_bb (Or.inl rfl)) hW hS hm (Or.inl rfl) dX0_isOut_15
  · have hf := (op_if hf).2 k7
    refine lv_iconst (v := (1)) hx hb dX0_isOut_10 (by decide) ?_
    refine lv_goto (tgt := 15) hx hb dX0_isOut_11 (by decide) ?_
    have hf := Option.some.inj hf
    rw [← hf]
    exact z_iret hx hb hr hlocks (z_bb (Or.inr rfl)) hW hS hm (Or.inr rfl) dX0_isOut_15

theorem ni_X0_fall_X0 : ∀ w ∈ wsX00, w ∈ wsX0_fall := by decide +kernel
def fX0_fall (S : zSt)  : Option zSt :=
st (pI S (1, 0, 0) 3 (if ((zI S (1, 0, 0) 3) + (2 : Int32)) < (30 : Int32) then ((zI S (1, 0, 0) 3) + (2 : Int32)) else (30 : Int32))) fun S1 =>
some (S1)
abbrev rmX0_fall : Room := { frames := 1, cells := 0, slots := 0, locals := 21 }
set_option maxHeartbeats 4000000 in
set_option maxRecDepth 100000 in
theorem tX0_fall (l : Launch) (Γ : zG) (lo : zId → Nat) (S : zSt) (X : va_W)  (v_z : zV S (1, 0, 0) = true) {y : zSt} (hf : fX0_fall S  = some y) : Met l yX0_fall wsX0_fall rmX0_fall (zP0 Γ lo S X [.ref (lo (1, 0, 0))]) (zQ0 Γ lo S y X none True) 0 0 (zA Γ) := by
  refine Met.ofW (cc := cX0_fall) (maxL := 1) (ret := none) (by decide) rfl ?_
  intro p e s m args below meth c s₁ B hml hv
  obtain ⟨rfl, hW, hKK⟩ := hv
  have hx := B.exec
  have hb := B.bytes
  have hr := B.returns
  have hts := atoms_spec (ws := wsX0_fall) B.pre
  have hown : s.vm.findClass RX0 = some m.cls := findClass_of_methodNamed B.named
  have hlocks := B.notSynchronized
  have hS : va_S (zA Γ) s.heap s.heap [] := va_S.rf
  have hm : ∀ c, zV S c = zV S c := fun _ => rfl
  have hl := lv_entry ([.ref (lo (1, 0, 0))]) (n := 1) (Nat.le_of_ble_eq_true rfl)
  rw [lg_entry_eq]
  generalize (lg_sl ([.ref (lo (1, 0, 0))]) ++ List.replicate (1 - (lg_sl ([.ref (lo (1, 0, 0))])).length) Slot.unset).toArray = ls at hl ⊢
  have hl : lv_has ls 1 [(0, .ref (lo (1, 0, 0)))] := hl
  obtain ⟨H, hH0⟩ : ∃ H, H = s.heap := ⟨_, rfl⟩
  obtain ⟨locs, hlo0⟩ : ∃ L : List Loc, L = [] := ⟨_, rfl⟩
  have hS : va_S (zA Γ) s.heap H locs := by rw [hH0, hlo0]; exact hS
  have hW : Wd Γ lo S X H := by rw [hH0]; exact hW
  rw [← hH0, ← hlo0]
  unfold fX0_fall at hf
  refine lv_aload_n hx hb dX0_fall_0 rfl (lv_at hl 0 rfl) ?_
  refine lv_bipush (v := (30)) hx hb dX0_fall_1 (by decide) ?_
  refine lv_aload_n hx hb dX0_fall_3 rfl (lv_at hl 0 rfl) ?_
  refine va_get hx hb hts ni_X0_fall_X0 hown hKK.1 (wd_1 hW v_z) 0 rfl rfl 3 (by decide) (hts (.fieldLink RX0 21 "TiltRoute$Ball" "down" "I") (List.mem_of_getElem? (i := 1) rfl)) (fun _ h => h) rfl dX0_fall_4 ?_
  refine lv_iconst (v := (2)) hx hb dX0_fall_7 (by decide) ?_
  refine lv_iadd hx hb dX0_fall_8 ?_
  refine va_mmin hx hb (hml.trans hl.1.symm) hown (hts (.methodLink RX0 24 Lib.Math.min.name) (List.mem_of_getElem? (i := 2) rfl)) (hts (.static Lib.Math.min.name) (List.mem_of_getElem? (i := 3) rfl)) (hts (.initialized "java/lang/Math") (List.mem_of_getElem? (i := 4) rfl)) (hts (.code Lib.Math.min.name Lib.Math.min.code 2 (some .int)) (List.mem_of_getElem? (i := 5) rfl)) (by decide) (Nat.le_of_ble_eq_true rfl) (Nat.zero_le _) (Nat.zero_le _) dX0_fall_9 ?_
  obtain ⟨S1, eS1, hf⟩ := op_st hf
  refine g_put hx hb hts ni_X0_fall_X0 tyX0 tyX0_ok nmX0 hown hKK.1 hW hS v_z rfl rfl 3 (by decide) (hts (.fieldLink RX0 21 "TiltRoute$Ball" "down" "I") (List.mem_of_getElem? (i := 1) rfl)) rfl rfl rfl (show 3 < 4 by decide) rfl dX0_fall_12 eS1 (fun H locs hW hS => ?_)
  have hm : ∀ c, zV S1 c = zV S c := fun c => by rw [eS1]; rfl
  have hf := Option.some.inj hf
  rw [← hf]
  exact z_vret hx hb hr hlocks hW hS hm trivial dX0_fall_15

theorem ni_X0_moveAcross_X0 : ∀ w ∈ wsX00, w ∈ wsX0_moveAcross := by decide +kernel
theorem ni_X0_moveAcross_X7 : ∀ w ∈ wsX70, w ∈ wsX0_moveAcross := by decide +kernel
def fX0_moveAcross (S : zSt) (a_1 : Nat) : Option (Int32 × zSt) :=
st (zI S (1, 0, 0) 0) fun x1 =>
st (pI S (1, 0, 0) 0 ((zI S (1, 0, 0) 0) + (zI S (1, 0, 0) 2))) fun S2 =>
st (fun (S3 : zSt) => (cl (fX7_bumperOver S3 a_1 (zI S3 (1, 0, 0) 0) (zI S3 (1, 0, 0) 1)) fun r5 =>
st r5 fun x7 =>
if x7 < 0 then
some ((x7, S3))
else
cl (fJ_size S3 (a_1 + 2)) fun r9 =>
if r9 ≤ x7 then
some ((x7, S3))
else
st (pI S3 (1, 0, 0) 0 x1) fun S11 =>
cl (fJ_get S11 (a_1 + 2) x7) fun r13 =>
cl (fX1_speedBehindBump S11 a_1 r13 (zI S11 (1, 0, 0) 2)) fun r16 =>
st (pI S11 (1, 0, 0) 2 r16) fun S18 =>
some ((x7, S18)) : Option (Int32 × zSt))) fun j4 =>
st (fun (u_ : Unit) => (st (fun (y20 : Int32) => (st (pI S2 (1, 0, 0) 0 y20) fun S22 =>
st (pI S22 (1, 0, 0) 2 (-(zI S22 (1, 0, 0) 2))) fun S23 =>
j4 S23 : Option (Int32 × zSt))) fun j21 =>
if 0 ≤ (zI S2 (1, 0, 0) 0) then
j21 ((318 : Int32) - (zI S2 (1, 0, 0) 0))
else
j21 (-(zI S2 (1, 0, 0) 0)) : Option (Int32 × zSt))) fun j19 =>
if (zI S2 (1, 0, 0) 0) < 0 then
j19 ()
else
if (zI S2 (1, 0, 0) 0) ≤ (159 : Int32) then
j4 S2
else
j19 ()
abbrev rmX0_moveAcross : Room := { frames := 4, cells := 0, slots := 0, locals := 87 }
set_option maxHeartbeats 4000000 in
set_option maxRecDepth 100000 in
theorem tX0_moveAcross (l : Launch) (Γ : zG) (lo : zId → Nat) (S : zSt) (X : va_W) {a_1 : Nat} (v_z : zV S (1, 0, 0) = true) (v_1 : zV S (8, a_1, 0) = true) {y : (Int32 × zSt)} (hf : fX0_moveAcross S a_1 = some y) : Met l yX0_moveAcross wsX0_moveAcross rmX0_moveAcross (zP0 Γ lo S X [.ref (lo (1, 0, 0)), .ref (lo (8, a_1, 0))]) (zQ0 Γ lo S y.2 X (some (.int y.1)) True) 0 0 (zA Γ) := by
  refine Met.ofW (cc := cX0_moveAcross) (maxL := 4) (ret := (some .int)) (by decide) rfl ?_
  intro p e s m args below meth c s₁ B hml hv
  obtain ⟨rfl, hW, hKK⟩ := hv
  have hx := B.exec
  have hb := B.bytes
  have hr := B.returns
  have hts := atoms_spec (ws := wsX0_moveAcross) B.pre
  have hown : s.vm.findClass RX0 = some m.cls := findClass_of_methodNamed B.named
  have hlocks := B.notSynchronized
  have hS : va_S (zA Γ) s.heap s.heap [] := va_S.rf
  have hm : ∀ c, zV S c = zV S c := fun _ => rfl
  have hl := lv_entry ([.ref (lo (1, 0, 0)), .ref (lo (8, a_1, 0))]) (n := 4) (Nat.le_of_ble_eq_true rfl)
  rw [lg_entry_eq]
  generalize (lg_sl ([.ref (lo (1, 0, 0)), .ref (lo (8, a_1, 0))]) ++ List.replicate (4 - (lg_sl ([.ref (lo (1, 0, 0)), .ref (lo (8, a_1, 0))])).length) Slot.unset).toArray = ls at hl ⊢
  have hl : lv_has ls 4 [(0, .ref (lo (1, 0, 0))), (1, .ref (lo (8, a_1, 0)))] := hl
  obtain ⟨H, hH0⟩ : ∃ H, H = s.heap := ⟨_, rfl⟩
  obtain ⟨locs, hlo0⟩ : ∃ L : List Loc, L = [] := ⟨_, rfl⟩
  have hS : va_S (zA Γ) s.heap H locs := by rw [hH0, hlo0]; exact hS
  have hW : Wd Γ lo S X H := by rw [hH0]; exact hW
  rw [← hH0, ← hlo0]
  unfold fX0_moveAcross at hf
  refine lv_aload_n hx hb dX0_moveAcross_0 rfl (lv_at hl 0 rfl) ?_
  refine va_get hx hb hts ni_X0_moveAcross_X0 hown hKK.1 (wd_1 hW v_z) 0 rfl rfl 0 (by decide) (hts (.fieldLink RX0 15 "TiltRoute$Ball" "x" "I") (List.mem_of_getElem? (i := 1) rfl)) (fun _ h => h) rfl dX0_moveAcross_1 ?_
  obtain ⟨x1, ex1, hf⟩ := op_st hf
  refine z_istn (lv' := [(2, .int x1), (0, .ref (lo (1, 0, 0))), (1, .ref (lo (8, a_1, 0)))]) ex1 hx hb dX0_moveAcross_4 rfl hl (by decide) rfl (fun ls hl => ?_)
  refine lv_aload_n hx hb dX0_moveAcross_5 rfl (lv_at hl 1 rfl) ?_
  refine lv_dup hx hb dX0_moveAcross_6 rfl ?_
  refine va_get hx hb hts ni_X0_moveAcross_X0 hown hKK.1 (wd_1 hW v_z) 0 rfl rfl 0 (by decide) (hts (.fieldLink RX0 15 "TiltRoute$Ball" "x" "I") (List.mem_of_getElem? (i := 1) rfl)) (fun _ h => h) rfl dX0_moveAcross_7 ?_
  refine lv_aload_n hx hb dX0_moveAcross_10 rfl (lv_at hl 1 rfl) ?_
  refine va_get hx hb hts ni_X0_moveAcross_X0 hown hKK.1 (wd_1 hW v_z) 0 rfl rfl 2 (by decide) (hts (.fieldLink RX0 18 "TiltRoute$Ball" "right" "I") (List.mem_of_getElem? (i := 2) rfl)) (fun _ h => h) rfl dX0_moveAcross_11 ?_
  refine lv_iadd hx hb dX0_moveAcross_14 ?_
  obtain ⟨S2, eS2, hf⟩ := op_st hf
  refine g_put hx hb hts ni_X0_moveAcross_X0 tyX0 tyX0_ok nmX0 hown hKK.1 hW hS v_z rfl rfl 0 (by decide) (hts (.fieldLink RX0 15 "TiltRoute$Ball" "x" "I") (List.mem_of_getElem? (i := 1) rfl)) rfl rfl rfl (show 0 < 4 by decide) rfl dX0_moveAcross_15 eS2 (fun H locs hW hS => ?_)
  have hm : ∀ c, zV S2 c = zV S c := fun c => by rw [eS2]; rfl
  refine lv_aload_n hx hb dX0_moveAcross_18 rfl (lv_at hl 1 rfl) ?_
  refine va_get hx hb hts ni_X0_moveAcross_X0 hown hKK.1 (wd_1 hW ((hm _).trans v_z)) 0 rfl rfl 0 (by decide) (hts (.fieldLink RX0 15 "TiltRoute$Ball" "x" "I") (List.mem_of_getElem? (i := 1) rfl)) (fun _ h => h) rfl dX0_moveAcross_19 ?_
  obtain ⟨j4, ej4, hf⟩ := op_st hf
  have hj4 : ∀ (S3 : zSt) (H : Heap) (locs : List Loc) (ls : Array Slot), lv_has ls 4 [(2, .int x1), (0, .ref (lo (1, 0, 0))), (1, .ref (lo (8, a_1, 0)))] → Wd Γ lo S3 X H → va_S (zA Γ) s.heap H locs → (∀ c, zV S3 c = zV S c) → j4 S3 = some y → W p l e (headSpec wsX0_moveAcross rmX0_moveAcross).room s m ([.ref (lo (1, 0, 0)), .ref (lo (8, a_1, 0))] : List Value).toArray below meth c H locs 0 0 (MQ below (zQ0 Γ lo S y.2 X (some (.int y.1)) True) ([.ref (lo (1, 0, 0)), .ref (lo (8, a_1, 0))] : List Value).toArray s 0 0 (zA Γ)) (F0 m 71 ls []) := by
    intro S3 H locs ls  hl hW hS hm hf
    rw [ej4] at hf
    refine lv_aload_n hx hb dX0_moveAcross_71 rfl (lv_at hl 2 rfl) ?_
    refine lv_aload_n hx hb dX0_moveAcross_72 rfl (lv_at hl 1 rfl) ?_
    refine va_get hx hb hts ni_X0_moveAcross_X0 hown hKK.1 (wd_1 hW ((hm _).trans v_z)) 0 rfl rfl 0 (by decide) (hts (.fieldLink RX0 15 "TiltRoute$Ball" "x" "I") (List.mem_of_getElem? (i := 1) rfl)) (fun _ h => h) rfl dX0_moveAcross_73 ?_
    refine lv_aload_n hx hb dX0_moveAcross_76 rfl (lv_at hl 1 rfl) ?_
    refine va_get hx hb hts ni_X0_moveAcross_X0 hown hKK.1 (wd_1 hW ((hm _).trans v_z)) 0 rfl rfl 1 (by decide) (hts (.fieldLink RX0 9 "TiltRoute$Ball" "y" "I") (List.mem_of_getElem? (i := 3) rfl)) (fun _ h => h) rfl dX0_moveAcross_77 ?_
    obtain ⟨r5, hc6, hf⟩ := op_cl hf
    refine z_callV (As := [.int (zI S3 (1, 0, 0) 0), .int (zI S3 (1, 0, 0) 1)]) (rest := []) ⟨hx, hb, hml, hown, hts⟩ (tX7_bumperOver l Γ lo S3 X ((hm _).trans v_1) hc6) (cwV 2 hts gX0_moveAcross_X7_bumperOver rfl rfl rfl (by decide +kernel) ⟨Nat.le_of_ble_eq_true rfl, Nat.le_of_ble_eq_true rfl⟩) (wd_1 hW ((hm _).trans v_1)) rfl hKK hW hS rfl hl.1 rfl (Nat.le_of_ble_eq_true rfl) dX0_moveAcross_80 ⟨Nat.zero_le _, Nat.zero_le _⟩ (fun H locs hW hS hm1 hE => ?_)
    obtain ⟨x7, ex7, hf⟩ := op_st hf
    refine z_istn (lv' := [(3, .int x7), (2, .int x1), (0, .ref (lo (1, 0, 0))), (1, .ref (lo (8, a_1, 0)))]) ex7 hx hb dX0_moveAcross_83 rfl hl (by decide) rfl (fun ls hl => ?_)
    refine lv_iload_n hx hb dX0_moveAcross_84 rfl (lv_at hl 0 rfl) ?_
    refine lv_if_lt (tgt := 126) hx hb dX0_moveAcross_85 (by decide) (fun k85 => ?_) (fun k85 => ?_)
    · have hf := (op_if hf).1 k85
      refine lv_iload_n hx hb dX0_moveAcross_126 rfl (lv_at hl 0 rfl) ?_
      have hf := Option.some.inj hf
      rw [← hf]
      exact z_iret hx hb hr hlocks rfl hW hS hm trivial dX0_moveAcross_127
    · have hf := (op_if hf).2 k85
      refine lv_iload_n hx hb dX0_moveAcross_88 rfl (lv_at hl 0 rfl) ?_
      refine lv_aload_n hx hb dX0_moveAcross_89 rfl (lv_at hl 3 rfl) ?_
      refine va_get hx hb hts ni_X0_moveAcross_X7 hown hKK.1 (wd_1 hW ((hm _).trans v_1)) 0 rfl rfl 2 (by decide) (hts (.fieldLink RX0 35 "TiltRoute$Table" "bumpers" "Ljava/util/ArrayList;") (List.mem_of_getElem? (i := 4) rfl)) (fun _ h => h) rfl dX0_moveAcross_90 ?_
      have v8 : zV S (0, (a_1 + 2), 0) = true := (hm _).symm.trans (vf_8_2 hW ((hm _).trans v_1))
      obtain ⟨r9, hc10, hf⟩ := op_cl hf
      refine z_callV (As := []) (rest := [.int x7]) ⟨hx, hb, hml, hown, hts⟩ (tJ_size l Γ lo S3 X ((hm _).trans v8) hc10) (cwV 0 hts gX0_moveAcross_Jx4a65c_size_8abf5 rfl rfl rfl (by decide +kernel) ⟨Nat.le_of_ble_eq_true rfl, Nat.le_of_ble_eq_true rfl⟩) (wd_1 hW ((hm _).trans v8)) rfl hKK hW hS rfl hl.1 rfl (Nat.le_of_ble_eq_true rfl) dX0_moveAcross_93 ⟨Nat.zero_le _, Nat.zero_le _⟩ (fun H locs hW hS hm1 hE => ?_)
      refine lv_icmp_ge (tgt := 126) hx hb dX0_moveAcross_96 (by decide) (fun k96 => ?_) (fun k96 => ?_)
      · have hf := (op_if hf).1 k96
        refine lv_iload_n hx hb dX0_moveAcross_126 rfl (lv_at hl 0 rfl) ?_
        have hf := Option.some.inj hf
        rw [← hf]
        exact z_iret hx hb hr hlocks rfl hW hS hm trivial dX0_moveAcross_127
      · have hf := (op_if hf).2 k96
        refine lv_aload_n hx hb dX0_moveAcross_99 rfl (lv_at hl 2 rfl) ?_
        refine lv_iload_n hx hb dX0_moveAcross_100 rfl (lv_at hl 1 rfl) ?_
        obtain ⟨S11, eS11, hf⟩ := op_st hf
        refine g_put hx hb hts ni_X0_moveAcross_X0 tyX0 tyX0_ok nmX0 hown hKK.1 hW hS ((hm _).trans v_z) rfl rfl 0 (by decide) (hts (.fieldLink RX0 15 "TiltRoute$Ball" "x" "I") (List.mem_of_getElem? (i := 1) rfl)) rfl rfl rfl (show 0 < 4 by decide) rfl dX0_moveAcross_101 eS11 (fun H locs hW hS => ?_)
        have hm : ∀ c, zV S11 c = zV S c := fun c => by rw [eS11]; exact hm c
        refine lv_aload_n hx hb dX0_moveAcross_104 rfl (lv_at hl 2 rfl) ?_
        refine lv_aload_n hx hb dX0_moveAcross_105 rfl (lv_at hl 3 rfl) ?_
        refine va_get hx hb hts ni_X0_moveAcross_X7 hown hKK.1 (wd_1 hW ((hm _).trans v_1)) 0 rfl rfl 2 (by decide) (hts (.fieldLink RX0 35 "TiltRoute$Table" "bumpers" "Ljava/util/ArrayList;") (List.mem_of_getElem? (i := 4) rfl)) (fun _ h => h) rfl dX0_moveAcross_106 ?_
        have v12 : zV S (0, (a_1 + 2), 0) = true := (hm _).symm.trans (vf_8_2 hW ((hm _).trans v_1))
        refine lv_iload_n hx hb dX0_moveAcross_109 rfl (lv_at hl 0 rfl) ?_
        obtain ⟨r13, hc14, hf⟩ := op_cl hf
        refine z_callV (As := [.int x7]) (rest := [.ref (lo (1, 0, 0))]) ⟨hx, hb, hml, hown, hts⟩ (tJ_get l Γ lo S11 X ((hm _).trans v12) hc14) (cwV 1 hts gX0_moveAcross_Jx4a65c_get_915e3 rfl rfl rfl (by decide +kernel) ⟨Nat.le_of_ble_eq_true rfl, Nat.le_of_ble_eq_true rfl⟩) (wd_1 hW ((hm _).trans v12)) rfl hKK hW hS rfl hl.1 rfl (Nat.le_of_ble_eq_true rfl) dX0_moveAcross_110 ⟨Nat.zero_le _, Nat.zero_le _⟩ (fun H locs hW hS hm1 hE => ?_)
        have v15 : zV S (2, a_1, r13) = true := (hm _).symm.trans hE
        refine va_castE hx hb hown (hts (.classLink RX0 49 "TiltRoute$Bumper") (List.mem_of_getElem? (i := 5) rfl)) (va_recv (q0 := 0) hKK.1 (wd_1 hW ((hm _).trans v15)) (ci := 2) rfl rfl) dX0_moveAcross_113 ?_
        refine lv_aload_n hx hb dX0_moveAcross_116 rfl (lv_at hl 2 rfl) ?_
        refine va_get hx hb hts ni_X0_moveAcross_X0 hown hKK.1 (wd_1 hW ((hm _).trans v_z)) 0 rfl rfl 2 (by decide) (hts (.fieldLink RX0 18 "TiltRoute$Ball" "right" "I") (List.mem_of_getElem? (i := 2) rfl)) (fun _ h => h) rfl dX0_moveAcross_117 ?_
        obtain ⟨r16, hc17, hf⟩ := op_cl hf
        refine z_callV (As := [.int (zI S11 (1, 0, 0) 2)]) (rest := [.ref (lo (1, 0, 0))]) ⟨hx, hb, hml, hown, hts⟩ (tX1_speedBehindBump l Γ lo S11 X ((hm _).trans v15) hc17) (cwV 1 hts gX0_moveAcross_X1_speedBehindBump rfl rfl rfl (by decide +kernel) ⟨Nat.le_of_ble_eq_true rfl, Nat.le_of_ble_eq_true rfl⟩) (wd_1 hW ((hm _).trans v15)) rfl hKK hW hS rfl hl.1 rfl (Nat.le_of_ble_eq_true rfl) dX0_moveAcross_120 ⟨Nat.zero_le _, Nat.zero_le _⟩ (fun H locs hW hS hm1 hE => ?_)
        obtain ⟨S18, eS18, hf⟩ := op_st hf
        refine g_put hx hb hts ni_X0_moveAcross_X0 tyX0 tyX0_ok nmX0 hown hKK.1 hW hS ((hm _).trans v_z) rfl rfl 2 (by decide) (hts (.fieldLink RX0 18 "TiltRoute$Ball" "right" "I") (List.mem_of_getElem? (i := 2) rfl)) rfl rfl rfl (show 2 < 4 by decide) rfl dX0_moveAcross_123 eS18 (fun H locs hW hS => ?_)
        have hm : ∀ c, zV S18 c = zV S c := fun c => by rw [eS18]; exact hm c
        refine lv_iload_n hx hb dX0_moveAcross_126 rfl (lv_at hl 0 rfl) ?_
        have hf := Option.some.inj hf
        rw [← hf]
        exact z_iret hx hb hr hlocks rfl hW hS hm trivial dX0_moveAcross_127
  obtain ⟨j19, ej19, hf⟩ := op_st hf
  have hj19 : ∀ (u_ : Unit) (H : Heap) (locs : List Loc) (ls : Array Slot), lv_has ls 4 [(2, .int x1), (0, .ref (lo (1, 0, 0))), (1, .ref (lo (8, a_1, 0)))] → Wd Γ lo S2 X H → va_S (zA Γ) s.heap H locs → (∀ c, zV S2 c = zV S c) → j19 () = some y → W p l e (headSpec wsX0_moveAcross rmX0_moveAcross).room s m ([.ref (lo (1, 0, 0)), .ref (lo (8, a_1, 0))] : List Value).toArray below meth c H locs 0 0 (MQ below (zQ0 Γ lo S y.2 X (some (.int y.1)) True) ([.ref (lo (1, 0, 0)), .ref (lo (8, a_1, 0))] : List Value).toArray s 0 0 (zA Γ)) (F0 m 35 ls []) := by
    intro u_ H locs ls  hl hW hS hm hf
    rw [ej19] at hf
    refine lv_aload_n hx hb dX0_moveAcross_35 rfl (lv_at hl 1 rfl) ?_
    refine lv_aload_n hx hb dX0_moveAcross_36 rfl (lv_at hl 1 rfl) ?_
    refine va_get hx hb hts ni_X0_moveAcross_X0 hown hKK.1 (wd_1 hW ((hm _).trans v_z)) 0 rfl rfl 0 (by decide) (hts (.fieldLink RX0 15 "TiltRoute$Ball" "x" "I") (List.mem_of_getElem? (i := 1) rfl)) (fun _ h => h) rfl dX0_moveAcross_37 ?_
    obtain ⟨j21, ej21, hf⟩ := op_st hf
    have hj21 : ∀ (y20 : Int32) (H : Heap) (locs : List Loc) (ls : Array Slot), lv_has ls 4 [(2, .int x1), (0, .ref (lo (1, 0, 0))), (1, .ref (lo (8, a_1, 0)))] → Wd Γ lo S2 X H → va_S (zA Γ) s.heap H locs → (∀ c, zV S2 c = zV S c) → j21 y20 = some y → W p l e (headSpec wsX0_moveAcross rmX0_moveAcross).room s m ([.ref (lo (1, 0, 0)), .ref (lo (8, a_1, 0))] : List Value).toArray below meth c H locs 0 0 (MQ below (zQ0 Γ lo S y.2 X (some (.int y.1)) True) ([.ref (lo (1, 0, 0)), .ref (lo (8, a_1, 0))] : List Value).toArray s 0 0 (zA Γ)) (F0 m 59 ls [.int y20, .ref (lo (1, 0, 0))]) := by
      intro y20 H locs ls  hl hW hS hm hf
      rw [ej21] at hf
      obtain ⟨S22, eS22, hf⟩ := op_st hf
      refine g_put hx hb hts ni_X0_moveAcross_X0 tyX0 tyX0_ok nmX0 hown hKK.1 hW hS ((hm _).trans v_z) rfl rfl 0 (by decide) (hts (.fieldLink RX0 15 "TiltRoute$Ball" "x" "I") (List.mem_of_getElem? (i := 1) rfl)) rfl rfl rfl (show 0 < 4 by decide) rfl dX0_moveAcross_59 eS22 (fun H locs hW hS => ?_)
      have hm : ∀ c, zV S22 c = zV S c := fun c => by rw [eS22]; exact hm c
      refine lv_aload_n hx hb dX0_moveAcross_62 rfl (lv_at hl 1 rfl) ?_
      refine lv_aload_n hx hb dX0_moveAcross_63 rfl (lv_at hl 1 rfl) ?_
      refine va_get hx hb hts ni_X0_moveAcross_X0 hown hKK.1 (wd_1 hW ((hm _).trans v_z)) 0 rfl rfl 2 (by decide) (hts (.fieldLink RX0 18 "TiltRoute$Ball" "right" "I") (List.mem_of_getElem? (i := 2) rfl)) (fun _ h => h) rfl dX0_moveAcross_64 ?_
      refine lv_ineg hx hb dX0_moveAcross_67 ?_
      obtain ⟨S23, eS23, hf⟩ := op_st hf
      refine g_put hx hb hts ni_X0_moveAcross_X0 tyX0 tyX0_ok nmX0 hown hKK.1 hW hS ((hm _).trans v_z) rfl rfl 2 (by decide) (hts (.fieldLink RX0 18 "TiltRoute$Ball" "right" "I") (List.mem_of_getElem? (i := 2) rfl)) rfl rfl rfl (show 2 < 4 by decide) rfl dX0_moveAcross_68 eS23 (fun H locs hW hS => ?_)
      have hm : ∀ c, zV S23 c = zV S c := fun c => by rw [eS23]; exact hm c
      exact hj4 S23 H locs ls  (lv_sub hl [0, 1, 2] rfl) hW hS hm hf
    refine lv_if_ge (tgt := 51) hx hb dX0_moveAcross_40 (by decide) (fun k40 => ?_) (fun k40 => ?_)
    · have hf := (op_if hf).1 k40
      refine lv_sipush (v := (318)) hx hb dX0_moveAcross_51 (by decide) ?_
      refine lv_aload_n hx hb dX0_moveAcross_54 rfl (lv_at hl 1 rfl) ?_
      refine va_get hx hb hts ni_X0_moveAcross_X0 hown hKK.1 (wd_1 hW ((hm _).trans v_z)) 0 rfl rfl 0 (by decide) (hts (.fieldLink RX0 15 "TiltRoute$Ball" "x" "I") (List.mem_of_getElem? (i := 1) rfl)) (fun _ h => h) rfl dX0_moveAcross_55 ?_
      refine lv_isub hx hb dX0_moveAcross_58 ?_
      exact hj21 ((318 : Int32) - (zI S2 (1, 0, 0) 0)) H locs ls  (lv_sub hl [0, 1, 2] rfl) hW hS hm hf
    · have hf := (op_if hf).2 k40
      refine lv_aload_n hx hb dX0_moveAcross_43 rfl (lv_at hl 1 rfl) ?_
      refine va_get hx hb hts ni_X0_moveAcross_X0 hown hKK.1 (wd_1 hW ((hm _).trans v_z)) 0 rfl rfl 0 (by decide) (hts (.fieldLink RX0 15 "TiltRoute$Ball" "x" "I") (List.mem_of_getElem? (i := 1) rfl)) (fun _ h => h) rfl dX0_moveAcross_44 ?_
      refine lv_ineg hx hb dX0_moveAcross_47 ?_
      refine lv_goto (tgt := 59) hx hb dX0_moveAcross_48 (by decide) ?_
      exact hj21 (-(zI S2 (1, 0, 0) 0)) H locs ls  (lv_sub hl [0, 1, 2] rfl) hW hS hm hf
  refine lv_if_lt (tgt := 35) hx hb dX0_moveAcross_22 (by decide) (fun k22 => ?_) (fun k22 => ?_)
  · have hf := (op_if hf).1 k22
    exact hj19 () H locs ls  (lv_sub hl [0, 1, 2] rfl) hW hS hm hf
  · have hf := (op_if hf).2 k22
    refine lv_aload_n hx hb dX0_moveAcross_25 rfl (lv_at hl 1 rfl) ?_
    refine va_get hx hb hts ni_X0_moveAcross_X0 hown hKK.1 (wd_1 hW ((hm _).trans v_z)) 0 rfl rfl 0 (by decide) (hts (.fieldLink RX0 15 "TiltRoute$Ball" "x" "I") (List.mem_of_getElem? (i := 1) rfl)) (fun _ h => h) rfl dX0_moveAcross_26 ?_
    refine lv_sipush (v := (159)) hx hb dX0_moveAcross_29 (by decide) ?_
    refine lv_icmp_le (tgt := 71) hx hb dX0_moveAcross_32 (by decide) (fun k32 => ?_) (fun k32 => ?_)
    · have hf := (op_if hf).1 k32
      exact hj4 S2 H locs ls  (lv_sub hl [0, 1, 2] rfl) hW hS hm hf
    · have hf := (op_if hf).2 k32
      exact hj19 () H locs ls  (lv_sub hl [0, 1, 2] rfl) hW hS hm hf

theorem ni_X0_moveDownwards_X0 : ∀ w ∈ wsX00, w ∈ wsX0_moveDownwards := by decide +kernel
theorem ni_X0_moveDownwards_X7 : ∀ w ∈ wsX70, w ∈ wsX0_moveDownwards := by decide +kernel
def fX0_moveDownwards (S : zSt) (a_1 : Nat) : Option (Int32 × zSt) :=
st (zI S (1, 0, 0) 1) fun x1 =>
st (pI S (1, 0, 0) 1 ((zI S (1, 0, 0) 1) + (zI S (1, 0, 0) 3))) fun S2 =>
cl (fX0_isOut S2) fun r3 =>
if r3 = 0 then
st (fun (S6 : zSt) => (cl (fX7_bumperOver S6 a_1 (zI S6 (1, 0, 0) 0) (zI S6 (1, 0, 0) 1)) fun r8 =>
st r8 fun x10 =>
if x10 < 0 then
some ((x10, S6))
else
cl (fJ_size S6 (a_1 + 2)) fun r12 =>
if r12 ≤ x10 then
some ((x10, S6))
else
st (pI S6 (1, 0, 0) 1 x1) fun S14 =>
cl (fJ_get S14 (a_1 + 2) x10) fun r16 =>
cl (fX1_speedBehindBump S14 a_1 r16 (zI S14 (1, 0, 0) 3)) fun r19 =>
st (pI S14 (1, 0, 0) 3 r19) fun S21 =>
some ((x10, S21)) : Option (Int32 × zSt))) fun j7 =>
if 0 ≤ (zI S2 (1, 0, 0) 1) then
j7 S2
else
st (pI S2 (1, 0, 0) 1 (-(zI S2 (1, 0, 0) 1))) fun S22 =>
st (pI S22 (1, 0, 0) 3 (-(zI S22 (1, 0, 0) 3))) fun S23 =>
j7 S23
else
some (((-1 : Int32), S2))
abbrev rmX0_moveDownwards : Room := { frames := 4, cells := 0, slots := 0, locals := 87 }
set_option maxHeartbeats 4000000 in
set_option maxRecDepth 100000 in
theorem tX0_moveDownwards (l : Launch) (Γ : zG) (lo : zId → Nat) (S : zSt) (X : va_W) {a_1 : Nat} (v_z : zV S (1, 0, 0) = true) (v_1 : zV S (8, a_1, 0) = true) {y : (Int32 × zSt)} (hf : fX0_moveDownwards S a_1 = some y) : Met l yX0_moveDownwards wsX0_moveDownwards rmX0_moveDownwards (zP0 Γ lo S X [.ref (lo (1, 0, 0)), .ref (lo (8, a_1, 0))]) (zQ0 Γ lo S y.2 X (some (.int y.1)) True) 0 0 (zA Γ) := by
  refine Met.ofW (cc := cX0_moveDownwards) (maxL := 4) (ret := (some .int)) (by decide) rfl ?_
  intro p e s m args below meth c s₁ B hml hv
  obtain ⟨rfl, hW, hKK⟩ := hv
  have hx := B.exec
  have hb := B.bytes
  have hr := B.returns
  have hts := atoms_spec (ws := wsX0_moveDownwards) B.pre
  have hown : s.vm.findClass RX0 = some m.cls := findClass_of_methodNamed B.named
  have hlocks := B.notSynchronized
  have hS : va_S (zA Γ) s.heap s.heap [] := va_S.rf
  have hm : ∀ c, zV S c = zV S c := fun _ => rfl
  have hl := lv_entry ([.ref (lo (1, 0, 0)), .ref (lo (8, a_1, 0))]) (n := 4) (Nat.le_of_ble_eq_true rfl)
  rw [lg_entry_eq]
  generalize (lg_sl ([.ref (lo (1, 0, 0)), .ref (lo (8, a_1, 0))]) ++ List.replicate (4 - (lg_sl ([.ref (lo (1, 0, 0)), .ref (lo (8, a_1, 0))])).length) Slot.unset).toArray = ls at hl ⊢
  have hl : lv_has ls 4 [(0, .ref (lo (1, 0, 0))), (1, .ref (lo (8, a_1, 0)))] := hl
  obtain ⟨H, hH0⟩ : ∃ H, H = s.heap := ⟨_, rfl⟩
  obtain ⟨locs, hlo0⟩ : ∃ L : List Loc, L = [] := ⟨_, rfl⟩
  have hS : va_S (zA Γ) s.heap H locs := by rw [hH0, hlo0]; exact hS
  have hW : Wd Γ lo S X H := by rw [hH0]; exact hW
  rw [← hH0, ← hlo0]
  unfold fX0_moveDownwards at hf
  refine lv_aload_n hx hb dX0_moveDownwards_0 rfl (lv_at hl 0 rfl) ?_
  refine va_get hx hb hts ni_X0_moveDownwards_X0 hown hKK.1 (wd_1 hW v_z) 0 rfl rfl 1 (by decide) (hts (.fieldLink RX0 9 "TiltRoute$Ball" "y" "I") (List.mem_of_getElem? (i := 1) rfl)) (fun _ h => h) rfl dX0_moveDownwards_1 ?_
  obtain ⟨x1, ex1, hf⟩ := op_st hf
  refine z_istn (lv' := [(2, .int x1), (0, .ref (lo (1, 0, 0))), (1, .ref (lo (8, a_1, 0)))]) ex1 hx hb dX0_moveDownwards_4 rfl hl (by decide) rfl (fun ls hl => ?_)
  refine lv_aload_n hx hb dX0_moveDownwards_5 rfl (lv_at hl 1 rfl) ?_
  refine lv_dup hx hb dX0_moveDownwards_6 rfl ?_
  refine va_get hx hb hts ni_X0_moveDownwards_X0 hown hKK.1 (wd_1 hW v_z) 0 rfl rfl 1 (by decide) (hts (.fieldLink RX0 9 "TiltRoute$Ball" "y" "I") (List.mem_of_getElem? (i := 1) rfl)) (fun _ h => h) rfl dX0_moveDownwards_7 ?_
  refine lv_aload_n hx hb dX0_moveDownwards_10 rfl (lv_at hl 1 rfl) ?_
  refine va_get hx hb hts ni_X0_moveDownwards_X0 hown hKK.1 (wd_1 hW v_z) 0 rfl rfl 3 (by decide) (hts (.fieldLink RX0 21 "TiltRoute$Ball" "down" "I") (List.mem_of_getElem? (i := 2) rfl)) (fun _ h => h) rfl dX0_moveDownwards_11 ?_
  refine lv_iadd hx hb dX0_moveDownwards_14 ?_
  obtain ⟨S2, eS2, hf⟩ := op_st hf
  refine g_put hx hb hts ni_X0_moveDownwards_X0 tyX0 tyX0_ok nmX0 hown hKK.1 hW hS v_z rfl rfl 1 (by decide) (hts (.fieldLink RX0 9 "TiltRoute$Ball" "y" "I") (List.mem_of_getElem? (i := 1) rfl)) rfl rfl rfl (show 1 < 4 by decide) rfl dX0_moveDownwards_15 eS2 (fun H locs hW hS => ?_)
  have hm : ∀ c, zV S2 c = zV S c := fun c => by rw [eS2]; rfl
  refine lv_aload_n hx hb dX0_moveDownwards_18 rfl (lv_at hl 1 rfl) ?_
  obtain ⟨r3, hc4, hf⟩ := op_cl hf
  refine z_callV (As := []) (rest := []) ⟨hx, hb, hml, hown, hts⟩ (tX0_isOut l Γ lo S2 X ((hm _).trans v_z) hc4) (cwV 0 hts gX0_moveDownwards_X0_isOut rfl rfl rfl (by decide +kernel) ⟨Nat.le_of_ble_eq_true rfl, Nat.le_of_ble_eq_true rfl⟩) (wd_1 hW ((hm _).trans v_z)) rfl hKK hW hS rfl hl.1 rfl (Nat.le_of_ble_eq_true rfl) dX0_moveDownwards_19 ⟨Nat.zero_le _, Nat.zero_le _⟩ (fun H locs hW hS hm1 hE => ?_)
  have b5 := hE
  refine lv_if_eq (tgt := 27) hx hb dX0_moveDownwards_22 (by decide) (fun k22 => ?_) (fun k22 => ?_)
  · have hf := (op_if hf).1 k22
    refine lv_aload_n hx hb dX0_moveDownwards_27 rfl (lv_at hl 1 rfl) ?_
    refine va_get hx hb hts ni_X0_moveDownwards_X0 hown hKK.1 (wd_1 hW ((hm _).trans v_z)) 0 rfl rfl 1 (by decide) (hts (.fieldLink RX0 9 "TiltRoute$Ball" "y" "I") (List.mem_of_getElem? (i := 1) rfl)) (fun _ h => h) rfl dX0_moveDownwards_28 ?_
    obtain ⟨j7, ej7, hf⟩ := op_st hf
    have hj7 : ∀ (S6 : zSt) (H : Heap) (locs : List Loc) (ls : Array Slot), lv_has ls 4 [(2, .int x1), (0, .ref (lo (1, 0, 0))), (1, .ref (lo (8, a_1, 0)))] → Wd Γ lo S6 X H → va_S (zA Γ) s.heap H locs → (∀ c, zV S6 c = zV S c) → j7 S6 = some y → W p l e (headSpec wsX0_moveDownwards rmX0_moveDownwards).room s m ([.ref (lo (1, 0, 0)), .ref (lo (8, a_1, 0))] : List Value).toArray below meth c H locs 0 0 (MQ below (zQ0 Γ lo S y.2 X (some (.int y.1)) True) ([.ref (lo (1, 0, 0)), .ref (lo (8, a_1, 0))] : List Value).toArray s 0 0 (zA Γ)) (F0 m 52 ls []) := by
      intro S6 H locs ls  hl hW hS hm hf
      rw [ej7] at hf
      refine lv_aload_n hx hb dX0_moveDownwards_52 rfl (lv_at hl 2 rfl) ?_
      refine lv_aload_n hx hb dX0_moveDownwards_53 rfl (lv_at hl 1 rfl) ?_
      refine va_get hx hb hts ni_X0_moveDownwards_X0 hown hKK.1 (wd_1 hW ((hm _).trans v_z)) 0 rfl rfl 0 (by decide) (hts (.fieldLink RX0 15 "TiltRoute$Ball" "x" "I") (List.mem_of_getElem? (i := 3) rfl)) (fun _ h => h) rfl dX0_moveDownwards_54 ?_
      refine lv_aload_n hx hb dX0_moveDownwards_57 rfl (lv_at hl 1 rfl) ?_
      refine va_get hx hb hts ni_X0_moveDownwards_X0 hown hKK.1 (wd_1 hW ((hm _).trans v_z)) 0 rfl rfl 1 (by decide) (hts (.fieldLink RX0 9 "TiltRoute$Ball" "y" "I") (List.mem_of_getElem? (i := 1) rfl)) (fun _ h => h) rfl dX0_moveDownwards_58 ?_
      obtain ⟨r8, hc9, hf⟩ := op_cl hf
      refine z_callV (As := [.int (zI S6 (1, 0, 0) 0), .int (zI S6 (1, 0, 0) 1)]) (rest := []) ⟨hx, hb, hml, hown, hts⟩ (tX7_bumperOver l Γ lo S6 X ((hm _).trans v_1) hc9) (cwV 2 hts gX0_moveDownwards_X7_bumperOver rfl rfl rfl (by decide +kernel) ⟨Nat.le_of_ble_eq_true rfl, Nat.le_of_ble_eq_true rfl⟩) (wd_1 hW ((hm _).trans v_1)) rfl hKK hW hS rfl hl.1 rfl (Nat.le_of_ble_eq_true rfl) dX0_moveDownwards_61 ⟨Nat.zero_le _, Nat.zero_le _⟩ (fun H locs hW hS hm1 hE => ?_)
      obtain ⟨x10, ex10, hf⟩ := op_st hf
      refine z_istn (lv' := [(3, .int x10), (2, .int x1), (0, .ref (lo (1, 0, 0))), (1, .ref (lo (8, a_1, 0)))]) ex10 hx hb dX0_moveDownwards_64 rfl hl (by decide) rfl (fun ls hl => ?_)
      refine lv_iload_n hx hb dX0_moveDownwards_65 rfl (lv_at hl 0 rfl) ?_
      refine lv_if_lt (tgt := 107) hx hb dX0_moveDownwards_66 (by decide) (fun k66 => ?_) (fun k66 => ?_)
      · have hf := (op_if hf).1 k66
        refine lv_iload_n hx hb dX0_moveDownwards_107 rfl (lv_at hl 0 rfl) ?_
        have hf := Option.some.inj hf
        rw [← hf]
        exact z_iret hx hb hr hlocks rfl hW hS hm trivial dX0_moveDownwards_108
      · have hf := (op_if hf).2 k66
        refine lv_iload_n hx hb dX0_moveDownwards_69 rfl (lv_at hl 0 rfl) ?_
        refine lv_aload_n hx hb dX0_moveDownwards_70 rfl (lv_at hl 3 rfl) ?_
        refine va_get hx hb hts ni_X0_moveDownwards_X7 hown hKK.1 (wd_1 hW ((hm _).trans v_1)) 0 rfl rfl 2 (by decide) (hts (.fieldLink RX0 35 "TiltRoute$Table" "bumpers" "Ljava/util/ArrayList;") (List.mem_of_getElem? (i := 4) rfl)) (fun _ h => h) rfl dX0_moveDownwards_71 ?_
        have v11 : zV S (0, (a_1 + 2), 0) = true := (hm _).symm.trans (vf_8_2 hW ((hm _).trans v_1))
        obtain ⟨r12, hc13, hf⟩ := op_cl hf
        refine z_callV (As := []) (rest := [.int x10]) ⟨hx, hb, hml, hown, hts⟩ (tJ_size l Γ lo S6 X ((hm _).trans v11) hc13) (cwV 0 hts gX0_moveDownwards_Jx4a65c_size_8abf5 rfl rfl rfl (by decide +kernel) ⟨Nat.le_of_ble_eq_true rfl, Nat.le_of_ble_eq_true rfl⟩) (wd_1 hW ((hm _).trans v11)) rfl hKK hW hS rfl hl.1 rfl (Nat.le_of_ble_eq_true rfl) dX0_moveDownwards_74 ⟨Nat.zero_le _, Nat.zero_le _⟩ (fun H locs hW hS hm1 hE => ?_)
        refine lv_icmp_ge (tgt := 107) hx hb dX0_moveDownwards_77 (by decide) (fun k77 => ?_) (fun k77 => ?_)
        · have hf := (op_if hf).1 k77
          refine lv_iload_n hx hb dX0_moveDownwards_107 rfl (lv_at hl 0 rfl) ?_
          have hf := Option.some.inj hf
          rw [← hf]
          exact z_iret hx hb hr hlocks rfl hW hS hm trivial dX0_moveDownwards_108
        · have hf := (op_if hf).2 k77
          refine lv_aload_n hx hb dX0_moveDownwards_80 rfl (lv_at hl 2 rfl) ?_
          refine lv_iload_n hx hb dX0_moveDownwards_81 rfl (lv_at hl 1 rfl) ?_
          obtain ⟨S14, eS14, hf⟩ := op_st hf
          refine g_put hx hb hts ni_X0_moveDownwards_X0 tyX0 tyX0_ok nmX0 hown hKK.1 hW hS ((hm _).trans v_z) rfl rfl 1 (by decide) (hts (.fieldLink RX0 9 "TiltRoute$Ball" "y" "I") (List.mem_of_getElem? (i := 1) rfl)) rfl rfl rfl (show 1 < 4 by decide) rfl dX0_moveDownwards_82 eS14 (fun H locs hW hS => ?_)
          have hm : ∀ c, zV S14 c = zV S c := fun c => by rw [eS14]; exact hm c
          refine lv_aload_n hx hb dX0_moveDownwards_85 rfl (lv_at hl 2 rfl) ?_
          refine lv_aload_n hx hb dX0_moveDownwards_86 rfl (lv_at hl 3 rfl) ?_
          refine va_get hx hb hts ni_X0_moveDownwards_X7 hown hKK.1 (wd_1 hW ((hm _).trans v_1)) 0 rfl rfl 2 (by decide) (hts (.fieldLink RX0 35 "TiltRoute$Table" "bumpers" "Ljava/util/ArrayList;") (List.mem_of_getElem? (i := 4) rfl)) (fun _ h => h) rfl dX0_moveDownwards_87 ?_
          have v15 : zV S (0, (a_1 + 2), 0) = true := (hm _).symm.trans (vf_8_2 hW ((hm _).trans v_1))
          refine lv_iload_n hx hb dX0_moveDownwards_90 rfl (lv_at hl 0 rfl) ?_
          obtain ⟨r16, hc17, hf⟩ := op_cl hf
          refine z_callV (As := [.int x10]) (rest := [.ref (lo (1, 0, 0))]) ⟨hx, hb, hml, hown, hts⟩ (tJ_get l Γ lo S14 X ((hm _).trans v15) hc17) (cwV 1 hts gX0_moveDownwards_Jx4a65c_get_915e3 rfl rfl rfl (by decide +kernel) ⟨Nat.le_of_ble_eq_true rfl, Nat.le_of_ble_eq_true rfl⟩) (wd_1 hW ((hm _).trans v15)) rfl hKK hW hS rfl hl.1 rfl (Nat.le_of_ble_eq_true rfl) dX0_moveDownwards_91 ⟨Nat.zero_le _, Nat.zero_le _⟩ (fun H locs hW hS hm1 hE => ?_)
          have v18 : zV S (2, a_1, r16) = true := (hm _).symm.trans hE
          refine va_castE hx hb hown (hts (.classLink RX0 49 "TiltRoute$Bumper") (List.mem_of_getElem? (i := 5) rfl)) (va_recv (q0 := 0) hKK.1 (wd_1 hW ((hm _).trans v18)) (ci := 2) rfl rfl) dX0_moveDownwards_94 ?_
          refine lv_aload_n hx hb dX0_moveDownwards_97 rfl (lv_at hl 2 rfl) ?_
          refine va_get hx hb hts ni_X0_moveDownwards_X0 hown hKK.1 (wd_1 hW ((hm _).trans v_z)) 0 rfl rfl 3 (by decide) (hts (.fieldLink RX0 21 "TiltRoute$Ball" "down" "I") (List.mem_of_getElem? (i := 2) rfl)) (fun _ h => h) rfl dX0_moveDownwards_98 ?_
          obtain ⟨r19, hc20, hf⟩ := op_cl hf
          refine z_callV (As := [.int (zI S14 (1, 0, 0) 3)]) (rest := [.ref (lo (1, 0, 0))]) ⟨hx, hb, hml, hown, hts⟩ (tX1_speedBehindBump l Γ lo S14 X ((hm _).trans v18) hc20) (cwV 1 hts gX0_moveDownwards_X1_speedBehindBump rfl rfl rfl (by decide +kernel) ⟨Nat.le_of_ble_eq_true rfl, Nat.le_of_ble_eq_true rfl⟩) (wd_1 hW ((hm _).trans v18)) rfl hKK hW hS rfl hl.1 rfl (Nat.le_of_ble_eq_true rfl) dX0_moveDownwards_101 ⟨Nat.zero_le _, Nat.zero_le _⟩ (fun H locs hW hS hm1 hE => ?_)
          obtain ⟨S21, eS21, hf⟩ := op_st hf
          refine g_put hx hb hts ni_X0_moveDownwards_X0 tyX0 tyX0_ok nmX0 hown hKK.1 hW hS ((hm _).trans v_z) rfl rfl 3 (by decide) (hts (.fieldLink RX0 21 "TiltRoute$Ball" "down" "I") (List.mem_of_getElem? (i := 2) rfl)) rfl rfl rfl (show 3 < 4 by decide) rfl dX0_moveDownwards_104 eS21 (fun H locs hW hS => ?_)
          have hm : ∀ c, zV S21 c = zV S c := fun c => by rw [eS21]; exact hm c
          refine lv_iload_n hx hb dX0_moveDownwards_107 rfl (lv_at hl 0 rfl) ?_
          have hf := Option.some.inj hf
          rw [← hf]
          exact z_iret hx hb hr hlocks rfl hW hS hm trivial dX0_moveDownwards_108
    refine lv_if_ge (tgt := 52) hx hb dX0_moveDownwards_31 (by decide) (fun k31 => ?_) (fun k31 => ?_)
    · have hf := (op_if hf).1 k31
      exact hj7 S2 H locs ls  (lv_sub hl [0, 1, 2] rfl) hW hS hm hf
    · have hf := (op_if hf).2 k31
      refine lv_aload_n hx hb dX0_moveDownwards_34 rfl (lv_at hl 1 rfl) ?_
      refine lv_aload_n hx hb dX0_moveDownwards_35 rfl (lv_at hl 1 rfl) ?_
      refine va_get hx hb hts ni_X0_moveDownwards_X0 hown hKK.1 (wd_1 hW ((hm _).trans v_z)) 0 rfl rfl 1 (by decide) (hts (.fieldLink RX0 9 "TiltRoute$Ball" "y" "I") (List.mem_of_getElem? (i := 1) rfl)) (fun _ h => h) rfl dX0_moveDownwards_36 ?_
      refine lv_ineg hx hb dX0_moveDownwards_39 ?_
      obtain ⟨S22, eS22, hf⟩ := op_st hf
      refine g_put hx hb hts ni_X0_moveDownwards_X0 tyX0 tyX0_ok nmX0 hown hKK.1 hW hS ((hm _).trans v_z) rfl rfl 1 (by decide) (hts (.fieldLink RX0 9 "TiltRoute$Ball" "y" "I") (List.mem_of_getElem? (i := 1) rfl)) rfl rfl rfl (show 1 < 4 by decide) rfl dX0_moveDownwards_40 eS22 (fun H locs hW hS => ?_)
      have hm : ∀ c, zV S22 c = zV S c := fun c => by rw [eS22]; exact hm c
      refine lv_aload_n hx hb dX0_moveDownwards_43 rfl (lv_at hl 1 rfl) ?_
      refine lv_aload_n hx hb dX0_moveDownwards_44 rfl (lv_at hl 1 rfl) ?_
      refine va_get hx hb hts ni_X0_moveDownwards_X0 hown hKK.1 (wd_1 hW ((hm _).trans v_z)) 0 rfl rfl 3 (by decide) (hts (.fieldLink RX0 21 "TiltRoute$Ball" "down" "I") (List.mem_of_getElem? (i := 2) rfl)) (fun _ h => h) rfl dX0_moveDownwards_45 ?_
      refine lv_ineg hx hb dX0_moveDownwards_48 ?_
      obtain ⟨S23, eS23, hf⟩ := op_st hf
      refine g_put hx hb hts ni_X0_moveDownwards_X0 tyX0 tyX0_ok nmX0 hown hKK.1 hW hS ((hm _).trans v_z) rfl rfl 3 (by decide) (hts (.fieldLink RX0 21 "TiltRoute$Ball" "down" "I") (List.mem_of_getElem? (i := 2) rfl)) rfl rfl rfl (show 3 < 4 by decide) rfl dX0_moveDownwards_49 eS23 (fun H locs hW hS => ?_)
      have hm : ∀ c, zV S23 c = zV S c := fun c => by rw [eS23]; exact hm c
      exact hj7 S23 H locs ls  (lv_sub hl [0, 1, 2] rfl) hW hS hm hf
  · have hf := (op_if hf).2 k22
    refine lv_iconst (v := (-1)) hx hb dX0_moveDownwards_25 (by decide) ?_
    have hf := Option.some.inj hf
    rw [← hf]
    exact z_iret hx hb hr hlocks rfl hW hS hm trivial dX0_moveDownwards_26

def fX2_switchIn (S : zSt) (i_1 : Int64) : Option Int32 :=
some ((i_1 &&& (15 : Int64)).toInt32)
abbrev rmX2_switchIn : Room := { frames := 0, cells := 0, slots := 0, locals := 0 }
set_option maxHeartbeats 4000000 in
set_option maxRecDepth 100000 in
theorem tX2_switchIn (l : Launch) (Γ : zG) (lo : zId → Nat) (S : zSt) (X : va_W) {i_1 : Int64}  {y : Int32} (hf : fX2_switchIn S i_1 = some y) : Met l yX2_switchIn wsX2_switchIn rmX2_switchIn (zP0 Γ lo S X [.long i_1]) (zQ0 Γ lo S S X (some (.int y)) True) 0 0 (zA Γ) := by
  refine Met.ofW (cc := cX2_switchIn) (maxL := 2) (ret := (some .int)) (by decide) rfl ?_
  intro p e s m args below meth c s₁ B hml hv
  obtain ⟨rfl, hW, hKK⟩ := hv
  have hx := B.exec
  have hb := B.bytes
  have hr := B.returns
  have hts := atoms_spec (ws := wsX2_switchIn) B.pre
  have hown : s.vm.findClass RX2 = some m.cls := findClass_of_methodNamed B.named
  have hlocks := B.notSynchronized
  have hS : va_S (zA Γ) s.heap s.heap [] := va_S.rf
  have hm : ∀ c, zV S c = zV S c := fun _ => rfl
  have hl := lv_entry ([.long i_1]) (n := 2) (Nat.le_of_ble_eq_true rfl)
  rw [lg_entry_eq]
  generalize (lg_sl ([.long i_1]) ++ List.replicate (2 - (lg_sl ([.long i_1])).length) Slot.unset).toArray = ls at hl ⊢
  have hl : lv_has ls 2 [(0, .long i_1)] := hl
  obtain ⟨H, hH0⟩ : ∃ H, H = s.heap := ⟨_, rfl⟩
  obtain ⟨locs, hlo0⟩ : ∃ L : List Loc, L = [] := ⟨_, rfl⟩
  have hS : va_S (zA Γ) s.heap H locs := by rw [hH0, hlo0]; exact hS
  have hW : Wd Γ lo S X H := by rw [hH0]; exact hW
  rw [← hH0, ← hlo0]
  unfold fX2_switchIn at hf
  refine lv_lload_n hx hb dX2_switchIn_0 rfl (lv_at hl 0 rfl) ?_
  refine lv_ldc2 hx hb hown (hts (.constantLong RX2 36 (15)) (List.mem_of_getElem? (i := 1) rfl)) dX2_switchIn_1 ?_
  refine lv_land hx hb dX2_switchIn_4 ?_
  refine lv_l2i hx hb dX2_switchIn_5 rfl ?_
  have hf := Option.some.inj hf
  rw [← hf]
  exact z_iret hx hb hr hlocks rfl hW hS hm trivial dX2_switchIn_6

def fX2_stickingIn (S : zSt) (i_1 : Int64) : Option Int32 :=
some ((((i_1 >>> ((20 : Int32).toInt64 &&& 63)) &&& (4095 : Int64)).toInt32 - (1 : Int32)))
abbrev rmX2_stickingIn : Room := { frames := 0, cells := 0, slots := 0, locals := 0 }
set_option maxHeartbeats 4000000 in
set_option maxRecDepth 100000 in
theorem tX2_stickingIn (l : Launch) (Γ : zG) (lo : zId → Nat) (S : zSt) (X : va_W) {i_1 : Int64}  {y : Int32} (hf : fX2_stickingIn S i_1 = some y) : Met l yX2_stickingIn wsX2_stickingIn rmX2_stickingIn (zP0 Γ lo S X [.long i_1]) (zQ0 Γ lo S S X (some (.int y)) True) 0 0 (zA Γ) := by
  refine Met.ofW (cc := cX2_stickingIn) (maxL := 2) (ret := (some .int)) (by decide) rfl ?_
  intro p e s m args below meth c s₁ B hml hv
  obtain ⟨rfl, hW, hKK⟩ := hv
  have hx := B.exec
  have hb := B.bytes
  have hr := B.returns
  have hts := atoms_spec (ws := wsX2_stickingIn) B.pre
  have hown : s.vm.findClass RX2 = some m.cls := findClass_of_methodNamed B.named
  have hlocks := B.notSynchronized
  have hS : va_S (zA Γ) s.heap s.heap [] := va_S.rf
  have hm : ∀ c, zV S c = zV S c := fun _ => rfl
  have hl := lv_entry ([.long i_1]) (n := 2) (Nat.le_of_ble_eq_true rfl)
  rw [lg_entry_eq]
  generalize (lg_sl ([.long i_1]) ++ List.replicate (2 - (lg_sl ([.long i_1])).length) Slot.unset).toArray = ls at hl ⊢
  have hl : lv_has ls 2 [(0, .long i_1)] := hl
  obtain ⟨H, hH0⟩ : ∃ H, H = s.heap := ⟨_, rfl⟩
  obtain ⟨locs, hlo0⟩ : ∃ L : List Loc, L = [] := ⟨_, rfl⟩
  have hS : va_S (zA Γ) s.heap H locs := by rw [hH0, hlo0]; exact hS
  have hW : Wd Γ lo S X H := by rw [hH0]; exact hW
  rw [← hH0, ← hlo0]
  unfold fX2_stickingIn at hf
  refine lv_lload_n hx hb dX2_stickingIn_0 rfl (lv_at hl 0 rfl) ?_
  refine lv_bipush (v := (20)) hx hb dX2_stickingIn_1 (by decide) ?_
  refine lv_lshr hx hb dX2_stickingIn_3 rfl ?_
  refine lv_ldc2 hx hb hown (hts (.constantLong RX2 38 (4095)) (List.mem_of_getElem? (i := 1) rfl)) dX2_stickingIn_4 ?_
  refine lv_land hx hb dX2_stickingIn_7 ?_
  refine lv_l2i hx hb dX2_stickingIn_8 rfl ?_
  refine lv_iconst (v := (1)) hx hb dX2_stickingIn_9 (by decide) ?_
  refine lv_isub hx hb dX2_stickingIn_10 ?_
  have hf := Option.some.inj hf
  rw [← hf]
  exact z_iret hx hb hr hlocks rfl hW hS hm trivial dX2_stickingIn_11

theorem ni_X2_isOver_X2 : ∀ w ∈ wsX20, w ∈ wsX2_isOver := by decide +kernel
def fX2_isOver (S : zSt) (a_z : Nat) : Option Int32 :=
if (zI S (3, a_z, 0) 5) < (3 : Int32) then
some ((0 : Int32))
else
some ((1 : Int32))
abbrev rmX2_isOver : Room := { frames := 0, cells := 0, slots := 0, locals := 0 }
set_option maxHeartbeats 4000000 in
set_option maxRecDepth 100000 in
theorem tX2_isOver (l : Launch) (Γ : zG) (lo : zId → Nat) (S : zSt) (X : va_W) {a_z : Nat} (v_z : zV S (3, a_z, 0) = true) {y : Int32} (hf : fX2_isOver S a_z = some y) : Met l yX2_isOver wsX2_isOver rmX2_isOver (zP0 Γ lo S X [.ref (lo (3, a_z, 0))]) (zQ0 Γ lo S S X (some (.int y)) (y = 0 ∨ y = 1)) 0 0 (zA Γ) := by
  refine Met.ofW (cc := cX2_isOver) (maxL := 1) (ret := (some .boolean)) (by decide) rfl ?_
  intro p e s m args below meth c s₁ B hml hv
  obtain ⟨rfl, hW, hKK⟩ := hv
  have hx := B.exec
  have hb := B.bytes
  have hr := B.returns
  have hts := atoms_spec (ws := wsX2_isOver) B.pre
  have hown : s.vm.findClass RX2 = some m.cls := findClass_of_methodNamed B.named
  have hlocks := B.notSynchronized
  have hS : va_S (zA Γ) s.heap s.heap [] := va_S.rf
  have hm : ∀ c, zV S c = zV S c := fun _ => rfl
  have hl := lv_entry ([.ref (lo (3, a_z, 0))]) (n := 1) (Nat.le_of_ble_eq_true rfl)
  rw [lg_entry_eq]
  generalize (lg_sl ([.ref (lo (3, a_z, 0))]) ++ List.replicate (1 - (lg_sl ([.ref (lo (3, a_z, 0))])).length) Slot.unset).toArray = ls at hl ⊢
  have hl : lv_has ls 1 [(0, .ref (lo (3, a_z, 0)))] := hl
  obtain ⟨H, hH0⟩ : ∃ H, H = s.heap := ⟨_, rfl⟩
  obtain ⟨locs, hlo0⟩ : ∃ L : List Loc, L = [] := ⟨_, rfl⟩
  have hS : va_S (zA Γ) s.heap H locs := by rw [hH0, hlo0]; exact hS
  have hW : Wd Γ lo S X H := by rw [hH0]; exact hW
  rw [← hH0, ← hlo0]
  unfold fX2_isOver at hf
  refine lv_aload_n hx hb dX2_isOver_0 rfl (lv_at hl 0 rfl) ?_
  refine va_get hx hb hts ni_X2_isOver_X2 hown hKK.1 (wd_1 hW v_z) 0 rfl rfl 5 (by decide) (hts (.fieldLink RX2 26 "TiltRoute$Game" "ballsShot" "I") (List.mem_of_getElem? (i := 1) rfl)) (fun _ h => h) rfl dX2_isOver_1 ?_
  refine lv_iconst (v := (3)) hx hb dX2_isOver_4 (by decide) ?_
  refine lv_icmp_lt (tgt := 12) hx hb dX2_isOver_5 (by decide) (fun k5 => ?_) (fun k5 => ?_)
  · have hf := (op_if hf).1 k5
    refine lv_iconst (v := (0)) hx hb dX2_isOver_12 (by decide) ?_
    have hf := Option.some.inj hf
    rw [← hf]
    exact z_iret hx hb hr hlocks (z_bb (Or.inl rfl)) hW hS hm (Or.inl rfl) dX2_isOver_13
  · have hf := (op_if hf).2 k5
    refine lv_iconst (v := (1)) hx hb dX2_isOver_8 (by decide) ?_
    refine lv_goto (tgt := 13) hx hb dX2_isOver_9 (by decide) ?_
    have hf := Option.some.inj hf
    rw [← hf]
    exact z_iret hx hb hr hlocks (z_bb (Or.inr rfl)) hW hS hm (Or.inr rfl) dX2_isOver_13

