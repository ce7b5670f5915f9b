theorem ni_X1_isBroken_X1 : ∀ w ∈ wsX10, w ∈ wsX1_isBroken := by decide +kernel
def fX1_isBroken (S : zSt) (a_z : Nat) (b_z : Nat) : Option Int32 :=
if (zI S (2, a_z, b_z) 5) < (40 : Int32) then
some ((0 : Int32))
else
some ((1 : Int32))
abbrev rmX1_isBroken : Room := { frames := 0, cells := 0, slots := 0, locals := 0 }
set_option maxHeartbeats 4000000 in
set_option maxRecDepth 100000 in
theorem tX1_isBroken (l : Launch) (Γ : zG) (lo : zId → Nat) (S : zSt) (X : va_W) {a_z : Nat} {b_z : Nat} (v_z : zV S (2, a_z, b_z) = true) {y : Int32} (hf : fX1_isBroken S a_z b_z = some y) : Met l yX1_isBroken wsX1_isBroken rmX1_isBroken (zP0 Γ lo S X [.ref (lo (2, a_z, b_z))]) (zQ0 Γ lo S S X (some (.int y)) (y = 0 ∨ y = 1)) 0 0 (zA Γ) := by
  refine Met.ofW (cc := cX1_isBroken) (maxL := 1) (ret := (some .boolean)) (by decide) rfl ?_
  intro p e s m args below meth c s₁ B hml hv
  obtain ⟨rfl, hW, hKK⟩ := hv
  have hx := B.exec
  have hb := B.bytes
  have hr := B.returns
  have hts := atoms_spec (ws := wsX1_isBroken) B.pre
  have hown : s.vm.findClass RX1 = some m.cls := findClass_of_methodNamed B.named
  have hlocks := B.notSynchronized
  have hS : va_S (zA Γ) s.heap s.heap [] := va_S.rf
  have hm : ∀ c, zV S c = zV S c := fun _ => rfl
  have hl := lv_entry ([.ref (lo (2, a_z, b_z))]) (n := 1) (Nat.le_of_ble_eq_true rfl)
  rw [lg_entry_eq]
  generalize (lg_sl ([.ref (lo (2, a_z, b_z))]) ++ List.replicate (1 - (lg_sl ([.ref (lo (2, a_z, b_z))])).length) Slot.unset).toArray = ls at hl ⊢
  have hl : lv_has ls 1 [(0, .ref (lo (2, a_z, b_z)))] := hl
  obtain ⟨H, hH0⟩ : ∃ H, H = s.heap := ⟨_, rfl⟩
  obtain ⟨locs, hlo0⟩ : ∃ L : List Loc, L = [] := ⟨_, rfl⟩
  have hS : va_S (zA Γ) s.heap H locs := by rw [hH0, hlo0]; exact hS
  have hW : Wd Γ lo S X H := by rw [hH0]; exact hW
  rw [← hH0, ← hlo0]
  unfold fX1_isBroken at hf
  refine lv_aload_n hx hb dX1_isBroken_0 rfl (lv_at hl 0 rfl) ?_
  refine va_get hx hb hts ni_X1_isBroken_X1 hown hKK.1 (wd_1 hW v_z) 0 rfl rfl 5 (by decide) (hts (.fieldLink RX1 9 "TiltRoute$Bumper" "wear" "I") (List.mem_of_getElem? (i := 1) rfl)) (fun _ h => h) rfl dX1_isBroken_1 ?_
  refine lv_bipush (v := (40)) hx hb dX1_isBroken_4 (by decide) ?_
  refine lv_icmp_lt (tgt := 13) hx hb dX1_isBroken_6 (by decide) (fun k6 => ?_) (fun k6 => ?_)
  · have hf := (op_if hf).1 k6
    refine lv_iconst (v := (0)) hx hb dX1_isBroken_13 (by decide) ?_
    have hf := Option.some.inj hf
    rw [← hf]
    exact z_iret hx hb hr hlocks (z_bb (Or.inl rfl)) hW hS hm (Or.inl rfl) dX1_isBroken_14
  · have hf := (op_if hf).2 k6
    refine lv_iconst (v := (1)) hx hb dX1_isBroken_9 (by decide) ?_
    refine lv_goto (tgt := 14) hx hb dX1_isBroken_10 (by decide) ?_
    have hf := Option.some.inj hf
    rw [← hf]
    exact z_iret hx hb hr hlocks (z_bb (Or.inr rfl)) hW hS hm (Or.inr rfl) dX1_isBroken_14

theorem ni_X1_holdsPart_X1 : ∀ w ∈ wsX10, w ∈ wsX1_holdsPart := by decide +kernel
def fX1_holdsPart (S : zSt) (a_z : Nat) (b_z : Nat) (i_1 : Int32) (i_2 : Int32) : Option Int32 :=
st (fun (u_ : Unit) => (some ((0 : Int32)) : Option Int32)) fun j1 =>
if i_1 < (zI S (2, a_z, b_z) 0) then
j1 ()
else
if ((zI S (2, a_z, b_z) 0) + (zI S (2, a_z, b_z) 2)) ≤ i_1 then
j1 ()
else
if i_2 < (zI S (2, a_z, b_z) 1) then
j1 ()
else
if ((zI S (2, a_z, b_z) 1) + (zI S (2, a_z, b_z) 3)) ≤ i_2 then
j1 ()
else
some ((1 : Int32))
abbrev rmX1_holdsPart : Room := { frames := 0, cells := 0, slots := 0, locals := 0 }
set_option maxHeartbeats 4000000 in
set_option maxRecDepth 100000 in
theorem tX1_holdsPart (l : Launch) (Γ : zG) (lo : zId → Nat) (S : zSt) (X : va_W) {a_z : Nat} {b_z : Nat} {i_1 : Int32} {i_2 : Int32} (v_z : zV S (2, a_z, b_z) = true) {y : Int32} (hf : fX1_holdsPart S a_z b_z i_1 i_2 = some y) : Met l yX1_holdsPart wsX1_holdsPart rmX1_holdsPart (zP0 Γ lo S X [.ref (lo (2, a_z, b_z)), .int i_1, .int i_2]) (zQ0 Γ lo S S X (some (.int y)) (y = 0 ∨ y = 1)) 0 0 (zA Γ) := by
  refine Met.ofW (cc := cX1_holdsPart) (maxL := 3) (ret := (some .boolean)) (by decide) rfl ?_
  intro p e s m args below meth c s₁ B hml hv
  obtain ⟨rfl, hW, hKK⟩ := hv
  have hx := B.exec
  have hb := B.bytes
  have hr := B.returns
  have hts := atoms_spec (ws := wsX1_holdsPart) B.pre
  have hown : s.vm.findClass RX1 = some m.cls := findClass_of_methodNamed B.named
  have hlocks := B.notSynchronized
  have hS : va_S (zA Γ) s.heap s.heap [] := va_S.rf
  have hm : ∀ c, zV S c = zV S c := fun _ => rfl
  have hl := lv_entry ([.ref (lo (2, a_z, b_z)), .int i_1, .int i_2]) (n := 3) (Nat.le_of_ble_eq_true rfl)
  rw [lg_entry_eq]
  generalize (lg_sl ([.ref (lo (2, a_z, b_z)), .int i_1, .int i_2]) ++ List.replicate (3 - (lg_sl ([.ref (lo (2, a_z, b_z)), .int i_1, .int i_2])).length) Slot.unset).toArray = ls at hl ⊢
  have hl : lv_has ls 3 [(0, .ref (lo (2, a_z, b_z))), (1, .int i_1), (2, .int i_2)] := hl
  obtain ⟨H, hH0⟩ : ∃ H, H = s.heap := ⟨_, rfl⟩
  obtain ⟨locs, hlo0⟩ : ∃ L : List Loc, L = [] := ⟨_, rfl⟩
  have hS : va_S (zA Γ) s.heap H locs := by rw [hH0, hlo0]; exact hS
  have hW : Wd Γ lo S X H := by rw [hH0]; exact hW
  rw [← hH0, ← hlo0]
  unfold fX1_holdsPart at hf
  refine lv_iload_n hx hb dX1_holdsPart_0 rfl (lv_at hl 1 rfl) ?_
  refine lv_aload_n hx hb dX1_holdsPart_1 rfl (lv_at hl 0 rfl) ?_
  refine va_get hx hb hts ni_X1_holdsPart_X1 hown hKK.1 (wd_1 hW v_z) 0 rfl rfl 0 (by decide) (hts (.fieldLink RX1 18 "TiltRoute$Bumper" "left" "I") (List.mem_of_getElem? (i := 1) rfl)) (fun _ h => h) rfl dX1_holdsPart_2 ?_
  obtain ⟨j1, ej1, hf⟩ := op_st hf
  have hj1 : ∀ (u_ : Unit) (H : Heap) (locs : List Loc) (ls : Array Slot), lv_has ls 3 [] → Wd Γ lo S X H → va_S (zA Γ) s.heap H locs → (∀ c, zV S c = zV S c) → j1 () = some y → W p l e (headSpec wsX1_holdsPart rmX1_holdsPart).room s m ([.ref (lo (2, a_z, b_z)), .int i_1, .int i_2] : List Value).toArray below meth c H locs 0 0 (MQ below (zQ0 Γ lo S S X (some (.int y)) (y = 0 ∨ y = 1)) ([.ref (lo (2, a_z, b_z)), .int i_1, .int i_2] : List Value).toArray s 0 0 (zA Γ)) (F0 m 46 ls []) := by
    intro u_ H locs ls  hl hW hS hm hf
    rw [ej1] at hf
    refine lv_iconst (v := (0)) hx hb dX1_holdsPart_46 (by decide) ?_
    have hf := Option.some.inj hf
    rw [← hf]
    exact z_iret hx hb hr hlocks (z_bb (Or.inl rfl)) hW hS hm (Or.inl rfl) dX1_holdsPart_47
  refine lv_icmp_lt (tgt := 46) hx hb dX1_holdsPart_5 (by decide) (fun k5 => ?_) (fun k5 => ?_)
  · have hf := (op_if hf).1 k5
    exact hj1 () H locs ls  (lv_sub hl [] rfl) hW hS hm hf
  · have hf := (op_if hf).2 k5
    refine lv_iload_n hx hb dX1_holdsPart_8 rfl (lv_at hl 1 rfl) ?_
    refine lv_aload_n hx hb dX1_holdsPart_9 rfl (lv_at hl 0 rfl) ?_
    refine va_get hx hb hts ni_X1_holdsPart_X1 hown hKK.1 (wd_1 hW v_z) 0 rfl rfl 0 (by decide) (hts (.fieldLink RX1 18 "TiltRoute$Bumper" "left" "I") (List.mem_of_getElem? (i := 1) rfl)) (fun _ h => h) rfl dX1_holdsPart_10 ?_
    refine lv_aload_n hx hb dX1_holdsPart_13 rfl (lv_at hl 0 rfl) ?_
    refine va_get hx hb hts ni_X1_holdsPart_X1 hown hKK.1 (wd_1 hW v_z) 0 rfl rfl 2 (by decide) (hts (.fieldLink RX1 24 "TiltRoute$Bumper" "width" "I") (List.mem_of_getElem? (i := 2) rfl)) (fun _ h => h) rfl dX1_holdsPart_14 ?_
    refine lv_iadd hx hb dX1_holdsPart_17 ?_
    refine lv_icmp_ge (tgt := 46) hx hb dX1_holdsPart_18 (by decide) (fun k18 => ?_) (fun k18 => ?_)
    · have hf := (op_if hf).1 k18
      exact hj1 () H locs ls  (lv_sub hl [] rfl) hW hS hm hf
    · have hf := (op_if hf).2 k18
      refine lv_iload_n hx hb dX1_holdsPart_21 rfl (lv_at hl 2 rfl) ?_
      refine lv_aload_n hx hb dX1_holdsPart_22 rfl (lv_at hl 0 rfl) ?_
      refine va_get hx hb hts ni_X1_holdsPart_X1 hown hKK.1 (wd_1 hW v_z) 0 rfl rfl 1 (by decide) (hts (.fieldLink RX1 21 "TiltRoute$Bumper" "top" "I") (List.mem_of_getElem? (i := 3) rfl)) (fun _ h => h) rfl dX1_holdsPart_23 ?_
      refine lv_icmp_lt (tgt := 46) hx hb dX1_holdsPart_26 (by decide) (fun k26 => ?_) (fun k26 => ?_)
      · have hf := (op_if hf).1 k26
        exact hj1 () H locs ls  (lv_sub hl [] rfl) hW hS hm hf
      · have hf := (op_if hf).2 k26
        refine lv_iload_n hx hb dX1_holdsPart_29 rfl (lv_at hl 2 rfl) ?_
        refine lv_aload_n hx hb dX1_holdsPart_30 rfl (lv_at hl 0 rfl) ?_
        refine va_get hx hb hts ni_X1_holdsPart_X1 hown hKK.1 (wd_1 hW v_z) 0 rfl rfl 1 (by decide) (hts (.fieldLink RX1 21 "TiltRoute$Bumper" "top" "I") (List.mem_of_getElem? (i := 3) rfl)) (fun _ h => h) rfl dX1_holdsPart_31 ?_
        refine lv_aload_n hx hb dX1_holdsPart_34 rfl (lv_at hl 0 rfl) ?_
        refine va_get hx hb hts ni_X1_holdsPart_X1 hown hKK.1 (wd_1 hW v_z) 0 rfl rfl 3 (by decide) (hts (.fieldLink RX1 27 "TiltRoute$Bumper" "height" "I") (List.mem_of_getElem? (i := 4) rfl)) (fun _ h => h) rfl dX1_holdsPart_35 ?_
        refine lv_iadd hx hb dX1_holdsPart_38 ?_
        refine lv_icmp_ge (tgt := 46) hx hb dX1_holdsPart_39 (by decide) (fun k39 => ?_) (fun k39 => ?_)
        · have hf := (op_if hf).1 k39
          exact hj1 () H locs ls  (lv_sub hl [] rfl) hW hS hm hf
        · have hf := (op_if hf).2 k39
          refine lv_iconst (v := (1)) hx hb dX1_holdsPart_42 (by decide) ?_
          refine lv_goto (tgt := 47) hx hb dX1_holdsPart_43 (by decide) ?_
          have hf := Option.some.inj hf
          rw [← hf]
          exact z_iret hx hb hr hlocks (z_bb (Or.inr rfl)) hW hS hm (Or.inr rfl) dX1_holdsPart_47

theorem ni_X1_speedBehindBump_X1 : ∀ w ∈ wsX10, w ∈ wsX1_speedBehindBump := by decide +kernel
def fX1_speedBehindBump (S : zSt) (a_z : Nat) (b_z : Nat) (i_1 : Int32) : Option Int32 :=
st (fun (u_ : Unit) => (some ((-i_1)) : Option Int32)) fun j1 =>
if i_1 = 0 then
j1 ()
else
cl (fX1_isBroken S a_z b_z) fun r2 =>
if r2 = 0 then
st (if ((if 0 ≤ i_1 then i_1 else 0 - i_1) + (zI S (2, a_z, b_z) 4)) < (30 : Int32) then ((if 0 ≤ i_1 then i_1 else 0 - i_1) + (zI S (2, a_z, b_z) 4)) else (30 : Int32)) fun x5 =>
if i_1 ≤ 0 then
some (x5)
else
some ((-x5))
else
j1 ()
abbrev rmX1_speedBehindBump : Room := { frames := 1, cells := 0, slots := 0, locals := 21 }
set_option maxHeartbeats 4000000 in
set_option maxRecDepth 100000 in
theorem tX1_speedBehindBump (l : Launch) (Γ : zG) (lo : zId → Nat) (S : zSt) (X : va_W) {a_z : Nat} {b_z : Nat} {i_1 : Int32} (v_z : zV S (2, a_z, b_z) = true) {y : Int32} (hf : fX1_speedBehindBump S a_z b_z i_1 = some y) : Met l yX1_speedBehindBump wsX1_speedBehindBump rmX1_speedBehindBump (zP0 Γ lo S X [.ref (lo (2, a_z, b_z)), .int i_1]) (zQ0 Γ lo S S X (some (.int y)) True) 0 0 (zA Γ) := by
  refine Met.ofW (cc := cX1_speedBehindBump) (maxL := 3) (ret := (some .int)) (by decide) rfl ?_
  intro p e s m args below meth c s₁ B hml hv
  obtain ⟨rfl, hW, hKK⟩ := hv
  have hx := B.exec
  have hb := B.bytes
  have hr := B.returns
  have hts := atoms_spec (ws := wsX1_speedBehindBump) B.pre
  have hown : s.vm.findClass RX1 = some m.cls := findClass_of_methodNamed B.named
  have hlocks := B.notSynchronized
  have hS : va_S (zA Γ) s.heap s.heap [] := va_S.rf
  have hm : ∀ c, zV S c = zV S c := fun _ => rfl
  have hl := lv_entry ([.ref (lo (2, a_z, b_z)), .int i_1]) (n := 3) (Nat.le_of_ble_eq_true rfl)
  rw [lg_entry_eq]
  generalize (lg_sl ([.ref (lo (2, a_z, b_z)), .int i_1]) ++ List.replicate (3 - (lg_sl ([.ref (lo (2, a_z, b_z)), .int i_1])).length) Slot.unset).toArray = ls at hl ⊢
  have hl : lv_has ls 3 [(0, .ref (lo (2, a_z, b_z))), (1, .int i_1)] := hl
  obtain ⟨H, hH0⟩ : ∃ H, H = s.heap := ⟨_, rfl⟩
  obtain ⟨locs, hlo0⟩ : ∃ L : List Loc, L = [] := ⟨_, rfl⟩
  have hS : va_S (zA Γ) s.heap H locs := by rw [hH0, hlo0]; exact hS
  have hW : Wd Γ lo S X H := by rw [hH0]; exact hW
  rw [← hH0, ← hlo0]
  unfold fX1_speedBehindBump at hf
  refine lv_iload_n hx hb dX1_speedBehindBump_0 rfl (lv_at hl 1 rfl) ?_
  obtain ⟨j1, ej1, hf⟩ := op_st hf
  have hj1 : ∀ (u_ : Unit) (H : Heap) (locs : List Loc) (ls : Array Slot), lv_has ls 3 [(1, .int i_1)] → Wd Γ lo S X H → va_S (zA Γ) s.heap H locs → (∀ c, zV S c = zV S c) → j1 () = some y → W p l e (headSpec wsX1_speedBehindBump rmX1_speedBehindBump).room s m ([.ref (lo (2, a_z, b_z)), .int i_1] : List Value).toArray below meth c H locs 0 0 (MQ below (zQ0 Γ lo S S X (some (.int y)) True) ([.ref (lo (2, a_z, b_z)), .int i_1] : List Value).toArray s 0 0 (zA Γ)) (F0 m 11 ls []) := by
    intro u_ H locs ls  hl hW hS hm hf
    rw [ej1] at hf
    refine lv_iload_n hx hb dX1_speedBehindBump_11 rfl (lv_at hl 0 rfl) ?_
    refine lv_ineg hx hb dX1_speedBehindBump_12 ?_
    have hf := Option.some.inj hf
    rw [← hf]
    exact z_iret hx hb hr hlocks rfl hW hS hm trivial dX1_speedBehindBump_13
  refine lv_if_eq (tgt := 11) hx hb dX1_speedBehindBump_1 (by decide) (fun k1 => ?_) (fun k1 => ?_)
  · have hf := (op_if hf).1 k1
    exact hj1 () H locs ls  (lv_sub hl [1] rfl) hW hS hm hf
  · have hf := (op_if hf).2 k1
    refine lv_aload_n hx hb dX1_speedBehindBump_4 rfl (lv_at hl 0 rfl) ?_
    obtain ⟨r2, hc3, hf⟩ := op_cl hf
    refine z_callV (As := []) (rest := []) ⟨hx, hb, hml, hown, hts⟩ (tX1_isBroken l Γ lo S X v_z hc3) (cwV 0 hts gX1_speedBehindBump_X1_isBroken rfl rfl rfl (by decide +kernel) ⟨Nat.le_of_ble_eq_true rfl, Nat.le_of_ble_eq_true rfl⟩) (wd_1 hW v_z) rfl hKK hW hS rfl hl.1 rfl (Nat.le_of_ble_eq_true rfl) dX1_speedBehindBump_5 ⟨Nat.zero_le _, Nat.zero_le _⟩ (fun H locs hW hS hm1 hE => ?_)
    have b4 := hE
    refine lv_if_eq (tgt := 14) hx hb dX1_speedBehindBump_8 (by decide) (fun k8 => ?_) (fun k8 => ?_)
    · have hf := (op_if hf).1 k8
      refine lv_bipush (v := (30)) hx hb dX1_speedBehindBump_14 (by decide) ?_
      refine lv_iload_n hx hb dX1_speedBehindBump_16 rfl (lv_at hl 1 rfl) ?_
      refine va_mabs hx hb (hml.trans hl.1.symm) hown (hts (.methodLink RX1 37 Lib.Math.abs.name) (List.mem_of_getElem? (i := 1) rfl)) (hts (.static Lib.Math.abs.name) (List.mem_of_getElem? (i := 2) rfl)) (hts (.initialized "java/lang/Math") (List.mem_of_getElem? (i := 3) rfl)) (hts (.code Lib.Math.abs.name Lib.Math.abs.code 1 (some .int)) (List.mem_of_getElem? (i := 4) rfl)) (by decide) (Nat.le_of_ble_eq_true rfl) (Nat.zero_le _) (Nat.zero_le _) dX1_speedBehindBump_17 ?_
      refine lv_aload_n hx hb dX1_speedBehindBump_20 rfl (lv_at hl 0 rfl) ?_
      refine va_get hx hb hts ni_X1_speedBehindBump_X1 hown hKK.1 (wd_1 hW v_z) 0 rfl rfl 4 (by decide) (hts (.fieldLink RX1 30 "TiltRoute$Bumper" "kick" "I") (List.mem_of_getElem? (i := 5) rfl)) (fun _ h => h) rfl dX1_speedBehindBump_21 ?_
      refine lv_iadd hx hb dX1_speedBehindBump_24 ?_
      refine va_mmin hx hb (hml.trans hl.1.symm) hown (hts (.methodLink RX1 43 Lib.Math.min.name) (List.mem_of_getElem? (i := 6) rfl)) (hts (.static Lib.Math.min.name) (List.mem_of_getElem? (i := 7) rfl)) (hts (.initialized "java/lang/Math") (List.mem_of_getElem? (i := 3) rfl)) (hts (.code Lib.Math.min.name Lib.Math.min.code 2 (some .int)) (List.mem_of_getElem? (i := 8) rfl)) (by decide) (Nat.le_of_ble_eq_true rfl) (Nat.zero_le _) (Nat.zero_le _) dX1_speedBehindBump_25 ?_
      obtain ⟨x5, ex5, hf⟩ := op_st hf
      refine z_istn (lv' := [(2, .int x5), (0, .ref (lo (2, a_z, b_z))), (1, .int i_1)]) ex5 hx hb dX1_speedBehindBump_28 rfl hl (by decide) rfl (fun ls hl => ?_)
      refine lv_iload_n hx hb dX1_speedBehindBump_29 rfl (lv_at hl 2 rfl) ?_
      refine lv_if_le (tgt := 38) hx hb dX1_speedBehindBump_30 (by decide) (fun k30 => ?_) (fun k30 => ?_)
      · have hf := (op_if hf).1 k30
        refine lv_iload_n hx hb dX1_speedBehindBump_38 rfl (lv_at hl 0 rfl) ?_
        have hf := Option.some.inj hf
        rw [← hf]
        exact z_iret hx hb hr hlocks rfl hW hS hm trivial dX1_speedBehindBump_39
      · have hf := (op_if hf).2 k30
        refine lv_iload_n hx hb dX1_speedBehindBump_33 rfl (lv_at hl 0 rfl) ?_
        refine lv_ineg hx hb dX1_speedBehindBump_34 ?_
        refine lv_goto (tgt := 39) hx hb dX1_speedBehindBump_35 (by decide) ?_
        have hf := Option.some.inj hf
        rw [← hf]
        exact z_iret hx hb hr hlocks rfl hW hS hm trivial dX1_speedBehindBump_39
    · have hf := (op_if hf).2 k8
      exact hj1 () H locs ls  (lv_sub hl [1] rfl) hW hS hm hf

theorem ni_X6_pointsOf_X6 : ∀ w ∈ wsX60, w ∈ wsX6_pointsOf := by decide +kernel
def fX6_pointsOf (S : zSt) (a_z : Nat) (b_z : Nat) (i_1 : Int32) : Option Int32 :=
st (fun (u_ : Unit) => (some ((0 : Int32)) : Option Int32)) fun j1 =>
if i_1 < 0 then
j1 ()
else
if (8 : Int32) ≤ i_1 then
j1 ()
else
gd (¬ (i_1 < 0 ∨ 8 ≤ i_1.toNatClampNeg)) (
some ((zI S (12, a_z, b_z) i_1.toNatClampNeg)))
abbrev rmX6_pointsOf : Room := { frames := 0, cells := 0, slots := 0, locals := 0 }
set_option maxHeartbeats 4000000 in
set_option maxRecDepth 100000 in
theorem tX6_pointsOf (l : Launch) (Γ : zG) (lo : zId → Nat) (S : zSt) (X : va_W) {a_z : Nat} {b_z : Nat} {i_1 : Int32} (v_z : zV S (7, a_z, b_z) = true) {y : Int32} (hf : fX6_pointsOf S a_z b_z i_1 = some y) : Met l yX6_pointsOf wsX6_pointsOf rmX6_pointsOf (zP0 Γ lo S X [.ref (lo (7, a_z, b_z)), .int i_1]) (zQ0 Γ lo S S X (some (.int y)) True) 0 0 (zA Γ) := by
  refine Met.ofW (cc := cX6_pointsOf) (maxL := 2) (ret := (some .int)) (by decide) rfl ?_
  intro p e s m args below meth c s₁ B hml hv
  obtain ⟨rfl, hW, hKK⟩ := hv
  have hx := B.exec
  have hb := B.bytes
  have hr := B.returns
  have hts := atoms_spec (ws := wsX6_pointsOf) B.pre
  have hown : s.vm.findClass RX6 = some m.cls := findClass_of_methodNamed B.named
  have hlocks := B.notSynchronized
  have hS : va_S (zA Γ) s.heap s.heap [] := va_S.rf
  have hm : ∀ c, zV S c = zV S c := fun _ => rfl
  have hl := lv_entry ([.ref (lo (7, a_z, b_z)), .int i_1]) (n := 2) (Nat.le_of_ble_eq_true rfl)
  rw [lg_entry_eq]
  generalize (lg_sl ([.ref (lo (7, a_z, b_z)), .int i_1]) ++ List.replicate (2 - (lg_sl ([.ref (lo (7, a_z, b_z)), .int i_1])).length) Slot.unset).toArray = ls at hl ⊢
  have hl : lv_has ls 2 [(0, .ref (lo (7, a_z, b_z))), (1, .int i_1)] := hl
  obtain ⟨H, hH0⟩ : ∃ H, H = s.heap := ⟨_, rfl⟩
  obtain ⟨locs, hlo0⟩ : ∃ L : List Loc, L = [] := ⟨_, rfl⟩
  have hS : va_S (zA Γ) s.heap H locs := by rw [hH0, hlo0]; exact hS
  have hW : Wd Γ lo S X H := by rw [hH0]; exact hW
  rw [← hH0, ← hlo0]
  unfold fX6_pointsOf at hf
  refine lv_iload_n hx hb dX6_pointsOf_0 rfl (lv_at hl 1 rfl) ?_
  obtain ⟨j1, ej1, hf⟩ := op_st hf
  have hj1 : ∀ (u_ : Unit) (H : Heap) (locs : List Loc) (ls : Array Slot), lv_has ls 2 [] → Wd Γ lo S X H → va_S (zA Γ) s.heap H locs → (∀ c, zV S c = zV S c) → j1 () = some y → W p l e (headSpec wsX6_pointsOf rmX6_pointsOf).room s m ([.ref (lo (7, a_z, b_z)), .int i_1] : List Value).toArray below meth c H locs 0 0 (MQ below (zQ0 Γ lo S S X (some (.int y)) True) ([.ref (lo (7, a_z, b_z)), .int i_1] : List Value).toArray s 0 0 (zA Γ)) (F0 m 22 ls []) := by
    intro u_ H locs ls  hl hW hS hm hf
    rw [ej1] at hf
    refine lv_iconst (v := (0)) hx hb dX6_pointsOf_22 (by decide) ?_
    have hf := Option.some.inj hf
    rw [← hf]
    exact z_iret hx hb hr hlocks rfl hW hS hm trivial dX6_pointsOf_23
  refine lv_if_lt (tgt := 22) hx hb dX6_pointsOf_1 (by decide) (fun k1 => ?_) (fun k1 => ?_)
  · have hf := (op_if hf).1 k1
    exact hj1 () H locs ls  (lv_sub hl [] rfl) hW hS hm hf
  · have hf := (op_if hf).2 k1
    refine lv_iload_n hx hb dX6_pointsOf_4 rfl (lv_at hl 1 rfl) ?_
    refine lv_aload_n hx hb dX6_pointsOf_5 rfl (lv_at hl 0 rfl) ?_
    refine va_get hx hb hts ni_X6_pointsOf_X6 hown hKK.1 (wd_1 hW v_z) 0 rfl rfl 0 (by decide) (hts (.fieldLink RX6 9 "TiltRoute$Rules" "points" "[I") (List.mem_of_getElem? (i := 1) rfl)) (fun _ h => h) rfl dX6_pointsOf_6 ?_
    have v2 : zV S (12, a_z, b_z) = true := vf_7_0 hW v_z
    refine va_alen (v := 8) hx hb hKK.1 (wd_1 hW v2) 0 0 rfl rfl (show Int32.ofNat 8 = 8 by decide) dX6_pointsOf_9 ?_
    refine lv_icmp_ge (tgt := 22) hx hb dX6_pointsOf_10 (by decide) (fun k10 => ?_) (fun k10 => ?_)
    · have hf := (op_if hf).1 k10
      exact hj1 () H locs ls  (lv_sub hl [] rfl) hW hS hm hf
    · have hf := (op_if hf).2 k10
      refine lv_aload_n hx hb dX6_pointsOf_13 rfl (lv_at hl 0 rfl) ?_
      refine va_get hx hb hts ni_X6_pointsOf_X6 hown hKK.1 (wd_1 hW v_z) 0 rfl rfl 0 (by decide) (hts (.fieldLink RX6 9 "TiltRoute$Rules" "points" "[I") (List.mem_of_getElem? (i := 1) rfl)) (fun _ h => h) rfl dX6_pointsOf_14 ?_
      have v3 : zV S (12, a_z, b_z) = true := vf_7_0 hW v_z
      refine lv_iload_n hx hb dX6_pointsOf_17 rfl (lv_at hl 1 rfl) ?_
      obtain ⟨h18, hf⟩ := op_gd hf
      refine va_iald hx hb hKK.1 (wd_1 hW v3) 0 0 (n := 8) rfl rfl h18 dX6_pointsOf_18 ?_
      refine lv_goto (tgt := 23) hx hb dX6_pointsOf_19 (by decide) ?_
      have hf := Option.some.inj hf
      rw [← hf]
      exact z_iret hx hb hr hlocks rfl hW hS hm trivial dX6_pointsOf_23

theorem ni_X6_changePoints_X6 : ∀ w ∈ wsX60, w ∈ wsX6_changePoints := by decide +kernel
def fX6_changePoints (S : zSt) (a_z : Nat) (b_z : Nat) (i_1 : Int32) (i_2 : Int32) : Option zSt :=
if i_1 < 0 then
some (S)
else
if (8 : Int32) ≤ i_1 then
some (S)
else
gd (¬ (i_1 < 0 ∨ 8 ≤ i_1.toNatClampNeg)) (
st (pI S (12, a_z, b_z) i_1.toNatClampNeg i_2) fun S3 =>
some (S3))
abbrev rmX6_changePoints : Room := { frames := 0, cells := 0, slots := 0, locals := 0 }
set_option maxHeartbeats 4000000 in
set_option maxRecDepth 100000 in
theorem tX6_changePoints (l : Launch) (Γ : zG) (lo : zId → Nat) (S : zSt) (X : va_W) {a_z : Nat} {b_z : Nat} {i_1 : Int32} {i_2 : Int32} (v_z : zV S (7, a_z, b_z) = true) {y : zSt} (hf : fX6_changePoints S a_z b_z i_1 i_2 = some y) : Met l yX6_changePoints wsX6_changePoints rmX6_changePoints (zP0 Γ lo S X [.ref (lo (7, a_z, b_z)), .int i_1, .int i_2]) (zQ0 Γ lo S y X none True) 0 0 (zA Γ) := by
  refine Met.ofW (cc := cX6_changePoints) (maxL := 3) (ret := none) (by decide) rfl ?_
  intro p e s m args below meth c s₁ B hml hv
  obtain ⟨rfl, hW, hKK⟩ := hv
  have hx := B.exec
  have hb := B.bytes
  have hr := B.returns
  have hts := atoms_spec (ws := wsX6_changePoints) B.pre
  have hown : s.vm.findClass RX6 = some m.cls := findClass_of_methodNamed B.named
  have hlocks := B.notSynchronized
  have hS : va_S (zA Γ) s.heap s.heap [] := va_S.rf
  have hm : ∀ c, zV S c = zV S c := fun _ => rfl
  have hl := lv_entry ([.ref (lo (7, a_z, b_z)), .int i_1, .int i_2]) (n := 3) (Nat.le_of_ble_eq_true rfl)
  rw [lg_entry_eq]
  generalize (lg_sl ([.ref (lo (7, a_z, b_z)), .int i_1, .int i_2]) ++ List.replicate (3 - (lg_sl ([.ref (lo (7, a_z, b_z)), .int i_1, .int i_2])).length) Slot.unset).toArray = ls at hl ⊢
  have hl : lv_has ls 3 [(0, .ref (lo (7, a_z, b_z))), (1, .int i_1), (2, .int i_2)] := hl
  obtain ⟨H, hH0⟩ : ∃ H, H = s.heap := ⟨_, rfl⟩
  obtain ⟨locs, hlo0⟩ : ∃ L : List Loc, L = [] := ⟨_, rfl⟩
  have hS : va_S (zA Γ) s.heap H locs := by rw [hH0, hlo0]; exact hS
  have hW : Wd Γ lo S X H := by rw [hH0]; exact hW
  rw [← hH0, ← hlo0]
  unfold fX6_changePoints at hf
  refine lv_iload_n hx hb dX6_changePoints_0 rfl (lv_at hl 1 rfl) ?_
  refine lv_if_lt (tgt := 20) hx hb dX6_changePoints_1 (by decide) (fun k1 => ?_) (fun k1 => ?_)
  · have hf := (op_if hf).1 k1
    have hf := Option.some.inj hf
    rw [← hf]
    exact z_vret hx hb hr hlocks hW hS hm trivial dX6_changePoints_20
  · have hf := (op_if hf).2 k1
    refine lv_iload_n hx hb dX6_changePoints_4 rfl (lv_at hl 1 rfl) ?_
    refine lv_aload_n hx hb dX6_changePoints_5 rfl (lv_at hl 0 rfl) ?_
    refine va_get hx hb hts ni_X6_changePoints_X6 hown hKK.1 (wd_1 hW v_z) 0 rfl rfl 0 (by decide) (hts (.fieldLink RX6 9 "TiltRoute$Rules" "points" "[I") (List.mem_of_getElem? (i := 1) rfl)) (fun _ h => h) rfl dX6_changePoints_6 ?_
    have v1 : zV S (12, a_z, b_z) = true := vf_7_0 hW v_z
    refine va_alen (v := 8) hx hb hKK.1 (wd_1 hW v1) 0 0 rfl rfl (show Int32.ofNat 8 = 8 by decide) dX6_changePoints_9 ?_
    refine lv_icmp_ge (tgt := 20) hx hb dX6_changePoints_10 (by decide) (fun k10 => ?_) (fun k10 => ?_)
    · have hf := (op_if hf).1 k10
      have hf := Option.some.inj hf
      rw [← hf]
      exact z_vret hx hb hr hlocks hW hS hm trivial dX6_changePoints_20
    · have hf := (op_if hf).2 k10
      refine lv_aload_n hx hb dX6_changePoints_13 rfl (lv_at hl 0 rfl) ?_
      refine va_get hx hb hts ni_X6_changePoints_X6 hown hKK.1 (wd_1 hW v_z) 0 rfl rfl 0 (by decide) (hts (.fieldLink RX6 9 "TiltRoute$Rules" "points" "[I") (List.mem_of_getElem? (i := 1) rfl)) (fun _ h => h) rfl dX6_changePoints_14 ?_
      have v2 : zV S (12, a_z, b_z) = true := vf_7_0 hW v_z
      refine lv_iload_n hx hb dX6_changePoints_17 rfl (lv_at hl 1 rfl) ?_
      refine lv_iload_n hx hb dX6_changePoints_18 rfl (lv_at hl 2 rfl) ?_
      obtain ⟨h19, hf⟩ := op_gd hf
      obtain ⟨S3, eS3, hf⟩ := op_st hf
      refine g_iast (n := 8) hx hb hKK.1 hW hS v2 (fun _ _ _ _ => rfl) h19 dX6_changePoints_19 eS3 (fun H locs hW hS => ?_)
      have hm : ∀ c, zV S3 c = zV S c := fun c => by rw [eS3]; rfl
      have hf := Option.some.inj hf
      rw [← hf]
      exact z_vret hx hb hr hlocks hW hS hm trivial dX6_changePoints_20

theorem ni_X6_modeOf_X6 : ∀ w ∈ wsX60, w ∈ wsX6_modeOf := by decide +kernel
def fX6_modeOf (S : zSt) (a_z : Nat) (b_z : Nat) (i_1 : Int32) : Option (Option Nat) :=
st (fun (u_ : Unit) => (some (none) : Option (Option Nat))) fun j1 =>
if i_1 < 0 then
j1 ()
else
if (4 : Int32) ≤ i_1 then
j1 ()
else
gd (¬ (i_1 < 0 ∨ 4 ≤ i_1.toNatClampNeg)) (
some ((zQ S (13, a_z, b_z) i_1.toNatClampNeg)))
abbrev rmX6_modeOf : Room := { frames := 0, cells := 0, slots := 0, locals := 0 }
set_option maxHeartbeats 4000000 in
set_option maxRecDepth 100000 in
theorem tX6_modeOf (l : Launch) (Γ : zG) (lo : zId → Nat) (S : zSt) (X : va_W) {a_z : Nat} {b_z : Nat} {i_1 : Int32} (v_z : zV S (7, a_z, b_z) = true) {y : (Option Nat)} (hf : fX6_modeOf S a_z b_z i_1 = some y) : Met l yX6_modeOf wsX6_modeOf rmX6_modeOf (zP0 Γ lo S X [.ref (lo (7, a_z, b_z)), .int i_1]) (zQ0 Γ lo S S X (some (va_rf (Option.map (fun n => lo (4, n, 0)) y))) (∀ n, y = some n → zV S (4, n, 0) = true)) 0 0 (zA Γ) := by
  refine Met.ofW (cc := cX6_modeOf) (maxL := 2) (ret := (some (.object "TiltRoute$Mode"))) (by decide) rfl ?_
  intro p e s m args below meth c s₁ B hml hv
  obtain ⟨rfl, hW, hKK⟩ := hv
  have hx := B.exec
  have hb := B.bytes
  have hr := B.returns
  have hts := atoms_spec (ws := wsX6_modeOf) B.pre
  have hown : s.vm.findClass RX6 = some m.cls := findClass_of_methodNamed B.named
  have hlocks := B.notSynchronized
  have hS : va_S (zA Γ) s.heap s.heap [] := va_S.rf
  have hm : ∀ c, zV S c = zV S c := fun _ => rfl
  have hl := lv_entry ([.ref (lo (7, a_z, b_z)), .int i_1]) (n := 2) (Nat.le_of_ble_eq_true rfl)
  rw [lg_entry_eq]
  generalize (lg_sl ([.ref (lo (7, a_z, b_z)), .int i_1]) ++ List.replicate (2 - (lg_sl ([.ref (lo (7, a_z, b_z)), .int i_1])).length) Slot.unset).toArray = ls at hl ⊢
  have hl : lv_has ls 2 [(0, .ref (lo (7, a_z, b_z))), (1, .int i_1)] := hl
  obtain ⟨H, hH0⟩ : ∃ H, H = s.heap := ⟨_, rfl⟩
  obtain ⟨locs, hlo0⟩ : ∃ L : List Loc, L = [] := ⟨_, rfl⟩
  have hS : va_S (zA Γ) s.heap H locs := by rw [hH0, hlo0]; exact hS
  have hW : Wd Γ lo S X H := by rw [hH0]; exact hW
  rw [← hH0, ← hlo0]
  unfold fX6_modeOf at hf
  refine lv_iload_n hx hb dX6_modeOf_0 rfl (lv_at hl 1 rfl) ?_
  obtain ⟨j1, ej1, hf⟩ := op_st hf
  have hj1 : ∀ (u_ : Unit) (H : Heap) (locs : List Loc) (ls : Array Slot), lv_has ls 2 [] → Wd Γ lo S X H → va_S (zA Γ) s.heap H locs → (∀ c, zV S c = zV S c) → j1 () = some y → W p l e (headSpec wsX6_modeOf rmX6_modeOf).room s m ([.ref (lo (7, a_z, b_z)), .int i_1] : List Value).toArray below meth c H locs 0 0 (MQ below (zQ0 Γ lo S S X (some (va_rf (Option.map (fun n => lo (4, n, 0)) y))) (∀ n, y = some n → zV S (4, n, 0) = true)) ([.ref (lo (7, a_z, b_z)), .int i_1] : List Value).toArray s 0 0 (zA Γ)) (F0 m 22 ls []) := by
    intro u_ H locs ls  hl hW hS hm hf
    rw [ej1] at hf
    refine lv_null hx hb dX6_modeOf_22 ?_
    have hf := Option.some.inj hf
    rw [← hf]
    exact z_aret (o := none) hx hb hr hlocks hW hS hm (fun _ h => nomatch h) dX6_modeOf_23
  refine lv_if_lt (tgt := 22) hx hb dX6_modeOf_1 (by decide) (fun k1 => ?_) (fun k1 => ?_)
  · have hf := (op_if hf).1 k1
    exact hj1 () H locs ls  (lv_sub hl [] rfl) hW hS hm hf
  · have hf := (op_if hf).2 k1
    refine lv_iload_n hx hb dX6_modeOf_4 rfl (lv_at hl 1 rfl) ?_
    refine lv_aload_n hx hb dX6_modeOf_5 rfl (lv_at hl 0 rfl) ?_
    refine va_get hx hb hts ni_X6_modeOf_X6 hown hKK.1 (wd_1 hW v_z) 0 rfl rfl 1 (by decide) (hts (.fieldLink RX6 17 "TiltRoute$Rules" "modes" "[LTiltRoute$Mode;") (List.mem_of_getElem? (i := 1) rfl)) (fun _ h => h) rfl dX6_modeOf_6 ?_
    have v2 : zV S (13, a_z, b_z) = true := vf_7_1 hW v_z
    refine va_alen (v := 4) hx hb hKK.1 (wd_1 hW v2) 0 3 rfl rfl (show Int32.ofNat 4 = 4 by decide) dX6_modeOf_9 ?_
    refine lv_icmp_ge (tgt := 22) hx hb dX6_modeOf_10 (by decide) (fun k10 => ?_) (fun k10 => ?_)
    · have hf := (op_if hf).1 k10
      exact hj1 () H locs ls  (lv_sub hl [] rfl) hW hS hm hf
    · have hf := (op_if hf).2 k10
      refine lv_aload_n hx hb dX6_modeOf_13 rfl (lv_at hl 0 rfl) ?_
      refine va_get hx hb hts ni_X6_modeOf_X6 hown hKK.1 (wd_1 hW v_z) 0 rfl rfl 1 (by decide) (hts (.fieldLink RX6 17 "TiltRoute$Rules" "modes" "[LTiltRoute$Mode;") (List.mem_of_getElem? (i := 1) rfl)) (fun _ h => h) rfl dX6_modeOf_14 ?_
      have v3 : zV S (13, a_z, b_z) = true := vf_7_1 hW v_z
      refine lv_iload_n hx hb dX6_modeOf_17 rfl (lv_at hl 1 rfl) ?_
      obtain ⟨h18, hf⟩ := op_gd hf
      refine z_aldq hx hb hKK.1 hW v3 h18 dX6_modeOf_18 ?_
      have v4 : ∀ n, (zQ S (13, a_z, b_z) i_1.toNatClampNeg) = some n → zV S (4, n, 0) = true := fun n h => vf_13 hW v3 (z_in4 h18) h
      refine lv_goto (tgt := 23) hx hb dX6_modeOf_19 (by decide) ?_
      have hf := Option.some.inj hf
      rw [← hf]
      exact z_aret hx hb hr hlocks hW hS hm v4 dX6_modeOf_23

theorem ni_X8_spareOf_X8 : ∀ w ∈ wsX80, w ∈ wsX8_spareOf := by decide +kernel
def fX8_spareOf (S : zSt) (a_z : Nat) (i_1 : Int32) : Option Int32 :=
st (fun (u_ : Unit) => (some ((0 : Int32)) : Option Int32)) fun j1 =>
if i_1 < 0 then
j1 ()
else
if (2 : Int32) ≤ i_1 then
j1 ()
else
gd (¬ (i_1 < 0 ∨ 2 ≤ i_1.toNatClampNeg)) (
some ((zI S (20, a_z, 0) i_1.toNatClampNeg)))
abbrev rmX8_spareOf : Room := { frames := 0, cells := 0, slots := 0, locals := 0 }
set_option maxHeartbeats 4000000 in
set_option maxRecDepth 100000 in
theorem tX8_spareOf (l : Launch) (Γ : zG) (lo : zId → Nat) (S : zSt) (X : va_W) {a_z : Nat} {i_1 : Int32} (v_z : zV S (9, a_z, 0) = true) {y : Int32} (hf : fX8_spareOf S a_z i_1 = some y) : Met l yX8_spareOf wsX8_spareOf rmX8_spareOf (zP0 Γ lo S X [.ref (lo (9, a_z, 0)), .int i_1]) (zQ0 Γ lo S S X (some (.int y)) True) 0 0 (zA Γ) := by
  refine Met.ofW (cc := cX8_spareOf) (maxL := 2) (ret := (some .int)) (by decide) rfl ?_
  intro p e s m args below meth c s₁ B hml hv
  obtain ⟨rfl, hW, hKK⟩ := hv
  have hx := B.exec
  have hb := B.bytes
  have hr := B.returns
  have hts := atoms_spec (ws := wsX8_spareOf) B.pre
  have hown : s.vm.findClass RX8 = some m.cls := findClass_of_methodNamed B.named
  have hlocks := B.notSynchronized
  have hS : va_S (zA Γ) s.heap s.heap [] := va_S.rf
  have hm : ∀ c, zV S c = zV S c := fun _ => rfl
  have hl := lv_entry ([.ref (lo (9, a_z, 0)), .int i_1]) (n := 2) (Nat.le_of_ble_eq_true rfl)
  rw [lg_entry_eq]
  generalize (lg_sl ([.ref (lo (9, a_z, 0)), .int i_1]) ++ List.replicate (2 - (lg_sl ([.ref (lo (9, a_z, 0)), .int i_1])).length) Slot.unset).toArray = ls at hl ⊢
  have hl : lv_has ls 2 [(0, .ref (lo (9, a_z, 0))), (1, .int i_1)] := hl
  obtain ⟨H, hH0⟩ : ∃ H, H = s.heap := ⟨_, rfl⟩
  obtain ⟨locs, hlo0⟩ : ∃ L : List Loc, L = [] := ⟨_, rfl⟩
  have hS : va_S (zA Γ) s.heap H locs := by rw [hH0, hlo0]; exact hS
  have hW : Wd Γ lo S X H := by rw [hH0]; exact hW
  rw [← hH0, ← hlo0]
  unfold fX8_spareOf at hf
  refine lv_iload_n hx hb dX8_spareOf_0 rfl (lv_at hl 1 rfl) ?_
  obtain ⟨j1, ej1, hf⟩ := op_st hf
  have hj1 : ∀ (u_ : Unit) (H : Heap) (locs : List Loc) (ls : Array Slot), lv_has ls 2 [] → Wd Γ lo S X H → va_S (zA Γ) s.heap H locs → (∀ c, zV S c = zV S c) → j1 () = some y → W p l e (headSpec wsX8_spareOf rmX8_spareOf).room s m ([.ref (lo (9, a_z, 0)), .int i_1] : List Value).toArray below meth c H locs 0 0 (MQ below (zQ0 Γ lo S S X (some (.int y)) True) ([.ref (lo (9, a_z, 0)), .int i_1] : List Value).toArray s 0 0 (zA Γ)) (F0 m 22 ls []) := by
    intro u_ H locs ls  hl hW hS hm hf
    rw [ej1] at hf
    refine lv_iconst (v := (0)) hx hb dX8_spareOf_22 (by decide) ?_
    have hf := Option.some.inj hf
    rw [← hf]
    exact z_iret hx hb hr hlocks rfl hW hS hm trivial dX8_spareOf_23
  refine lv_if_lt (tgt := 22) hx hb dX8_spareOf_1 (by decide) (fun k1 => ?_) (fun k1 => ?_)
  · have hf := (op_if hf).1 k1
    exact hj1 () H locs ls  (lv_sub hl [] rfl) hW hS hm hf
  · have hf := (op_if hf).2 k1
    refine lv_iload_n hx hb dX8_spareOf_4 rfl (lv_at hl 1 rfl) ?_
    refine lv_aload_n hx hb dX8_spareOf_5 rfl (lv_at hl 0 rfl) ?_
    refine va_get hx hb hts ni_X8_spareOf_X8 hown hKK.1 (wd_1 hW v_z) 0 rfl rfl 0 (by decide) (hts (.fieldLink RX8 9 "TiltRoute$Van" "spare" "[I") (List.mem_of_getElem? (i := 1) rfl)) (fun _ h => h) rfl dX8_spareOf_6 ?_
    have v2 : zV S (20, a_z, 0) = true := vf_9_0 hW v_z
    refine va_alen (v := 2) hx hb hKK.1 (wd_1 hW v2) 0 0 rfl rfl (show Int32.ofNat 2 = 2 by decide) dX8_spareOf_9 ?_
    refine lv_icmp_ge (tgt := 22) hx hb dX8_spareOf_10 (by decide) (fun k10 => ?_) (fun k10 => ?_)
    · have hf := (op_if hf).1 k10
      exact hj1 () H locs ls  (lv_sub hl [] rfl) hW hS hm hf
    · have hf := (op_if hf).2 k10
      refine lv_aload_n hx hb dX8_spareOf_13 rfl (lv_at hl 0 rfl) ?_
      refine va_get hx hb hts ni_X8_spareOf_X8 hown hKK.1 (wd_1 hW v_z) 0 rfl rfl 0 (by decide) (hts (.fieldLink RX8 9 "TiltRoute$Van" "spare" "[I") (List.mem_of_getElem? (i := 1) rfl)) (fun _ h => h) rfl dX8_spareOf_14 ?_
      have v3 : zV S (20, a_z, 0) = true := vf_9_0 hW v_z
      refine lv_iload_n hx hb dX8_spareOf_17 rfl (lv_at hl 1 rfl) ?_
      obtain ⟨h18, hf⟩ := op_gd hf
      refine va_iald hx hb hKK.1 (wd_1 hW v3) 0 0 (n := 2) rfl rfl h18 dX8_spareOf_18 ?_
      refine lv_goto (tgt := 23) hx hb dX8_spareOf_19 (by decide) ?_
      have hf := Option.some.inj hf
      rw [← hf]
      exact z_iret hx hb hr hlocks rfl hW hS hm trivial dX8_spareOf_23

theorem ni_X8_addSpare_X8 : ∀ w ∈ wsX80, w ∈ wsX8_addSpare := by decide +kernel
def fX8_addSpare (S : zSt) (a_z : Nat) (i_1 : Int32) (i_2 : Int32) : Option zSt :=
if i_1 < 0 then
some (S)
else
if (2 : Int32) ≤ i_1 then
some (S)
else
gd (¬ (i_1 < 0 ∨ 2 ≤ i_1.toNatClampNeg)) (
gd (¬ (i_1 < 0 ∨ 2 ≤ i_1.toNatClampNeg)) (
st (pI S (20, a_z, 0) i_1.toNatClampNeg ((zI S (20, a_z, 0) i_1.toNatClampNeg) + i_2)) fun S3 =>
some (S3)))
abbrev rmX8_addSpare : Room := { frames := 0, cells := 0, slots := 0, locals := 0 }
set_option maxHeartbeats 4000000 in
set_option maxRecDepth 100000 in
theorem tX8_addSpare (l : Launch) (Γ : zG) (lo : zId → Nat) (S : zSt) (X : va_W) {a_z : Nat} {i_1 : Int32} {i_2 : Int32} (v_z : zV S (9, a_z, 0) = true) {y : zSt} (hf : fX8_addSpare S a_z i_1 i_2 = some y) : Met l yX8_addSpare wsX8_addSpare rmX8_addSpare (zP0 Γ lo S X [.ref (lo (9, a_z, 0)), .int i_1, .int i_2]) (zQ0 Γ lo S y X none True) 0 0 (zA Γ) := by
  refine Met.ofW (cc := cX8_addSpare) (maxL := 3) (ret := none) (by decide) rfl ?_
  intro p e s m args below meth c s₁ B hml hv
  obtain ⟨rfl, hW, hKK⟩ := hv
  have hx := B.exec
  have hb := B.bytes
  have hr := B.returns
  have hts := atoms_spec (ws := wsX8_addSpare) B.pre
  have hown : s.vm.findClass RX8 = some m.cls := findClass_of_methodNamed B.named
  have hlocks := B.notSynchronized
  have hS : va_S (zA Γ) s.heap s.heap [] := va_S.rf
  have hm : ∀ c, zV S c = zV S c := fun _ => rfl
  have hl := lv_entry ([.ref (lo (9, a_z, 0)), .int i_1, .int i_2]) (n := 3) (Nat.le_of_ble_eq_true rfl)
  rw [lg_entry_eq]
  generalize (lg_sl ([.ref (lo (9, a_z, 0)), .int i_1, .int i_2]) ++ List.replicate (3 - (lg_sl ([.ref (lo (9, a_z, 0)), .int i_1, .int i_2])).length) Slot.unset).toArray = ls at hl ⊢
  have hl : lv_has ls 3 [(0, .ref (lo (9, a_z, 0))), (1, .int i_1), (2, .int i_2)] := hl
  obtain ⟨H, hH0⟩ : ∃ H, H = s.heap := ⟨_, rfl⟩
  obtain ⟨locs, hlo0⟩ : ∃ L : List Loc, L = [] := ⟨_, rfl⟩
  have hS : va_S (zA Γ) s.heap H locs := by rw [hH0, hlo0]; exact hS
  have hW : Wd Γ lo S X H := by rw [hH0]; exact hW
  rw [← hH0, ← hlo0]
  unfold fX8_addSpare at hf
  refine lv_iload_n hx hb dX8_addSpare_0 rfl (lv_at hl 1 rfl) ?_
  refine lv_if_lt (tgt := 23) hx hb dX8_addSpare_1 (by decide) (fun k1 => ?_) (fun k1 => ?_)
  · have hf := (op_if hf).1 k1
    have hf := Option.some.inj hf
    rw [← hf]
    exact z_vret hx hb hr hlocks hW hS hm trivial dX8_addSpare_23
  · have hf := (op_if hf).2 k1
    refine lv_iload_n hx hb dX8_addSpare_4 rfl (lv_at hl 1 rfl) ?_
    refine lv_aload_n hx hb dX8_addSpare_5 rfl (lv_at hl 0 rfl) ?_
    refine va_get hx hb hts ni_X8_addSpare_X8 hown hKK.1 (wd_1 hW v_z) 0 rfl rfl 0 (by decide) (hts (.fieldLink RX8 9 "TiltRoute$Van" "spare" "[I") (List.mem_of_getElem? (i := 1) rfl)) (fun _ h => h) rfl dX8_addSpare_6 ?_
    have v1 : zV S (20, a_z, 0) = true := vf_9_0 hW v_z
    refine va_alen (v := 2) hx hb hKK.1 (wd_1 hW v1) 0 0 rfl rfl (show Int32.ofNat 2 = 2 by decide) dX8_addSpare_9 ?_
    refine lv_icmp_ge (tgt := 23) hx hb dX8_addSpare_10 (by decide) (fun k10 => ?_) (fun k10 => ?_)
    · have hf := (op_if hf).1 k10
      have hf := Option.some.inj hf
      rw [← hf]
      exact z_vret hx hb hr hlocks hW hS hm trivial dX8_addSpare_23
    · have hf := (op_if hf).2 k10
      refine lv_aload_n hx hb dX8_addSpare_13 rfl (lv_at hl 0 rfl) ?_
      refine va_get hx hb hts ni_X8_addSpare_X8 hown hKK.1 (wd_1 hW v_z) 0 rfl rfl 0 (by decide) (hts (.fieldLink RX8 9 "TiltRoute$Van" "spare" "[I") (List.mem_of_getElem? (i := 1) rfl)) (fun _ h => h) rfl dX8_addSpare_14 ?_
      have v2 : zV S (20, a_z, 0) = true := vf_9_0 hW v_z
      refine lv_iload_n hx hb dX8_addSpare_17 rfl (lv_at hl 1 rfl) ?_
      refine lv_dup2_11 hx hb dX8_addSpare_18 rfl rfl ?_
      obtain ⟨h19, hf⟩ := op_gd hf
      refine va_iald hx hb hKK.1 (wd_1 hW v2) 0 0 (n := 2) rfl rfl h19 dX8_addSpare_19 ?_
      refine lv_iload_n hx hb dX8_addSpare_20 rfl (lv_at hl 2 rfl) ?_
      refine lv_iadd hx hb dX8_addSpare_21 ?_
      obtain ⟨h22, hf⟩ := op_gd hf
      obtain ⟨S3, eS3, hf⟩ := op_st hf
      refine g_iast (n := 2) hx hb hKK.1 hW hS v2 (fun _ _ _ _ => rfl) h22 dX8_addSpare_22 eS3 (fun H locs hW hS => ?_)
      have hm : ∀ c, zV S3 c = zV S c := fun c => by rw [eS3]; rfl
      have hf := Option.some.inj hf
      rw [← hf]
      exact z_vret hx hb hr hlocks hW hS hm trivial dX8_addSpare_23

def fX8_takeSpare (S : zSt) (a_z : Nat) (i_1 : Int32) : Option (Int32 × zSt) :=
cl (fX8_spareOf S a_z i_1) fun r1 =>
if r1 = 0 then
some (((0 : Int32), S))
else
cl (fX8_addSpare S a_z i_1 (-1 : Int32)) fun S5 =>
some (((1 : Int32), S5))
abbrev rmX8_takeSpare : Room := { frames := 1, cells := 0, slots := 0, locals := 22 }
set_option maxHeartbeats 4000000 in
set_option maxRecDepth 100000 in
theorem tX8_takeSpare (l : Launch) (Γ : zG) (lo : zId → Nat) (S : zSt) (X : va_W) {a_z : Nat} {i_1 : Int32} (v_z : zV S (9, a_z, 0) = true) {y : (Int32 × zSt)} (hf : fX8_takeSpare S a_z i_1 = some y) : Met l yX8_takeSpare wsX8_takeSpare rmX8_takeSpare (zP0 Γ lo S X [.ref (lo (9, a_z, 0)), .int i_1]) (zQ0 Γ lo S y.2 X (some (.int y.1)) (y.1 = 0 ∨ y.1 = 1)) 0 0 (zA Γ) := by
  refine Met.ofW (cc := cX8_takeSpare) (maxL := 2) (ret := (some .boolean)) (by decide) rfl ?_
  intro p e s m args below meth c s₁ B hml hv
  obtain ⟨rfl, hW, hKK⟩ := hv
  have hx := B.exec
  have hb := B.bytes
  have hr := B.returns
  have hts := atoms_spec (ws := wsX8_takeSpare) B.pre
  have hown : s.vm.findClass RX8 = some m.cls := findClass_of_methodNamed B.named
  have hlocks := B.notSynchronized
  have hS : va_S (zA Γ) s.heap s.heap [] := va_S.rf
  have hm : ∀ c, zV S c = zV S c := fun _ => rfl
  have hl := lv_entry ([.ref (lo (9, a_z, 0)), .int i_1]) (n := 2) (Nat.le_of_ble_eq_true rfl)
  rw [lg_entry_eq]
  generalize (lg_sl ([.ref (lo (9, a_z, 0)), .int i_1]) ++ List.replicate (2 - (lg_sl ([.ref (lo (9, a_z, 0)), .int i_1])).length) Slot.unset).toArray = ls at hl ⊢
  have hl : lv_has ls 2 [(0, .ref (lo (9, a_z, 0))), (1, .int i_1)] := hl
  obtain ⟨H, hH0⟩ : ∃ H, H = s.heap := ⟨_, rfl⟩
  obtain ⟨locs, hlo0⟩ : ∃ L : List Loc, L = [] := ⟨_, rfl⟩
  have hS : va_S (zA Γ) s.heap H locs := by rw [hH0, hlo0]; exact hS
  have hW : Wd Γ lo S X H := by rw [hH0]; exact hW
  rw [← hH0, ← hlo0]
  unfold fX8_takeSpare at hf
  refine lv_aload_n hx hb dX8_takeSpare_0 rfl (lv_at hl 0 rfl) ?_
  refine lv_iload_n hx hb dX8_takeSpare_1 rfl (lv_at hl 1 rfl) ?_
  obtain ⟨r1, hc2, hf⟩ := op_cl hf
  refine z_callV (As := [.int i_1]) (rest := []) ⟨hx, hb, hml, hown, hts⟩ (tX8_spareOf l Γ lo S X v_z hc2) (cwV 1 hts gX8_takeSpare_X8_spareOf rfl rfl rfl (by decide +kernel) ⟨Nat.le_of_ble_eq_true rfl, Nat.le_of_ble_eq_true rfl⟩) (wd_1 hW v_z) rfl hKK hW hS rfl hl.1 rfl (Nat.le_of_ble_eq_true rfl) dX8_takeSpare_2 ⟨Nat.zero_le _, Nat.zero_le _⟩ (fun H locs hW hS hm1 hE => ?_)
  refine lv_if_ne (tgt := 10) hx hb dX8_takeSpare_5 (by decide) (fun k5 => ?_) (fun k5 => ?_)
  · have hf := (op_if hf).2 k5
    refine lv_aload_n hx hb dX8_takeSpare_10 rfl (lv_at hl 0 rfl) ?_
    refine lv_iload_n hx hb dX8_takeSpare_11 rfl (lv_at hl 1 rfl) ?_
    refine lv_iconst (v := (-1)) hx hb dX8_takeSpare_12 (by decide) ?_
    obtain ⟨S5, hc4, hf⟩ := op_cl hf
    refine z_callV (As := [.int i_1, .int (-1 : Int32)]) (rest := []) ⟨hx, hb, hml, hown, hts⟩ (tX8_addSpare l Γ lo S X v_z hc4) (cwV 2 hts gX8_takeSpare_X8_addSpare rfl rfl rfl (by decide +kernel) ⟨Nat.le_of_ble_eq_true rfl, Nat.le_of_ble_eq_true rfl⟩) (wd_1 hW v_z) rfl hKK hW hS rfl hl.1 rfl (Nat.le_of_ble_eq_true rfl) dX8_takeSpare_13 ⟨Nat.zero_le _, Nat.zero_le _⟩ (fun H locs hW hS hm1 hE => ?_)
    have hm : ∀ c, zV S5 c = zV S c := hm1
    refine lv_iconst (v := (1)) hx hb dX8_takeSpare_16 (by decide) ?_
    have hf := Option.some.inj hf
    rw [← hf]
    exact z_iret hx hb hr hlocks (z_bb (Or.inr rfl)) hW hS hm (Or.inr rfl) dX8_takeSpare_17
  · have hf := (op_if hf).1 k5
    refine lv_iconst (v := (0)) hx hb dX8_takeSpare_8 (by decide) ?_
    have hf := Option.some.inj hf
    rw [← hf]
    exact z_iret hx hb hr hlocks (z_bb (Or.inl rfl)) hW hS hm (Or.inl rfl) dX8_takeSpare_9

theorem ni_X5_restart_X5 : ∀ w ∈ wsX50, w ∈ wsX5_restart := by decide +kernel
def fX5_restart (S : zSt) (a_z : Nat) (b_z : Nat) : Option zSt :=
st (pI S (6, a_z, b_z) 2 (0 : Int32)) fun S1 =>
st (pI S1 (6, a_z, b_z) 3 (0 : Int32)) fun S2 =>
some (S2)
abbrev rmX5_restart : Room := { frames := 0, cells := 0, slots := 0, locals := 0 }
set_option maxHeartbeats 4000000 in
set_option maxRecDepth 100000 in
theorem tX5_restart (l : Launch) (Γ : zG) (lo : zId → Nat) (S : zSt) (X : va_W) {a_z : Nat} {b_z : Nat} (v_z : zV S (6, a_z, b_z) = true) {y : zSt} (hf : fX5_restart S a_z b_z = some y) : Met l yX5_restart wsX5_restart rmX5_restart (zP0 Γ lo S X [.ref (lo (6, a_z, b_z))]) (zQ0 Γ lo S y X none True) 0 0 (zA Γ) := by
  refine Met.ofW (cc := cX5_restart) (maxL := 1) (ret := none) (by decide) rfl ?_
  intro p e s m args below meth c s₁ B hml hv
  obtain ⟨rfl, hW, hKK⟩ := hv
  have hx := B.exec
  have hb := B.bytes
  have hr := B.returns
  have hts := atoms_spec (ws := wsX5_restart) B.pre
  have hown : s.vm.findClass RX5 = some m.cls := findClass_of_methodNamed B.named
  have hlocks := B.notSynchronized
  have hS : va_S (zA Γ) s.heap s.heap [] := va_S.rf
  have hm : ∀ c, zV S c = zV S c := fun _ => rfl
  have hl := lv_entry ([.ref (lo (6, a_z, b_z))]) (n := 1) (Nat.le_of_ble_eq_true rfl)
  rw [lg_entry_eq]
  generalize (lg_sl ([.ref (lo (6, a_z, b_z))]) ++ List.replicate (1 - (lg_sl ([.ref (lo (6, a_z, b_z))])).length) Slot.unset).toArray = ls at hl ⊢
  have hl : lv_has ls 1 [(0, .ref (lo (6, a_z, b_z)))] := hl
  obtain ⟨H, hH0⟩ : ∃ H, H = s.heap := ⟨_, rfl⟩
  obtain ⟨locs, hlo0⟩ : ∃ L : List Loc, L = [] := ⟨_, rfl⟩
  have hS : va_S (zA Γ) s.heap H locs := by rw [hH0, hlo0]; exact hS
  have hW : Wd Γ lo S X H := by rw [hH0]; exact hW
  rw [← hH0, ← hlo0]
  unfold fX5_restart at hf
  refine lv_aload_n hx hb dX5_restart_0 rfl (lv_at hl 0 rfl) ?_
  refine lv_iconst (v := (0)) hx hb dX5_restart_1 (by decide) ?_
  obtain ⟨S1, eS1, hf⟩ := op_st hf
  refine g_put hx hb hts ni_X5_restart_X5 tyX5 tyX5_ok nmX5 hown hKK.1 hW hS v_z rfl rfl 2 (by decide) (hts (.fieldLink RX5 18 "TiltRoute$Play" "depth" "I") (List.mem_of_getElem? (i := 1) rfl)) rfl rfl rfl (show 2 < 4 by decide) rfl dX5_restart_2 eS1 (fun H locs hW hS => ?_)
  have hm : ∀ c, zV S1 c = zV S c := fun c => by rw [eS1]; rfl
  refine lv_aload_n hx hb dX5_restart_5 rfl (lv_at hl 0 rfl) ?_
  refine lv_iconst (v := (0)) hx hb dX5_restart_6 (by decide) ?_
  obtain ⟨S2, eS2, hf⟩ := op_st hf
  refine g_put hx hb hts ni_X5_restart_X5 tyX5 tyX5_ok nmX5 hown hKK.1 hW hS ((hm _).trans v_z) rfl rfl 3 (by decide) (hts (.fieldLink RX5 22 "TiltRoute$Play" "score" "I") (List.mem_of_getElem? (i := 2) rfl)) rfl rfl rfl (show 3 < 4 by decide) rfl dX5_restart_7 eS2 (fun H locs hW hS => ?_)
  have hm : ∀ c, zV S2 c = zV S c := fun c => by rw [eS2]; exact hm c
  have hf := Option.some.inj hf
  rw [← hf]
  exact z_vret hx hb hr hlocks hW hS hm trivial dX5_restart_10

theorem ni_X5_isStacked_X5 : ∀ w ∈ wsX50, w ∈ wsX5_isStacked := by decide +kernel
def fX5_isStacked (S : zSt) (a_z : Nat) (b_z : Nat) (i_1 : Int32) : Option Int32 :=
st (0 : Int32) fun x1 =>
lp (fun (q2 : (Int32)) => (st (fun (u_ : Unit) => (some (.inr ((0 : Int32))) : Option ((Int32) ⊕ Int32))) fun j8 =>
if (zI S (6, a_z, b_z) 2) ≤ q2 then
j8 ()
else
if (3 : Int32) ≤ q2 then
j8 ()
else
gd (¬ (q2 < 0 ∨ 3 ≤ q2.toNatClampNeg)) (
if (zI S (14, a_z, b_z) q2.toNatClampNeg) = i_1 then
some (.inr ((1 : Int32)))
else
st (q2 + (1 : Int32)) fun x11 =>
some (.inl (x11))) : Option ((Int32) ⊕ Int32))) 40000 (x1)
abbrev rmX5_isStacked : Room := { frames := 0, cells := 0, slots := 0, locals := 0 }
set_option maxHeartbeats 4000000 in
set_option maxRecDepth 100000 in
theorem tX5_isStacked (l : Launch) (Γ : zG) (lo : zId → Nat) (S : zSt) (X : va_W) {a_z : Nat} {b_z : Nat} {i_1 : Int32} (v_z : zV S (6, a_z, b_z) = true) {y : Int32} (hf : fX5_isStacked S a_z b_z i_1 = some y) : Met l yX5_isStacked wsX5_isStacked rmX5_isStacked (zP0 Γ lo S X [.ref (lo (6, a_z, b_z)), .int i_1]) (zQ0 Γ lo S S X (some (.int y)) (y = 0 ∨ y = 1)) 0 0 (zA Γ) := by
  refine Met.ofW (cc := cX5_isStacked) (maxL := 3) (ret := (some .boolean)) (by decide) rfl ?_
  intro p e s m args below meth c s₁ B hml hv
  obtain ⟨rfl, hW, hKK⟩ := hv
  have hx := B.exec
  have hb := B.bytes
  have hr := B.returns
  have hts := atoms_spec (ws := wsX5_isStacked) B.pre
  have hown : s.vm.findClass RX5 = some m.cls := findClass_of_methodNamed B.named
  have hlocks := B.notSynchronized
  have hS : va_S (zA Γ) s.heap s.heap [] := va_S.rf
  have hm : ∀ c, zV S c = zV S c := fun _ => rfl
  have hl := lv_entry ([.ref (lo (6, a_z, b_z)), .int i_1]) (n := 3) (Nat.le_of_ble_eq_true rfl)
  rw [lg_entry_eq]
  generalize (lg_sl ([.ref (lo (6, a_z, b_z)), .int i_1]) ++ List.replicate (3 - (lg_sl ([.ref (lo (6, a_z, b_z)), .int i_1])).length) Slot.unset).toArray = ls at hl ⊢
  have hl : lv_has ls 3 [(0, .ref (lo (6, a_z, b_z))), (1, .int i_1)] := hl
  obtain ⟨H, hH0⟩ : ∃ H, H = s.heap := ⟨_, rfl⟩
  obtain ⟨locs, hlo0⟩ : ∃ L : List Loc, L = [] := ⟨_, rfl⟩
  have hS : va_S (zA Γ) s.heap H locs := by rw [hH0, hlo0]; exact hS
  have hW : Wd Γ lo S X H := by rw [hH0]; exact hW
  rw [← hH0, ← hlo0]
  unfold fX5_isStacked at hf
  refine lv_iconst (v := (0)) hx hb dX5_isStacked_0 (by decide) ?_
  obtain ⟨x1, ex1, hf⟩ := op_st hf
  refine z_istn (lv' := [(2, .int x1), (0, .ref (lo (6, a_z, b_z))), (1, .int i_1)]) ex1 hx hb dX5_isStacked_1 rfl hl (by decide) rfl (fun ls hl => ?_)
  obtain ⟨w4, q20, ew4, eq20, hf⟩ := op_lb hf
  have hw4 : ∀ n7 : Nat, ∀ (q2 : (Int32)) (H : Heap) (locs : List Loc) (ls : Array Slot), lv_has ls 3 [(2, .int q2), (0, .ref (lo (6, a_z, b_z))), (1, .int i_1)] → Wd Γ lo S X H → va_S (zA Γ) s.heap H locs → (∀ c, zV S c = zV S c) → lp w4 n7 q2 = some y → W p l e (headSpec wsX5_isStacked rmX5_isStacked).room s m ([.ref (lo (6, a_z, b_z)), .int i_1] : List Value).toArray below meth c H locs 0 0 (MQ below (zQ0 Γ lo S S X (some (.int y)) (y = 0 ∨ y = 1)) ([.ref (lo (6, a_z, b_z)), .int i_1] : List Value).toArray s 0 0 (zA Γ)) (F0 m 2 ls []) := by
    intro n7
    induction n7 with
    | zero => intro q2 H locs ls hl hW hS hm hf; cases hf
    | succ n7 ih5 =>
      intro q2 H locs ls hl hW hS hm hf
      obtain ⟨n_, r3, hn_, hf, hr6⟩ := op_lq hf
      cases hn_
      rw [ew4] at hf
      refine lv_iload_n hx hb dX5_isStacked_2 rfl (lv_at hl 0 rfl) ?_
      refine lv_aload_n hx hb dX5_isStacked_3 rfl (lv_at hl 1 rfl) ?_
      refine va_get hx hb hts ni_X5_isStacked_X5 hown hKK.1 (wd_1 hW v_z) 0 rfl rfl 2 (by decide) (hts (.fieldLink RX5 18 "TiltRoute$Play" "depth" "I") (List.mem_of_getElem? (i := 1) rfl)) (fun _ h => h) rfl dX5_isStacked_4 ?_
      obtain ⟨j8, ej8, hf⟩ := op_st hf
      have hj8 : ∀ (u_ : Unit) (H : Heap) (locs : List Loc) (ls : Array Slot), lv_has ls 3 [] → Wd Γ lo S X H → va_S (zA Γ) s.heap H locs → (∀ c, zV S c = zV S c) → j8 () = some r3 → W p l e (headSpec wsX5_isStacked rmX5_isStacked).room s m ([.ref (lo (6, a_z, b_z)), .int i_1] : List Value).toArray below meth c H locs 0 0 (MQ below (zQ0 Γ lo S S X (some (.int y)) (y = 0 ∨ y = 1)) ([.ref (lo (6, a_z, b_z)), .int i_1] : List Value).toArray s 0 0 (zA Γ)) (F0 m 37 ls []) := by
        intro u_ H locs ls  hl hW hS hm hf
        rw [ej8] at hf
        refine lv_iconst (v := (0)) hx hb dX5_isStacked_37 (by decide) ?_
        have hf := zr_r hf hr6
        rw [← hf]
        exact z_iret hx hb hr hlocks (z_bb (Or.inl rfl)) hW hS hm (Or.inl rfl) dX5_isStacked_38
      refine lv_icmp_ge (tgt := 37) hx hb dX5_isStacked_7 (by decide) (fun k7 => ?_) (fun k7 => ?_)
      · have hf := (op_if hf).1 k7
        exact hj8 () H locs ls  (lv_sub hl [] rfl) hW hS hm hf
      · have hf := (op_if hf).2 k7
        refine lv_iload_n hx hb dX5_isStacked_10 rfl (lv_at hl 0 rfl) ?_
        refine lv_aload_n hx hb dX5_isStacked_11 rfl (lv_at hl 1 rfl) ?_
        refine va_get hx hb hts ni_X5_isStacked_X5 hown hKK.1 (wd_1 hW v_z) 0 rfl rfl 0 (by decide) (hts (.fieldLink RX5 9 "TiltRoute$Play" "stacked" "[I") (List.mem_of_getElem? (i := 2) rfl)) (fun _ h => h) rfl dX5_isStacked_12 ?_
        have v9 : zV S (14, a_z, b_z) = true := vf_6_0 hW v_z
        refine va_alen (v := 3) hx hb hKK.1 (wd_1 hW v9) 0 0 rfl rfl (show Int32.ofNat 3 = 3 by decide) dX5_isStacked_15 ?_
        refine lv_icmp_ge (tgt := 37) hx hb dX5_isStacked_16 (by decide) (fun k16 => ?_) (fun k16 => ?_)
        · have hf := (op_if hf).1 k16
          exact hj8 () H locs ls  (lv_sub hl [] rfl) hW hS hm hf
        · have hf := (op_if hf).2 k16
          refine lv_aload_n hx hb dX5_isStacked_19 rfl (lv_at hl 1 rfl) ?_
          refine va_get hx hb hts ni_X5_isStacked_X5 hown hKK.1 (wd_1 hW v_z) 0 rfl rfl 0 (by decide) (hts (.fieldLink RX5 9 "TiltRoute$Play" "stacked" "[I") (List.mem_of_getElem? (i := 2) rfl)) (fun _ h => h) rfl dX5_isStacked_20 ?_
          have v10 : zV S (14, a_z, b_z) = true := vf_6_0 hW v_z
          refine lv_iload_n hx hb dX5_isStacked_23 rfl (lv_at hl 0 rfl) ?_
          obtain ⟨h24, hf⟩ := op_gd hf
          refine va_iald hx hb hKK.1 (wd_1 hW v10) 0 0 (n := 3) rfl rfl h24 dX5_isStacked_24 ?_
          refine lv_iload_n hx hb dX5_isStacked_25 rfl (lv_at hl 2 rfl) ?_
          refine lv_icmp_ne (tgt := 31) hx hb dX5_isStacked_26 (by decide) (fun k26 => ?_) (fun k26 => ?_)
          · have hf := (op_if hf).2 k26
            obtain ⟨x11, ex11, hf⟩ := op_st hf
            refine lv_iinc (v := x11) (lv' := [(2, .int x11), (0, .ref (lo (6, a_z, b_z))), (1, .int i_1)]) hx hb dX5_isStacked_31 hl (k := 0) rfl (by rw [ex11]; rfl) (by decide) rfl (fun ls hl => ?_)
            refine lv_goto (tgt := 2) hx hb dX5_isStacked_34 (by decide) ?_
            have hf := zr_l hf hr6
            exact ih5 (x11) H locs ls (lv_sub hl [0, 1, 2] rfl) hW hS hm hf
          · have hf := (op_if hf).1 k26
            refine lv_iconst (v := (1)) hx hb dX5_isStacked_29 (by decide) ?_
            have hf := zr_r hf hr6
            rw [← hf]
            exact z_iret hx hb hr hlocks (z_bb (Or.inr rfl)) hW hS hm (Or.inr rfl) dX5_isStacked_30
  rw [eq20] at hf
  exact hw4 _ (x1) H locs ls (lv_sub hl [0, 1, 2] rfl) hW hS hm hf

theorem ni_X5_beginMode_X3 : ∀ w ∈ wsX30, w ∈ wsX5_beginMode := by decide +kernel
theorem ni_X5_beginMode_X5 : ∀ w ∈ wsX50, w ∈ wsX5_beginMode := by decide +kernel
def fX5_beginMode (S : zSt) (a_z : Nat) (b_z : Nat) (a_1 : Nat) (b_1 : Nat) (i_2 : Int32) : Option zSt :=
if (zI S (6, a_z, b_z) 2) < 0 then
some (S)
else
if (3 : Int32) ≤ (zI S (6, a_z, b_z) 2) then
some (S)
else
if (zI S (6, a_z, b_z) 2) < (3 : Int32) then
st (0 : Int32) fun x3 =>
lp (fun (q4 : (Int32)) => (if (4 : Int32) ≤ q4 then
some (.inr (S))
else
cl (fX6_modeOf S a_1 b_1 q4) fun r10 =>
om r10 (
st (fun (u_ : Unit) => (st (q4 + (1 : Int32)) fun x16 =>
some (.inl (x16)) : Option ((Int32) ⊕ zSt))) fun j15 =>
j15 ()) fun n13 =>
st (fun (u_ : Unit) => (st (q4 + (1 : Int32)) fun x18 =>
some (.inl (x18)) : Option ((Int32) ⊕ zSt))) fun j17 =>
if (zI S (4, n13, 0) 0) = i_2 then
cl (fX5_isStacked S a_z b_z q4) fun r19 =>
if r19 = 0 then
gd (¬ ((zI S (6, a_z, b_z) 2) < 0 ∨ 3 ≤ (zI S (6, a_z, b_z) 2).toNatClampNeg)) (
st (pI S (14, a_z, b_z) (zI S (6, a_z, b_z) 2).toNatClampNeg q4) fun S23 =>
gd (¬ ((zI S23 (6, a_z, b_z) 2) < 0 ∨ 3 ≤ (zI S23 (6, a_z, b_z) 2).toNatClampNeg)) (
st (pI S23 (15, a_z, b_z) (zI S23 (6, a_z, b_z) 2).toNatClampNeg (0 : Int32)) fun S25 =>
st (pI S25 (6, a_z, b_z) 2 ((zI S25 (6, a_z, b_z) 2) + (1 : Int32))) fun S26 =>
some (.inr (S26))))
else
j17 ()
else
j17 () : Option ((Int32) ⊕ zSt))) 40000 (x3)
else
some (S)
abbrev rmX5_beginMode : Room := { frames := 1, cells := 0, slots := 0, locals := 22 }
set_option maxHeartbeats 4000000 in
set_option maxRecDepth 100000 in
theorem tX5_beginMode (l : Launch) (Γ : zG) (lo : zId → Nat) (S : zSt) (X : va_W) {a_z : Nat} {b_z : Nat} {a_1 : Nat} {b_1 : Nat} {i_2 : Int32} (v_z : zV S (6, a_z, b_z) = true) (v_1 : zV S (7, a_1, b_1) = true) {y : zSt} (hf : fX5_beginMode S a_z b_z a_1 b_1 i_2 = some y) : Met l yX5_beginMode wsX5_beginMode rmX5_beginMode (zP0 Γ lo S X [.ref (lo (6, a_z, b_z)), .ref (lo (7, a_1, b_1)), .int i_2]) (zQ0 Γ lo S y X none True) 0 0 (zA Γ) := by
  refine Met.ofW (cc := cX5_beginMode) (maxL := 5) (ret := none) (by decide) rfl ?_
  intro p e s m args below meth c s₁ B hml hv
  obtain ⟨rfl, hW, hKK⟩ := hv
  have hx := B.exec
  have hb := B.bytes
  have hr := B.returns
  have hts := atoms_spec (ws := wsX5_beginMode) B.pre
  have hown : s.vm.findClass RX5 = some m.cls := findClass_of_methodNamed B.named
  have hlocks := B.notSynchronized
  have hS : va_S (zA Γ) s.heap s.heap [] := va_S.rf
  have hm : ∀ c, zV S c = zV S c := fun _ => rfl
  have hl := lv_entry ([.ref (lo (6, a_z, b_z)), .ref (lo (7, a_1, b_1)), .int i_2]) (n := 5) (Nat.le_of_ble_eq_true rfl)
  rw [lg_entry_eq]
  generalize (lg_sl ([.ref (lo (6, a_z, b_z)), .ref (lo (7, a_1, b_1)), .int i_2]) ++ List.replicate (5 - (lg_sl ([.ref (lo (6, a_z, b_z)), .ref (lo (7, a_1, b_1)), .int i_2])).length) Slot.unset).toArray = ls at hl ⊢
  have hl : lv_has ls 5 [(0, .ref (lo (6, a_z, b_z))), (1, .ref (lo (7, a_1, b_1))), (2, .int i_2)] := hl
  obtain ⟨H, hH0⟩ : ∃ H, H = s.heap := ⟨_, rfl⟩
  obtain ⟨locs, hlo0⟩ : ∃ L : List Loc, L = [] := ⟨_, rfl⟩
  have hS : va_S (zA Γ) s.heap H locs := by rw [hH0, hlo0]; exact hS
  have hW : Wd Γ lo S X H := by rw [hH0]; exact hW
  rw [← hH0, ← hlo0]
  unfold fX5_beginMode at hf
  refine lv_aload_n hx hb dX5_beginMode_0 rfl (lv_at hl 0 rfl) ?_
  refine va_get hx hb hts ni_X5_beginMode_X5 hown hKK.1 (wd_1 hW v_z) 0 rfl rfl 2 (by decide) (hts (.fieldLink RX5 18 "TiltRoute$Play" "depth" "I") (List.mem_of_getElem? (i := 1) rfl)) (fun _ h => h) rfl dX5_beginMode_1 ?_
  refine lv_if_lt (tgt := 31) hx hb dX5_beginMode_4 (by decide) (fun k4 => ?_) (fun k4 => ?_)
  · have hf := (op_if hf).1 k4
    have hf := Option.some.inj hf
    rw [← hf]
    exact z_vret hx hb hr hlocks hW hS hm trivial dX5_beginMode_31
  · have hf := (op_if hf).2 k4
    refine lv_aload_n hx hb dX5_beginMode_7 rfl (lv_at hl 0 rfl) ?_
    refine va_get hx hb hts ni_X5_beginMode_X5 hown hKK.1 (wd_1 hW v_z) 0 rfl rfl 2 (by decide) (hts (.fieldLink RX5 18 "TiltRoute$Play" "depth" "I") (List.mem_of_getElem? (i := 1) rfl)) (fun _ h => h) rfl dX5_beginMode_8 ?_
    refine lv_aload_n hx hb dX5_beginMode_11 rfl (lv_at hl 0 rfl) ?_
    refine va_get hx hb hts ni_X5_beginMode_X5 hown hKK.1 (wd_1 hW v_z) 0 rfl rfl 0 (by decide) (hts (.fieldLink RX5 9 "TiltRoute$Play" "stacked" "[I") (List.mem_of_getElem? (i := 2) rfl)) (fun _ h => h) rfl dX5_beginMode_12 ?_
    have v1 : zV S (14, a_z, b_z) = true := vf_6_0 hW v_z
    refine va_alen (v := 3) hx hb hKK.1 (wd_1 hW v1) 0 0 rfl rfl (show Int32.ofNat 3 = 3 by decide) dX5_beginMode_15 ?_
    refine lv_icmp_ge (tgt := 31) hx hb dX5_beginMode_16 (by decide) (fun k16 => ?_) (fun k16 => ?_)
    · have hf := (op_if hf).1 k16
      have hf := Option.some.inj hf
      rw [← hf]
      exact z_vret hx hb hr hlocks hW hS hm trivial dX5_beginMode_31
    · have hf := (op_if hf).2 k16
      refine lv_aload_n hx hb dX5_beginMode_19 rfl (lv_at hl 0 rfl) ?_
      refine va_get hx hb hts ni_X5_beginMode_X5 hown hKK.1 (wd_1 hW v_z) 0 rfl rfl 2 (by decide) (hts (.fieldLink RX5 18 "TiltRoute$Play" "depth" "I") (List.mem_of_getElem? (i := 1) rfl)) (fun _ h => h) rfl dX5_beginMode_20 ?_
      refine lv_aload_n hx hb dX5_beginMode_23 rfl (lv_at hl 0 rfl) ?_
      refine va_get hx hb hts ni_X5_beginMode_X5 hown hKK.1 (wd_1 hW v_z) 0 rfl rfl 1 (by decide) (hts (.fieldLink RX5 15 "TiltRoute$Play" "hits" "[I") (List.mem_of_getElem? (i := 3) rfl)) (fun _ h => h) rfl dX5_beginMode_24 ?_
      have v2 : zV S (15, a_z, b_z) = true := vf_6_1 hW v_z
      refine va_alen (v := 3) hx hb hKK.1 (wd_1 hW v2) 0 0 rfl rfl (show Int32.ofNat 3 = 3 by decide) dX5_beginMode_27 ?_
      refine lv_icmp_lt (tgt := 32) hx hb dX5_beginMode_28 (by decide) (fun k28 => ?_) (fun k28 => ?_)
      · have hf := (op_if hf).1 k28
        refine lv_iconst (v := (0)) hx hb dX5_beginMode_32 (by decide) ?_
        obtain ⟨x3, ex3, hf⟩ := op_st hf
        refine z_istn (lv' := [(3, .int x3), (0, .ref (lo (6, a_z, b_z))), (1, .ref (lo (7, a_1, b_1))), (2, .int i_2)]) ex3 hx hb dX5_beginMode_33 rfl hl (by decide) rfl (fun ls hl => ?_)
        obtain ⟨w6, q40, ew6, eq40, hf⟩ := op_lb hf
        have hw6 : ∀ n9 : Nat, ∀ (q4 : (Int32)) (H : Heap) (locs : List Loc) (ls : Array Slot), lv_has ls 5 [(3, .int q4), (0, .ref (lo (6, a_z, b_z))), (1, .ref (lo (7, a_1, b_1))), (2, .int i_2)] → Wd Γ lo S X H → va_S (zA Γ) s.heap H locs → (∀ c, zV S c = zV S c) → lp w6 n9 q4 = some y → W p l e (headSpec wsX5_beginMode rmX5_beginMode).room s m ([.ref (lo (6, a_z, b_z)), .ref (lo (7, a_1, b_1)), .int i_2] : List Value).toArray below meth c H locs 0 0 (MQ below (zQ0 Γ lo S y X none True) ([.ref (lo (6, a_z, b_z)), .ref (lo (7, a_1, b_1)), .int i_2] : List Value).toArray s 0 0 (zA Γ)) (F0 m 34 ls []) := by
          intro n9
          induction n9 with
          | zero => intro q4 H locs ls hl hW hS hm hf; cases hf
          | succ n9 ih7 =>
            intro q4 H locs ls hl hW hS hm hf
            obtain ⟨n_, r5, hn_, hf, hr8⟩ := op_lq hf
            cases hn_
            rw [ew6] at hf
            refine lv_iload_n hx hb dX5_beginMode_34 rfl (lv_at hl 0 rfl) ?_
            refine lv_iconst (v := (4)) hx hb dX5_beginMode_35 (by decide) ?_
            refine lv_icmp_ge (tgt := 105) hx hb dX5_beginMode_36 (by decide) (fun k36 => ?_) (fun k36 => ?_)
            · have hf := (op_if hf).1 k36
              have hf := zr_r hf hr8
              rw [← hf]
              exact z_vret hx hb hr hlocks hW hS hm trivial dX5_beginMode_105
            · have hf := (op_if hf).2 k36
              refine lv_aload_n hx hb dX5_beginMode_39 rfl (lv_at hl 2 rfl) ?_
              refine lv_iload_n hx hb dX5_beginMode_40 rfl (lv_at hl 0 rfl) ?_
              obtain ⟨r10, hc11, hf⟩ := op_cl hf
              refine z_callV (As := [.int q4]) (rest := []) ⟨hx, hb, hml, hown, hts⟩ (tX6_modeOf l Γ lo S X v_1 hc11) (cwV 1 hts gX5_beginMode_X6_modeOf rfl rfl rfl (by decide +kernel) ⟨Nat.le_of_ble_eq_true rfl, Nat.le_of_ble_eq_true rfl⟩) (wd_1 hW v_1) rfl hKK hW hS rfl hl.1 rfl (Nat.le_of_ble_eq_true rfl) dX5_beginMode_41 ⟨Nat.zero_le _, Nat.zero_le _⟩ (fun H locs hW hS hm1 hE => ?_)
              have v12 := hE
              rcases ho14 : r10 with _ | n13
              · rw [ho14] at hf
                have hf := op_omN hf
                refine lv_astoreN (lv' := [(4, .null), (3, .int q4), (0, .ref (lo (6, a_z, b_z))), (1, .ref (lo (7, a_1, b_1))), (2, .int i_2)]) hx hb dX5_beginMode_44 hl (by decide) rfl (fun ls hl => ?_)
                refine lv_aloadN hx hb dX5_beginMode_46 (lv_at hl 0 rfl) ?_
                obtain ⟨j15, ej15, hf⟩ := op_st hf
                have hj15 : ∀ (u_ : Unit) (H : Heap) (locs : List Loc) (ls : Array Slot), lv_has ls 5 [(3, .int q4), (0, .ref (lo (6, a_z, b_z))), (1, .ref (lo (7, a_1, b_1))), (2, .int i_2)] → Wd Γ lo S X H → va_S (zA Γ) s.heap H locs → (∀ c, zV S c = zV S c) → j15 () = some r5 → W p l e (headSpec wsX5_beginMode rmX5_beginMode).room s m ([.ref (lo (6, a_z, b_z)), .ref (lo (7, a_1, b_1)), .int i_2] : List Value).toArray below meth c H locs 0 0 (MQ below (zQ0 Γ lo S y X none True) ([.ref (lo (6, a_z, b_z)), .ref (lo (7, a_1, b_1)), .int i_2] : List Value).toArray s 0 0 (zA Γ)) (F0 m 99 ls []) := by
                  intro u_ H locs ls  hl hW hS hm hf
                  rw [ej15] at hf
                  obtain ⟨x16, ex16, hf⟩ := op_st hf
                  refine lv_iinc (v := x16) (lv' := [(3, .int x16), (0, .ref (lo (6, a_z, b_z))), (1, .ref (lo (7, a_1, b_1))), (2, .int i_2)]) hx hb dX5_beginMode_99 hl (k := 0) rfl (by rw [ex16]; rfl) (by decide) rfl (fun ls hl => ?_)
                  refine lv_goto (tgt := 34) hx hb dX5_beginMode_102 (by decide) ?_
                  have hf := zr_l hf hr8
                  exact ih7 (x16) H locs ls (lv_sub hl [0, 1, 2, 3] rfl) hW hS hm hf
                refine lv_ifnullN (tgt := 99) hx hb dX5_beginMode_48 (by decide) ?_
                exact hj15 () H locs ls  (lv_sub hl [1, 2, 3, 4] rfl) hW hS hm hf
              · rw [ho14] at hf
                have hf := op_omS hf
                refine lv_astore (lv' := [(4, .ref (lo (4, n13, 0))), (3, .int q4), (0, .ref (lo (6, a_z, b_z))), (1, .ref (lo (7, a_1, b_1))), (2, .int i_2)]) hx hb dX5_beginMode_44 hl (by decide) rfl (fun ls hl => ?_)
                refine lv_aload hx hb dX5_beginMode_46 (lv_at hl 0 rfl) ?_
                obtain ⟨j17, ej17, hf⟩ := op_st hf
                have hj17 : ∀ (u_ : Unit) (H : Heap) (locs : List Loc) (ls : Array Slot), lv_has ls 5 [(3, .int q4), (0, .ref (lo (6, a_z, b_z))), (1, .ref (lo (7, a_1, b_1))), (2, .int i_2)] → Wd Γ lo S X H → va_S (zA Γ) s.heap H locs → (∀ c, zV S c = zV S c) → j17 () = some r5 → W p l e (headSpec wsX5_beginMode rmX5_beginMode).room s m ([.ref (lo (6, a_z, b_z)), .ref (lo (7, a_1, b_1)), .int i_2] : List Value).toArray below meth c H locs 0 0 (MQ below (zQ0 Γ lo S y X none True) ([.ref (lo (6, a_z, b_z)), .ref (lo (7, a_1, b_1)), .int i_2] : List Value).toArray s 0 0 (zA Γ)) (F0 m 99 ls []) := by
                  intro u_ H locs ls  hl hW hS hm hf
                  rw [ej17] at hf
                  obtain ⟨x18, ex18, hf⟩ := op_st hf
                  refine lv_iinc (v := x18) (lv' := [(3, .int x18), (0, .ref (lo (6, a_z, b_z))), (1, .ref (lo (7, a_1, b_1))), (2, .int i_2)]) hx hb dX5_beginMode_99 hl (k := 0) rfl (by rw [ex18]; rfl) (by decide) rfl (fun ls hl => ?_)
                  refine lv_goto (tgt := 34) hx hb dX5_beginMode_102 (by decide) ?_
                  have hf := zr_l hf hr8
                  exact ih7 (x18) H locs ls (lv_sub hl [0, 1, 2, 3] rfl) hW hS hm hf
                refine lv_ifnull hx hb dX5_beginMode_48 ?_
                refine lv_aload hx hb dX5_beginMode_51 (lv_at hl 0 rfl) ?_
                refine va_get hx hb hts ni_X5_beginMode_X3 hown hKK.1 (wd_1 hW (v12 _ ho14)) 0 rfl rfl 0 (by decide) (hts (.fieldLink RX5 53 "TiltRoute$Mode" "begins" "I") (List.mem_of_getElem? (i := 4) rfl)) (fun _ h => h) rfl dX5_beginMode_53 ?_
                refine lv_iload_n hx hb dX5_beginMode_56 rfl (lv_at hl 4 rfl) ?_
                refine lv_icmp_ne (tgt := 99) hx hb dX5_beginMode_57 (by decide) (fun k57 => ?_) (fun k57 => ?_)
                · have hf := (op_if hf).2 k57
                  exact hj17 () H locs ls  (lv_sub hl [1, 2, 3, 4] rfl) hW hS hm hf
                · have hf := (op_if hf).1 k57
                  refine lv_aload_n hx hb dX5_beginMode_60 rfl (lv_at hl 2 rfl) ?_
                  refine lv_iload_n hx hb dX5_beginMode_61 rfl (lv_at hl 1 rfl) ?_
                  obtain ⟨r19, hc20, hf⟩ := op_cl hf
                  refine z_callV (As := [.int q4]) (rest := []) ⟨hx, hb, hml, hown, hts⟩ (tX5_isStacked l Γ lo S X v_z hc20) (cwV 1 hts gX5_beginMode_X5_isStacked rfl rfl rfl (by decide +kernel) ⟨Nat.le_of_ble_eq_true rfl, Nat.le_of_ble_eq_true rfl⟩) (wd_1 hW v_z) rfl hKK hW hS rfl hl.1 rfl (Nat.le_of_ble_eq_true rfl) dX5_beginMode_62 ⟨Nat.zero_le _, Nat.zero_le _⟩ (fun H locs hW hS hm1 hE => ?_)
                  have b21 := hE
                  refine lv_if_ne (tgt := 99) hx hb dX5_beginMode_65 (by decide) (fun k65 => ?_) (fun k65 => ?_)
                  · have hf := (op_if hf).2 k65
                    exact hj17 () H locs ls  (lv_sub hl [1, 2, 3, 4] rfl) hW hS hm hf
                  · have hf := (op_if hf).1 k65
                    refine lv_aload_n hx hb dX5_beginMode_68 rfl (lv_at hl 2 rfl) ?_
                    refine va_get hx hb hts ni_X5_beginMode_X5 hown hKK.1 (wd_1 hW v_z) 0 rfl rfl 0 (by decide) (hts (.fieldLink RX5 9 "TiltRoute$Play" "stacked" "[I") (List.mem_of_getElem? (i := 2) rfl)) (fun _ h => h) rfl dX5_beginMode_69 ?_
                    have v22 : zV S (14, a_z, b_z) = true := vf_6_0 hW v_z
                    refine lv_aload_n hx hb dX5_beginMode_72 rfl (lv_at hl 2 rfl) ?_
                    refine va_get hx hb hts ni_X5_beginMode_X5 hown hKK.1 (wd_1 hW v_z) 0 rfl rfl 2 (by decide) (hts (.fieldLink RX5 18 "TiltRoute$Play" "depth" "I") (List.mem_of_getElem? (i := 1) rfl)) (fun _ h => h) rfl dX5_beginMode_73 ?_
                    refine lv_iload_n hx hb dX5_beginMode_76 rfl (lv_at hl 1 rfl) ?_
                    obtain ⟨h77, hf⟩ := op_gd hf
                    obtain ⟨S23, eS23, hf⟩ := op_st hf
                    refine g_iast (n := 3) hx hb hKK.1 hW hS v22 (fun _ _ _ _ => rfl) h77 dX5_beginMode_77 eS23 (fun H locs hW hS => ?_)
                    have hm : ∀ c, zV S23 c = zV S c := fun c => by rw [eS23]; rfl
                    refine lv_aload_n hx hb dX5_beginMode_78 rfl (lv_at hl 2 rfl) ?_
                    refine va_get hx hb hts ni_X5_beginMode_X5 hown hKK.1 (wd_1 hW ((hm _).trans v_z)) 0 rfl rfl 1 (by decide) (hts (.fieldLink RX5 15 "TiltRoute$Play" "hits" "[I") (List.mem_of_getElem? (i := 3) rfl)) (fun _ h => h) rfl dX5_beginMode_79 ?_
                    have v24 : zV S (15, a_z, b_z) = true := (hm _).symm.trans (vf_6_1 hW ((hm _).trans v_z))
                    refine lv_aload_n hx hb dX5_beginMode_82 rfl (lv_at hl 2 rfl) ?_
                    refine va_get hx hb hts ni_X5_beginMode_X5 hown hKK.1 (wd_1 hW ((hm _).trans v_z)) 0 rfl rfl 2 (by decide) (hts (.fieldLink RX5 18 "TiltRoute$Play" "depth" "I") (List.mem_of_getElem? (i := 1) rfl)) (fun _ h => h) rfl dX5_beginMode_83 ?_
                    refine lv_iconst (v := (0)) hx hb dX5_beginMode_86 (by decide) ?_
                    obtain ⟨h87, hf⟩ := op_gd hf
                    obtain ⟨S25, eS25, hf⟩ := op_st hf
                    refine g_iast (n := 3) hx hb hKK.1 hW hS ((hm _).trans v24) (fun _ _ _ _ => rfl) h87 dX5_beginMode_87 eS25 (fun H locs hW hS => ?_)
                    have hm : ∀ c, zV S25 c = zV S c := fun c => by rw [eS25]; exact hm c
                    refine lv_aload_n hx hb dX5_beginMode_88 rfl (lv_at hl 2 rfl) ?_
                    refine lv_dup hx hb dX5_beginMode_89 rfl ?_
                    refine va_get hx hb hts ni_X5_beginMode_X5 hown hKK.1 (wd_1 hW ((hm _).trans v_z)) 0 rfl rfl 2 (by decide) (hts (.fieldLink RX5 18 "TiltRoute$Play" "depth" "I") (List.mem_of_getElem? (i := 1) rfl)) (fun _ h => h) rfl dX5_beginMode_90 ?_
                    refine lv_iconst (v := (1)) hx hb dX5_beginMode_93 (by decide) ?_
                    refine lv_iadd hx hb dX5_beginMode_94 ?_
                    obtain ⟨S26, eS26, hf⟩ := op_st hf
                    refine g_put hx hb hts ni_X5_beginMode_X5 tyX5 tyX5_ok nmX5 hown hKK.1 hW hS ((hm _).trans v_z) rfl rfl 2 (by decide) (hts (.fieldLink RX5 18 "TiltRoute$Play" "depth" "I") (List.mem_of_getElem? (i := 1) rfl)) rfl rfl rfl (show 2 < 4 by decide) rfl dX5_beginMode_95 eS26 (fun H locs hW hS => ?_)
                    have hm : ∀ c, zV S26 c = zV S c := fun c => by rw [eS26]; exact hm c
                    have hf := zr_r hf hr8
                    rw [← hf]
                    exact z_vret hx hb hr hlocks hW hS hm trivial dX5_beginMode_98
        rw [eq40] at hf
        exact hw6 _ (x3) H locs ls (lv_sub hl [0, 1, 2, 3] rfl) hW hS hm hf
      · have hf := (op_if hf).2 k28
        have hf := Option.some.inj hf
        rw [← hf]
        exact z_vret hx hb hr hlocks hW hS hm trivial dX5_beginMode_31

theorem ni_X5_takeSwitch_X3 : ∀ w ∈ wsX30, w ∈ wsX5_takeSwitch := by decide +kernel
theorem ni_X5_takeSwitch_X5 : ∀ w ∈ wsX50, w ∈ wsX5_takeSwitch := by decide +kernel
def fX5_takeSwitch (S : zSt) (a_z : Nat) (b_z : Nat) (a_1 : Nat) (b_1 : Nat) (i_2 : Int32) : Option zSt :=
st ((zI S (6, a_z, b_z) 2) - (1 : Int32)) fun x1 =>
st (fun (y2 : Option Nat) => (om y2 (
cl (fX6_pointsOf S a_1 b_1 i_2) fun r7 =>
st (fun (y9 : Int32) => (st (pI S (6, a_z, b_z) 3 ((zI S (6, a_z, b_z) 3) + (r7 * y9))) fun S11 =>
st (fun (S12 : zSt) => (cl (fX5_beginMode S12 a_z b_z a_1 b_1 i_2) fun S16 =>
some (S16) : Option zSt)) fun j13 =>
j13 S11 : Option zSt)) fun j10 =>
j10 (1 : Int32)) fun n5 =>
cl (fX6_pointsOf S a_1 b_1 i_2) fun r17 =>
st (fun (y19 : Int32) => (st (pI S (6, a_z, b_z) 3 ((zI S (6, a_z, b_z) 3) + (r17 * y19))) fun S21 =>
st (fun (S22 : zSt) => (cl (fX5_beginMode S22 a_z b_z a_1 b_1 i_2) fun S26 =>
some (S26) : Option zSt)) fun j23 =>
if (3 : Int32) ≤ x1 then
j23 S21
else
gd (¬ (x1 < 0 ∨ 3 ≤ x1.toNatClampNeg)) (
gd (¬ (x1 < 0 ∨ 3 ≤ x1.toNatClampNeg)) (
st (pI S21 (15, a_z, b_z) x1.toNatClampNeg ((zI S21 (15, a_z, b_z) x1.toNatClampNeg) + (1 : Int32))) fun S29 =>
st (fun (u_ : Unit) => (st (pI S29 (6, a_z, b_z) 2 x1) fun S31 =>
st (pI S31 (6, a_z, b_z) 3 ((zI S31 (6, a_z, b_z) 3) + (zI S31 (4, n5, 0) 4))) fun S32 =>
some (S32) : Option zSt)) fun j30 =>
if i_2 = (zI S29 (4, n5, 0) 1) then
j30 ()
else
gd (¬ (x1 < 0 ∨ 3 ≤ x1.toNatClampNeg)) (
if (zI S29 (15, a_z, b_z) x1.toNatClampNeg) = (zI S29 (4, n5, 0) 2) then
j30 ()
else
j23 S29))) : Option zSt)) fun j20 =>
j20 (zI S (4, n5, 0) 3) : Option zSt)) fun j4 =>
st (fun (u_ : Unit) => (j4 none : Option zSt)) fun j34 =>
if x1 < 0 then
j34 ()
else
if (3 : Int32) ≤ x1 then
j34 ()
else
gd (¬ (x1 < 0 ∨ 3 ≤ x1.toNatClampNeg)) (
cl (fX6_modeOf S a_1 b_1 (zI S (14, a_z, b_z) x1.toNatClampNeg)) fun r37 =>
j4 r37)
abbrev rmX5_takeSwitch : Room := { frames := 2, cells := 0, slots := 0, locals := 46 }
set_option maxHeartbeats 4000000 in
set_option maxRecDepth 100000 in
theorem tX5_takeSwitch (l : Launch) (Γ : zG) (lo : zId → Nat) (S : zSt) (X : va_W) {a_z : Nat} {b_z : Nat} {a_1 : Nat} {b_1 : Nat} {i_2 : Int32} (v_z : zV S (6, a_z, b_z) = true) (v_1 : zV S (7, a_1, b_1) = true) {y : zSt} (hf : fX5_takeSwitch S a_z b_z a_1 b_1 i_2 = some y) : Met l yX5_takeSwitch wsX5_takeSwitch rmX5_takeSwitch (zP0 Γ lo S X [.ref (lo (6, a_z, b_z)), .ref (lo (7, a_1, b_1)), .int i_2]) (zQ0 Γ lo S y X none True) 0 0 (zA Γ) := by
  refine Met.ofW (cc := cX5_takeSwitch) (maxL := 5) (ret := none) (by decide) rfl ?_
  intro p e s m args below meth c s₁ B hml hv
  obtain ⟨rfl, hW, hKK⟩ := hv
  have hx := B.exec
  have hb := B.bytes
  have hr := B.returns
  have hts := atoms_spec (ws := wsX5_takeSwitch) B.pre
  have hown : s.vm.findClass RX5 = some m.cls := findClass_of_methodNamed B.named
  have hlocks := B.notSynchronized
  have hS : va_S (zA Γ) s.heap s.heap [] := va_S.rf
  have hm : ∀ c, zV S c = zV S c := fun _ => rfl
  have hl := lv_entry ([.ref (lo (6, a_z, b_z)), .ref (lo (7, a_1, b_1)), .int i_2]) (n := 5) (Nat.le_of_ble_eq_true rfl)
  rw [lg_entry_eq]
  generalize (lg_sl ([.ref (lo (6, a_z, b_z)), .ref (lo (7, a_1, b_1)), .int i_2]) ++ List.replicate (5 - (lg_sl ([.ref (lo (6, a_z, b_z)), .ref (lo (7, a_1, b_1)), .int i_2])).length) Slot.unset).toArray = ls at hl ⊢
  have hl : lv_has ls 5 [(0, .ref (lo (6, a_z, b_z))), (1, .ref (lo (7, a_1, b_1))), (2, .int i_2)] := hl
  obtain ⟨H, hH0⟩ : ∃ H, H = s.heap := ⟨_, rfl⟩
  obtain ⟨locs, hlo0⟩ : ∃ L : List Loc, L = [] := ⟨_, rfl⟩
  have hS : va_S (zA Γ) s.heap H locs := by rw [hH0, hlo0]; exact hS
  have hW : Wd Γ lo S X H := by rw [hH0]; exact hW
  rw [← hH0, ← hlo0]
  unfold fX5_takeSwitch at hf
  refine lv_aload_n hx hb dX5_takeSwitch_0 rfl (lv_at hl 0 rfl) ?_
  refine va_get hx hb hts ni_X5_takeSwitch_X5 hown hKK.1 (wd_1 hW v_z) 0 rfl rfl 2 (by decide) (hts (.fieldLink RX5 18 "TiltRoute$Play" "depth" "I") (List.mem_of_getElem? (i := 1) rfl)) (fun _ h => h) rfl dX5_takeSwitch_1 ?_
  refine lv_iconst (v := (1)) hx hb dX5_takeSwitch_4 (by decide) ?_
  refine lv_isub hx hb dX5_takeSwitch_5 ?_
  obtain ⟨x1, ex1, hf⟩ := op_st hf
  refine z_istn (lv' := [(3, .int x1), (0, .ref (lo (6, a_z, b_z))), (1, .ref (lo (7, a_1, b_1))), (2, .int i_2)]) ex1 hx hb dX5_takeSwitch_6 rfl hl (by decide) rfl (fun ls hl => ?_)
  refine lv_iload_n hx hb dX5_takeSwitch_7 rfl (lv_at hl 0 rfl) ?_
  obtain ⟨j4, ej4, hf⟩ := op_st hf
  have hj4 : ∀ (y2 : Option Nat) (H : Heap) (locs : List Loc) (ls : Array Slot) (v3 : ∀ n, y2 = some n → zV S (4, n, 0) = true), lv_has ls 5 [(3, .int x1), (0, .ref (lo (6, a_z, b_z))), (1, .ref (lo (7, a_1, b_1))), (2, .int i_2)] → Wd Γ lo S X H → va_S (zA Γ) s.heap H locs → (∀ c, zV S c = zV S c) → j4 y2 = some y → W p l e (headSpec wsX5_takeSwitch rmX5_takeSwitch).room s m ([.ref (lo (6, a_z, b_z)), .ref (lo (7, a_1, b_1)), .int i_2] : List Value).toArray below meth c H locs 0 0 (MQ below (zQ0 Γ lo S y X none True) ([.ref (lo (6, a_z, b_z)), .ref (lo (7, a_1, b_1)), .int i_2] : List Value).toArray s 0 0 (zA Γ)) (F0 m 34 ls [va_rf (y2.map (fun n => lo (4, n, 0)))]) := by
    intro y2 H locs ls v3 hl hW hS hm hf
    rw [ej4] at hf
    rcases ho6 : y2 with _ | n5
    · rw [ho6] at hf
      have hf := op_omN hf
      refine lv_astoreN (lv' := [(4, .null), (3, .int x1), (0, .ref (lo (6, a_z, b_z))), (1, .ref (lo (7, a_1, b_1))), (2, .int i_2)]) hx hb dX5_takeSwitch_34 hl (by decide) rfl (fun ls hl => ?_)
      refine lv_aload_n hx hb dX5_takeSwitch_36 rfl (lv_at hl 2 rfl) ?_
      refine lv_dup hx hb dX5_takeSwitch_37 rfl ?_
      refine va_get hx hb hts ni_X5_takeSwitch_X5 hown hKK.1 (wd_1 hW v_z) 0 rfl rfl 3 (by decide) (hts (.fieldLink RX5 22 "TiltRoute$Play" "score" "I") (List.mem_of_getElem? (i := 3) rfl)) (fun _ h => h) rfl dX5_takeSwitch_38 ?_
      refine lv_aload_n hx hb dX5_takeSwitch_41 rfl (lv_at hl 3 rfl) ?_
      refine lv_iload_n hx hb dX5_takeSwitch_42 rfl (lv_at hl 4 rfl) ?_
      obtain ⟨r7, hc8, hf⟩ := op_cl hf
      refine z_callV (As := [.int i_2]) (rest := [.int (zI S (6, a_z, b_z) 3), .ref (lo (6, a_z, b_z))]) ⟨hx, hb, hml, hown, hts⟩ (tX6_pointsOf l Γ lo S X v_1 hc8) (cwV 1 hts gX5_takeSwitch_X6_pointsOf rfl rfl rfl (by decide +kernel) ⟨Nat.le_of_ble_eq_true rfl, Nat.le_of_ble_eq_true rfl⟩) (wd_1 hW v_1) rfl hKK hW hS rfl hl.1 rfl (Nat.le_of_ble_eq_true rfl) dX5_takeSwitch_43 ⟨Nat.zero_le _, Nat.zero_le _⟩ (fun H locs hW hS hm1 hE => ?_)
      refine lv_aloadN hx hb dX5_takeSwitch_46 (lv_at hl 0 rfl) ?_
      obtain ⟨j10, ej10, hf⟩ := op_st hf
      have hj10 : ∀ (y9 : Int32) (H : Heap) (locs : List Loc) (ls : Array Slot), lv_has ls 5 [(4, .null), (3, .int x1), (0, .ref (lo (6, a_z, b_z))), (1, .ref (lo (7, a_1, b_1))), (2, .int i_2)] → Wd Γ lo S X H → va_S (zA Γ) s.heap H locs → (∀ c, zV S c = zV S c) → j10 y9 = some y → W p l e (headSpec wsX5_takeSwitch rmX5_takeSwitch).room s m ([.ref (lo (6, a_z, b_z)), .ref (lo (7, a_1, b_1)), .int i_2] : List Value).toArray below meth c H locs 0 0 (MQ below (zQ0 Γ lo S y X none True) ([.ref (lo (6, a_z, b_z)), .ref (lo (7, a_1, b_1)), .int i_2] : List Value).toArray s 0 0 (zA Γ)) (F0 m 60 ls [.int y9, .int r7, .int (zI S (6, a_z, b_z) 3), .ref (lo (6, a_z, b_z))]) := by
        intro y9 H locs ls  hl hW hS hm hf
        rw [ej10] at hf
        refine lv_imul hx hb dX5_takeSwitch_60 ?_
        refine lv_iadd hx hb dX5_takeSwitch_61 ?_
        obtain ⟨S11, eS11, hf⟩ := op_st hf
        refine g_put hx hb hts ni_X5_takeSwitch_X5 tyX5 tyX5_ok nmX5 hown hKK.1 hW hS v_z rfl rfl 3 (by decide) (hts (.fieldLink RX5 22 "TiltRoute$Play" "score" "I") (List.mem_of_getElem? (i := 3) rfl)) rfl rfl rfl (show 3 < 4 by decide) rfl dX5_takeSwitch_62 eS11 (fun H locs hW hS => ?_)
        have hm : ∀ c, zV S11 c = zV S c := fun c => by rw [eS11]; rfl
        refine lv_aloadN hx hb dX5_takeSwitch_65 (lv_at hl 0 rfl) ?_
        obtain ⟨j13, ej13, hf⟩ := op_st hf
        have hj13 : ∀ (S12 : zSt) (H : Heap) (locs : List Loc) (ls : Array Slot), lv_has ls 5 [(0, .ref (lo (6, a_z, b_z))), (1, .ref (lo (7, a_1, b_1))), (2, .int i_2)] → Wd Γ lo S12 X H → va_S (zA Γ) s.heap H locs → (∀ c, zV S12 c = zV S c) → j13 S12 = some y → W p l e (headSpec wsX5_takeSwitch rmX5_takeSwitch).room s m ([.ref (lo (6, a_z, b_z)), .ref (lo (7, a_1, b_1)), .int i_2] : List Value).toArray below meth c H locs 0 0 (MQ below (zQ0 Γ lo S y X none True) ([.ref (lo (6, a_z, b_z)), .ref (lo (7, a_1, b_1)), .int i_2] : List Value).toArray s 0 0 (zA Γ)) (F0 m 132 ls []) := by
          intro S12 H locs ls  hl hW hS hm hf
          rw [ej13] at hf
          refine lv_aload_n hx hb dX5_takeSwitch_132 rfl (lv_at hl 0 rfl) ?_
          refine lv_aload_n hx hb dX5_takeSwitch_133 rfl (lv_at hl 1 rfl) ?_
          refine lv_iload_n hx hb dX5_takeSwitch_134 rfl (lv_at hl 2 rfl) ?_
          obtain ⟨S16, hc15, hf⟩ := op_cl hf
          refine z_callV (As := [.ref (lo (7, a_1, b_1)), .int i_2]) (rest := []) ⟨hx, hb, hml, hown, hts⟩ (tX5_beginMode l Γ lo S12 X ((hm _).trans v_z) ((hm _).trans v_1) hc15) (cwV 2 hts gX5_takeSwitch_X5_beginMode rfl rfl rfl (by decide +kernel) ⟨Nat.le_of_ble_eq_true rfl, Nat.le_of_ble_eq_true rfl⟩) (wd_1 hW ((hm _).trans v_z)) rfl hKK hW hS rfl hl.1 rfl (Nat.le_of_ble_eq_true rfl) dX5_takeSwitch_135 ⟨Nat.zero_le _, Nat.zero_le _⟩ (fun H locs hW hS hm1 hE => ?_)
          have hm : ∀ c, zV S16 c = zV S c := fun c => (hm1 c).trans (hm c)
          have hf := Option.some.inj hf
          rw [← hf]
          exact z_vret hx hb hr hlocks hW hS hm trivial dX5_takeSwitch_138
        refine lv_ifnullN (tgt := 132) hx hb dX5_takeSwitch_67 (by decide) ?_
        exact hj13 S11 H locs ls  (lv_sub hl [2, 3, 4] rfl) hW hS hm hf
      refine lv_ifnonnullN hx hb dX5_takeSwitch_48 ?_
      refine lv_iconst (v := (1)) hx hb dX5_takeSwitch_51 (by decide) ?_
      refine lv_goto (tgt := 60) hx hb dX5_takeSwitch_52 (by decide) ?_
      exact hj10 (1 : Int32) H locs ls  (lv_sub hl [0, 1, 2, 3, 4] rfl) hW hS hm hf
    · rw [ho6] at hf
      have hf := op_omS hf
      refine lv_astore (lv' := [(4, .ref (lo (4, n5, 0))), (3, .int x1), (0, .ref (lo (6, a_z, b_z))), (1, .ref (lo (7, a_1, b_1))), (2, .int i_2)]) hx hb dX5_takeSwitch_34 hl (by decide) rfl (fun ls hl => ?_)
      refine lv_aload_n hx hb dX5_takeSwitch_36 rfl (lv_at hl 2 rfl) ?_
      refine lv_dup hx hb dX5_takeSwitch_37 rfl ?_
      refine va_get hx hb hts ni_X5_takeSwitch_X5 hown hKK.1 (wd_1 hW v_z) 0 rfl rfl 3 (by decide) (hts (.fieldLink RX5 22 "TiltRoute$Play" "score" "I") (List.mem_of_getElem? (i := 3) rfl)) (fun _ h => h) rfl dX5_takeSwitch_38 ?_
      refine lv_aload_n hx hb dX5_takeSwitch_41 rfl (lv_at hl 3 rfl) ?_
      refine lv_iload_n hx hb dX5_takeSwitch_42 rfl (lv_at hl 4 rfl) ?_
      obtain ⟨r17, hc18, hf⟩ := op_cl hf
      refine z_callV (As := [.int i_2]) (rest := [.int (zI S (6, a_z, b_z) 3), .ref (lo (6, a_z, b_z))]) ⟨hx, hb, hml, hown, hts⟩ (tX6_pointsOf l Γ lo S X v_1 hc18) (cwV 1 hts gX5_takeSwitch_X6_pointsOf rfl rfl rfl (by decide +kernel) ⟨Nat.le_of_ble_eq_true rfl, Nat.le_of_ble_eq_true rfl⟩) (wd_1 hW v_1) rfl hKK hW hS rfl hl.1 rfl (Nat.le_of_ble_eq_true rfl) dX5_takeSwitch_43 ⟨Nat.zero_le _, Nat.zero_le _⟩ (fun H locs hW hS hm1 hE => ?_)
      refine lv_aload hx hb dX5_takeSwitch_46 (lv_at hl 0 rfl) ?_
      obtain ⟨j20, ej20, hf⟩ := op_st hf
      have hj20 : ∀ (y19 : Int32) (H : Heap) (locs : List Loc) (ls : Array Slot), lv_has ls 5 [(4, .ref (lo (4, n5, 0))), (3, .int x1), (0, .ref (lo (6, a_z, b_z))), (1, .ref (lo (7, a_1, b_1))), (2, .int i_2)] → Wd Γ lo S X H → va_S (zA Γ) s.heap H locs → (∀ c, zV S c = zV S c) → j20 y19 = some y → W p l e (headSpec wsX5_takeSwitch rmX5_takeSwitch).room s m ([.ref (lo (6, a_z, b_z)), .ref (lo (7, a_1, b_1)), .int i_2] : List Value).toArray below meth c H locs 0 0 (MQ below (zQ0 Γ lo S y X none True) ([.ref (lo (6, a_z, b_z)), .ref (lo (7, a_1, b_1)), .int i_2] : List Value).toArray s 0 0 (zA Γ)) (F0 m 60 ls [.int y19, .int r17, .int (zI S (6, a_z, b_z) 3), .ref (lo (6, a_z, b_z))]) := by
        intro y19 H locs ls  hl hW hS hm hf
        rw [ej20] at hf
        refine lv_imul hx hb dX5_takeSwitch_60 ?_
        refine lv_iadd hx hb dX5_takeSwitch_61 ?_
        obtain ⟨S21, eS21, hf⟩ := op_st hf
        refine g_put hx hb hts ni_X5_takeSwitch_X5 tyX5 tyX5_ok nmX5 hown hKK.1 hW hS v_z rfl rfl 3 (by decide) (hts (.fieldLink RX5 22 "TiltRoute$Play" "score" "I") (List.mem_of_getElem? (i := 3) rfl)) rfl rfl rfl (show 3 < 4 by decide) rfl dX5_takeSwitch_62 eS21 (fun H locs hW hS => ?_)
        have hm : ∀ c, zV S21 c = zV S c := fun c => by rw [eS21]; rfl
        refine lv_aload hx hb dX5_takeSwitch_65 (lv_at hl 0 rfl) ?_
        obtain ⟨j23, ej23, hf⟩ := op_st hf
        have hj23 : ∀ (S22 : zSt) (H : Heap) (locs : List Loc) (ls : Array Slot), lv_has ls 5 [(0, .ref (lo (6, a_z, b_z))), (1, .ref (lo (7, a_1, b_1))), (2, .int i_2)] → Wd Γ lo S22 X H → va_S (zA Γ) s.heap H locs → (∀ c, zV S22 c = zV S c) → j23 S22 = some y → W p l e (headSpec wsX5_takeSwitch rmX5_takeSwitch).room s m ([.ref (lo (6, a_z, b_z)), .ref (lo (7, a_1, b_1)), .int i_2] : List Value).toArray below meth c H locs 0 0 (MQ below (zQ0 Γ lo S y X none True) ([.ref (lo (6, a_z, b_z)), .ref (lo (7, a_1, b_1)), .int i_2] : List Value).toArray s 0 0 (zA Γ)) (F0 m 132 ls []) := by
          intro S22 H locs ls  hl hW hS hm hf
          rw [ej23] at hf
          refine lv_aload_n hx hb dX5_takeSwitch_132 rfl (lv_at hl 0 rfl) ?_
          refine lv_aload_n hx hb dX5_takeSwitch_133 rfl (lv_at hl 1 rfl) ?_
          refine lv_iload_n hx hb dX5_takeSwitch_134 rfl (lv_at hl 2 rfl) ?_
          obtain ⟨S26, hc25, hf⟩ := op_cl hf
          refine z_callV (As := [.ref (lo (7, a_1, b_1)), .int i_2]) (rest := []) ⟨hx, hb, hml, hown, hts⟩ (tX5_beginMode l Γ lo S22 X ((hm _).trans v_z) ((hm _).trans v_1) hc25) (cwV 2 hts gX5_takeSwitch_X5_beginMode rfl rfl rfl (by decide +kernel) ⟨Nat.le_of_ble_eq_true rfl, Nat.le_of_ble_eq_true rfl⟩) (wd_1 hW ((hm _).trans v_z)) rfl hKK hW hS rfl hl.1 rfl (Nat.le_of_ble_eq_true rfl) dX5_takeSwitch_135 ⟨Nat.zero_le _, Nat.zero_le _⟩ (fun H locs hW hS hm1 hE => ?_)
          have hm : ∀ c, zV S26 c = zV S c := fun c => (hm1 c).trans (hm c)
          have hf := Option.some.inj hf
          rw [← hf]
          exact z_vret hx hb hr hlocks hW hS hm trivial dX5_takeSwitch_138
        refine lv_ifnull hx hb dX5_takeSwitch_67 ?_
        refine lv_iload_n hx hb dX5_takeSwitch_70 rfl (lv_at hl 1 rfl) ?_
        refine lv_aload_n hx hb dX5_takeSwitch_71 rfl (lv_at hl 2 rfl) ?_
        refine va_get hx hb hts ni_X5_takeSwitch_X5 hown hKK.1 (wd_1 hW ((hm _).trans v_z)) 0 rfl rfl 1 (by decide) (hts (.fieldLink RX5 15 "TiltRoute$Play" "hits" "[I") (List.mem_of_getElem? (i := 5) rfl)) (fun _ h => h) rfl dX5_takeSwitch_72 ?_
        have v27 : zV S (15, a_z, b_z) = true := (hm _).symm.trans (vf_6_1 hW ((hm _).trans v_z))
        refine va_alen (v := 3) hx hb hKK.1 (wd_1 hW ((hm _).trans v27)) 0 0 rfl rfl (show Int32.ofNat 3 = 3 by decide) dX5_takeSwitch_75 ?_
        refine lv_icmp_ge (tgt := 132) hx hb dX5_takeSwitch_76 (by decide) (fun k76 => ?_) (fun k76 => ?_)
        · have hf := (op_if hf).1 k76
          exact hj23 S21 H locs ls  (lv_sub hl [2, 3, 4] rfl) hW hS hm hf
        · have hf := (op_if hf).2 k76
          refine lv_aload_n hx hb dX5_takeSwitch_79 rfl (lv_at hl 2 rfl) ?_
          refine va_get hx hb hts ni_X5_takeSwitch_X5 hown hKK.1 (wd_1 hW ((hm _).trans v_z)) 0 rfl rfl 1 (by decide) (hts (.fieldLink RX5 15 "TiltRoute$Play" "hits" "[I") (List.mem_of_getElem? (i := 5) rfl)) (fun _ h => h) rfl dX5_takeSwitch_80 ?_
          have v28 : zV S (15, a_z, b_z) = true := (hm _).symm.trans (vf_6_1 hW ((hm _).trans v_z))
          refine lv_iload_n hx hb dX5_takeSwitch_83 rfl (lv_at hl 1 rfl) ?_
          refine lv_dup2_11 hx hb dX5_takeSwitch_84 rfl rfl ?_
          obtain ⟨h85, hf⟩ := op_gd hf
          refine va_iald hx hb hKK.1 (wd_1 hW ((hm _).trans v28)) 0 0 (n := 3) rfl rfl h85 dX5_takeSwitch_85 ?_
          refine lv_iconst (v := (1)) hx hb dX5_takeSwitch_86 (by decide) ?_
          refine lv_iadd hx hb dX5_takeSwitch_87 ?_
          obtain ⟨h88, hf⟩ := op_gd hf
          obtain ⟨S29, eS29, hf⟩ := op_st hf
          refine g_iast (n := 3) hx hb hKK.1 hW hS ((hm _).trans v28) (fun _ _ _ _ => rfl) h88 dX5_takeSwitch_88 eS29 (fun H locs hW hS => ?_)
          have hm : ∀ c, zV S29 c = zV S c := fun c => by rw [eS29]; exact hm c
          refine lv_iload_n hx hb dX5_takeSwitch_89 rfl (lv_at hl 4 rfl) ?_
          refine lv_aload hx hb dX5_takeSwitch_90 (lv_at hl 0 rfl) ?_
          refine va_get hx hb hts ni_X5_takeSwitch_X3 hown hKK.1 (wd_1 hW ((hm _).trans (v3 _ ho6))) 0 rfl rfl 1 (by decide) (hts (.fieldLink RX5 40 "TiltRoute$Mode" "ends" "I") (List.mem_of_getElem? (i := 6) rfl)) (fun _ h => h) rfl dX5_takeSwitch_92 ?_
          obtain ⟨j30, ej30, hf⟩ := op_st hf
          have hj30 : ∀ (u_ : Unit) (H : Heap) (locs : List Loc) (ls : Array Slot), lv_has ls 5 [(4, .ref (lo (4, n5, 0))), (3, .int x1), (0, .ref (lo (6, a_z, b_z)))] → Wd Γ lo S29 X H → va_S (zA Γ) s.heap H locs → (∀ c, zV S29 c = zV S c) → j30 () = some y → W p l e (headSpec wsX5_takeSwitch rmX5_takeSwitch).room s m ([.ref (lo (6, a_z, b_z)), .ref (lo (7, a_1, b_1)), .int i_2] : List Value).toArray below meth c H locs 0 0 (MQ below (zQ0 Γ lo S y X none True) ([.ref (lo (6, a_z, b_z)), .ref (lo (7, a_1, b_1)), .int i_2] : List Value).toArray s 0 0 (zA Γ)) (F0 m 112 ls []) := by
            intro u_ H locs ls  hl hW hS hm hf
            rw [ej30] at hf
            refine lv_aload_n hx hb dX5_takeSwitch_112 rfl (lv_at hl 2 rfl) ?_
            refine lv_iload_n hx hb dX5_takeSwitch_113 rfl (lv_at hl 1 rfl) ?_
            obtain ⟨S31, eS31, hf⟩ := op_st hf
            refine g_put hx hb hts ni_X5_takeSwitch_X5 tyX5 tyX5_ok nmX5 hown hKK.1 hW hS ((hm _).trans v_z) rfl rfl 2 (by decide) (hts (.fieldLink RX5 18 "TiltRoute$Play" "depth" "I") (List.mem_of_getElem? (i := 1) rfl)) rfl rfl rfl (show 2 < 4 by decide) rfl dX5_takeSwitch_114 eS31 (fun H locs hW hS => ?_)
            have hm : ∀ c, zV S31 c = zV S c := fun c => by rw [eS31]; exact hm c
            refine lv_aload_n hx hb dX5_takeSwitch_117 rfl (lv_at hl 2 rfl) ?_
            refine lv_dup hx hb dX5_takeSwitch_118 rfl ?_
            refine va_get hx hb hts ni_X5_takeSwitch_X5 hown hKK.1 (wd_1 hW ((hm _).trans v_z)) 0 rfl rfl 3 (by decide) (hts (.fieldLink RX5 22 "TiltRoute$Play" "score" "I") (List.mem_of_getElem? (i := 3) rfl)) (fun _ h => h) rfl dX5_takeSwitch_119 ?_
            refine lv_aload hx hb dX5_takeSwitch_122 (lv_at hl 0 rfl) ?_
            refine va_get hx hb hts ni_X5_takeSwitch_X3 hown hKK.1 (wd_1 hW ((hm _).trans (v3 _ ho6))) 0 rfl rfl 4 (by decide) (hts (.fieldLink RX5 46 "TiltRoute$Mode" "bonus" "I") (List.mem_of_getElem? (i := 8) rfl)) (fun _ h => h) rfl dX5_takeSwitch_124 ?_
            refine lv_iadd hx hb dX5_takeSwitch_127 ?_
            obtain ⟨S32, eS32, hf⟩ := op_st hf
            refine g_put hx hb hts ni_X5_takeSwitch_X5 tyX5 tyX5_ok nmX5 hown hKK.1 hW hS ((hm _).trans v_z) rfl rfl 3 (by decide) (hts (.fieldLink RX5 22 "TiltRoute$Play" "score" "I") (List.mem_of_getElem? (i := 3) rfl)) rfl rfl rfl (show 3 < 4 by decide) rfl dX5_takeSwitch_128 eS32 (fun H locs hW hS => ?_)
            have hm : ∀ c, zV S32 c = zV S c := fun c => by rw [eS32]; exact hm c
            have hf := Option.some.inj hf
            rw [← hf]
            exact z_vret hx hb hr hlocks hW hS hm trivial dX5_takeSwitch_131
          refine lv_icmp_eq (tgt := 112) hx hb dX5_takeSwitch_95 (by decide) (fun k95 => ?_) (fun k95 => ?_)
          · have hf := (op_if hf).1 k95
            exact hj30 () H locs ls  (lv_sub hl [0, 1, 2] rfl) hW hS hm hf
          · have hf := (op_if hf).2 k95
            refine lv_aload_n hx hb dX5_takeSwitch_98 rfl (lv_at hl 2 rfl) ?_
            refine va_get hx hb hts ni_X5_takeSwitch_X5 hown hKK.1 (wd_1 hW ((hm _).trans v_z)) 0 rfl rfl 1 (by decide) (hts (.fieldLink RX5 15 "TiltRoute$Play" "hits" "[I") (List.mem_of_getElem? (i := 5) rfl)) (fun _ h => h) rfl dX5_takeSwitch_99 ?_
            have v33 : zV S (15, a_z, b_z) = true := (hm _).symm.trans (vf_6_1 hW ((hm _).trans v_z))
            refine lv_iload_n hx hb dX5_takeSwitch_102 rfl (lv_at hl 1 rfl) ?_
            obtain ⟨h103, hf⟩ := op_gd hf
            refine va_iald hx hb hKK.1 (wd_1 hW ((hm _).trans v33)) 0 0 (n := 3) rfl rfl h103 dX5_takeSwitch_103 ?_
            refine lv_aload hx hb dX5_takeSwitch_104 (lv_at hl 0 rfl) ?_
            refine va_get hx hb hts ni_X5_takeSwitch_X3 hown hKK.1 (wd_1 hW ((hm _).trans (v3 _ ho6))) 0 rfl rfl 2 (by decide) (hts (.fieldLink RX5 43 "TiltRoute$Mode" "limit" "I") (List.mem_of_getElem? (i := 7) rfl)) (fun _ h => h) rfl dX5_takeSwitch_106 ?_
            refine lv_icmp_ne (tgt := 132) hx hb dX5_takeSwitch_109 (by decide) (fun k109 => ?_) (fun k109 => ?_)
            · have hf := (op_if hf).2 k109
              exact hj23 S29 H locs ls  (lv_sub hl [2, 3, 4] rfl) hW hS hm hf
            · have hf := (op_if hf).1 k109
              exact hj30 () H locs ls  (lv_sub hl [0, 1, 2] rfl) hW hS hm hf
      refine lv_ifnonnull (tgt := 55) hx hb dX5_takeSwitch_48 (by decide) ?_
      refine lv_aload hx hb dX5_takeSwitch_55 (lv_at hl 0 rfl) ?_
      refine va_get hx hb hts ni_X5_takeSwitch_X3 hown hKK.1 (wd_1 hW (v3 _ ho6)) 0 rfl rfl 3 (by decide) (hts (.fieldLink RX5 35 "TiltRoute$Mode" "times" "I") (List.mem_of_getElem? (i := 4) rfl)) (fun _ h => h) rfl dX5_takeSwitch_57 ?_
      exact hj20 (zI S (4, n5, 0) 3) H locs ls  (lv_sub hl [0, 1, 2, 3, 4] rfl) hW hS hm hf
  obtain ⟨j34, ej34, hf⟩ := op_st hf
  have hj34 : ∀ (u_ : Unit) (H : Heap) (locs : List Loc) (ls : Array Slot), lv_has ls 5 [(3, .int x1), (0, .ref (lo (6, a_z, b_z))), (1, .ref (lo (7, a_1, b_1))), (2, .int i_2)] → Wd Γ lo S X H → va_S (zA Γ) s.heap H locs → (∀ c, zV S c = zV S c) → j34 () = some y → W p l e (headSpec wsX5_takeSwitch rmX5_takeSwitch).room s m ([.ref (lo (6, a_z, b_z)), .ref (lo (7, a_1, b_1)), .int i_2] : List Value).toArray below meth c H locs 0 0 (MQ below (zQ0 Γ lo S y X none True) ([.ref (lo (6, a_z, b_z)), .ref (lo (7, a_1, b_1)), .int i_2] : List Value).toArray s 0 0 (zA Γ)) (F0 m 33 ls []) := by
    intro u_ H locs ls  hl hW hS hm hf
    rw [ej34] at hf
    refine lv_null hx hb dX5_takeSwitch_33 ?_
    exact hj4 none H locs ls (fun _ h => nomatch h) (lv_sub hl [0, 1, 2, 3] rfl) hW hS hm hf
  refine lv_if_lt (tgt := 33) hx hb dX5_takeSwitch_8 (by decide) (fun k8 => ?_) (fun k8 => ?_)
  · have hf := (op_if hf).1 k8
    exact hj34 () H locs ls  (lv_sub hl [0, 1, 2, 3] rfl) hW hS hm hf
  · have hf := (op_if hf).2 k8
    refine lv_iload_n hx hb dX5_takeSwitch_11 rfl (lv_at hl 0 rfl) ?_
    refine lv_aload_n hx hb dX5_takeSwitch_12 rfl (lv_at hl 1 rfl) ?_
    refine va_get hx hb hts ni_X5_takeSwitch_X5 hown hKK.1 (wd_1 hW v_z) 0 rfl rfl 0 (by decide) (hts (.fieldLink RX5 9 "TiltRoute$Play" "stacked" "[I") (List.mem_of_getElem? (i := 2) rfl)) (fun _ h => h) rfl dX5_takeSwitch_13 ?_
    have v35 : zV S (14, a_z, b_z) = true := vf_6_0 hW v_z
    refine va_alen (v := 3) hx hb hKK.1 (wd_1 hW v35) 0 0 rfl rfl (show Int32.ofNat 3 = 3 by decide) dX5_takeSwitch_16 ?_
    refine lv_icmp_ge (tgt := 33) hx hb dX5_takeSwitch_17 (by decide) (fun k17 => ?_) (fun k17 => ?_)
    · have hf := (op_if hf).1 k17
      exact hj34 () H locs ls  (lv_sub hl [0, 1, 2, 3] rfl) hW hS hm hf
    · have hf := (op_if hf).2 k17
      refine lv_aload_n hx hb dX5_takeSwitch_20 rfl (lv_at hl 2 rfl) ?_
      refine lv_aload_n hx hb dX5_takeSwitch_21 rfl (lv_at hl 1 rfl) ?_
      refine va_get hx hb hts ni_X5_takeSwitch_X5 hown hKK.1 (wd_1 hW v_z) 0 rfl rfl 0 (by decide) (hts (.fieldLink RX5 9 "TiltRoute$Play" "stacked" "[I") (List.mem_of_getElem? (i := 2) rfl)) (fun _ h => h) rfl dX5_takeSwitch_22 ?_
      have v36 : zV S (14, a_z, b_z) = true := vf_6_0 hW v_z
      refine lv_iload_n hx hb dX5_takeSwitch_25 rfl (lv_at hl 0 rfl) ?_
      obtain ⟨h26, hf⟩ := op_gd hf
      refine va_iald hx hb hKK.1 (wd_1 hW v36) 0 0 (n := 3) rfl rfl h26 dX5_takeSwitch_26 ?_
      obtain ⟨r37, hc38, hf⟩ := op_cl hf
      refine z_callV (As := [.int (zI S (14, a_z, b_z) x1.toNatClampNeg)]) (rest := []) ⟨hx, hb, hml, hown, hts⟩ (tX6_modeOf l Γ lo S X v_1 hc38) (cwV 1 hts gX5_takeSwitch_X6_modeOf rfl rfl rfl (by decide +kernel) ⟨Nat.le_of_ble_eq_true rfl, Nat.le_of_ble_eq_true rfl⟩) (wd_1 hW v_1) rfl hKK hW hS rfl hl.1 rfl (Nat.le_of_ble_eq_true rfl) dX5_takeSwitch_27 ⟨Nat.zero_le _, Nat.zero_le _⟩ (fun H locs hW hS hm1 hE => ?_)
      have v39 := hE
      refine lv_goto (tgt := 34) hx hb dX5_takeSwitch_30 (by decide) ?_
      exact hj4 r37 H locs ls v39 (lv_sub hl [0, 1, 2, 3] rfl) hW hS hm hf

theorem ni_X5_stackedModes_X5 : ∀ w ∈ wsX50, w ∈ wsX5_stackedModes := by decide +kernel
def fX5_stackedModes (S : zSt) (a_z : Nat) (b_z : Nat) : Option Int32 :=
st (0 : Int32) fun x1 =>
st (0 : Int32) fun x2 =>
lp (fun (q3 : (Int32 × Int32)) => (if (zI S (6, a_z, b_z) 2) ≤ q3.2 then
some (.inr (q3.1))
else
if (3 : Int32) ≤ q3.2 then
some (.inr (q3.1))
else
gd (¬ (q3.2 < 0 ∨ 3 ≤ q3.2.toNatClampNeg)) (
st (((q3.1 * (10 : Int32)) + (zI S (14, a_z, b_z) q3.2.toNatClampNeg)) + (1 : Int32)) fun x11 =>
st (q3.2 + (1 : Int32)) fun x12 =>
some (.inl (x11, x12))) : Option ((Int32 × Int32) ⊕ Int32))) 40000 (x1, x2)
abbrev rmX5_stackedModes : Room := { frames := 0, cells := 0, slots := 0, locals := 0 }
set_option maxHeartbeats 4000000 in
set_option maxRecDepth 100000 in
theorem tX5_stackedModes (l : Launch) (Γ : zG) (lo : zId → Nat) (S : zSt) (X : va_W) {a_z : Nat} {b_z : Nat} (v_z : zV S (6, a_z, b_z) = true) {y : Int32} (hf : fX5_stackedModes S a_z b_z = some y) : Met l yX5_stackedModes wsX5_stackedModes rmX5_stackedModes (zP0 Γ lo S X [.ref (lo (6, a_z, b_z))]) (zQ0 Γ lo S S X (some (.int y)) True) 0 0 (zA Γ) := by
  refine Met.ofW (cc := cX5_stackedModes) (maxL := 3) (ret := (some .int)) (by decide) rfl ?_
  intro p e s m args below meth c s₁ B hml hv
  obtain ⟨rfl, hW, hKK⟩ := hv
  have hx := B.exec
  have hb := B.bytes
  have hr := B.returns
  have hts := atoms_spec (ws := wsX5_stackedModes) B.pre
  have hown : s.vm.findClass RX5 = some m.cls := findClass_of_methodNamed B.named
  have hlocks := B.notSynchronized
  have hS : va_S (zA Γ) s.heap s.heap [] := va_S.rf
  have hm : ∀ c, zV S c = zV S c := fun _ => rfl
  have hl := lv_entry ([.ref (lo (6, a_z, b_z))]) (n := 3) (Nat.le_of_ble_eq_true rfl)
  rw [lg_entry_eq]
  generalize (lg_sl ([.ref (lo (6, a_z, b_z))]) ++ List.replicate (3 - (lg_sl ([.ref (lo (6, a_z, b_z))])).length) Slot.unset).toArray = ls at hl ⊢
  have hl : lv_has ls 3 [(0, .ref (lo (6, a_z, b_z)))] := hl
  obtain ⟨H, hH0⟩ : ∃ H, H = s.heap := ⟨_, rfl⟩
  obtain ⟨locs, hlo0⟩ : ∃ L : List Loc, L = [] := ⟨_, rfl⟩
  have hS : va_S (zA Γ) s.heap H locs := by rw [hH0, hlo0]; exact hS
  have hW : Wd Γ lo S X H := by rw [hH0]; exact hW
  rw [← hH0, ← hlo0]
  unfold fX5_stackedModes at hf
  refine lv_iconst (v := (0)) hx hb dX5_stackedModes_0 (by decide) ?_
  obtain ⟨x1, ex1, hf⟩ := op_st hf
  refine z_istn (lv' := [(1, .int x1), (0, .ref (lo (6, a_z, b_z)))]) ex1 hx hb dX5_stackedModes_1 rfl hl (by decide) rfl (fun ls hl => ?_)
  refine lv_iconst (v := (0)) hx hb dX5_stackedModes_2 (by decide) ?_
  obtain ⟨x2, ex2, hf⟩ := op_st hf
  refine z_istn (lv' := [(2, .int x2), (1, .int x1), (0, .ref (lo (6, a_z, b_z)))]) ex2 hx hb dX5_stackedModes_3 rfl hl (by decide) rfl (fun ls hl => ?_)
  obtain ⟨w5, q30, ew5, eq30, hf⟩ := op_lb hf
  have hw5 : ∀ n8 : Nat, ∀ (q3 : (Int32 × Int32)) (H : Heap) (locs : List Loc) (ls : Array Slot), lv_has ls 3 [(2, .int q3.2), (1, .int q3.1), (0, .ref (lo (6, a_z, b_z)))] → Wd Γ lo S X H → va_S (zA Γ) s.heap H locs → (∀ c, zV S c = zV S c) → lp w5 n8 q3 = some y → W p l e (headSpec wsX5_stackedModes rmX5_stackedModes).room s m ([.ref (lo (6, a_z, b_z))] : List Value).toArray below meth c H locs 0 0 (MQ below (zQ0 Γ lo S S X (some (.int y)) True) ([.ref (lo (6, a_z, b_z))] : List Value).toArray s 0 0 (zA Γ)) (F0 m 4 ls []) := by
    intro n8
    induction n8 with
    | zero => intro q3 H locs ls hl hW hS hm hf; cases hf
    | succ n8 ih6 =>
      intro q3 H locs ls hl hW hS hm hf
      obtain ⟨n_, r4, hn_, hf, hr7⟩ := op_lq hf
      cases hn_
      rw [ew5] at hf
      refine lv_iload_n hx hb dX5_stackedModes_4 rfl (lv_at hl 0 rfl) ?_
      refine lv_aload_n hx hb dX5_stackedModes_5 rfl (lv_at hl 2 rfl) ?_
      refine va_get hx hb hts ni_X5_stackedModes_X5 hown hKK.1 (wd_1 hW v_z) 0 rfl rfl 2 (by decide) (hts (.fieldLink RX5 18 "TiltRoute$Play" "depth" "I") (List.mem_of_getElem? (i := 1) rfl)) (fun _ h => h) rfl dX5_stackedModes_6 ?_
      refine lv_icmp_ge (tgt := 41) hx hb dX5_stackedModes_9 (by decide) (fun k9 => ?_) (fun k9 => ?_)
      · have hf := (op_if hf).1 k9
        refine lv_iload_n hx hb dX5_stackedModes_41 rfl (lv_at hl 1 rfl) ?_
        have hf := zr_r hf hr7
        rw [← hf]
        exact z_iret hx hb hr hlocks rfl hW hS hm trivial dX5_stackedModes_42
      · have hf := (op_if hf).2 k9
        refine lv_iload_n hx hb dX5_stackedModes_12 rfl (lv_at hl 0 rfl) ?_
        refine lv_aload_n hx hb dX5_stackedModes_13 rfl (lv_at hl 2 rfl) ?_
        refine va_get hx hb hts ni_X5_stackedModes_X5 hown hKK.1 (wd_1 hW v_z) 0 rfl rfl 0 (by decide) (hts (.fieldLink RX5 9 "TiltRoute$Play" "stacked" "[I") (List.mem_of_getElem? (i := 2) rfl)) (fun _ h => h) rfl dX5_stackedModes_14 ?_
        have v9 : zV S (14, a_z, b_z) = true := vf_6_0 hW v_z
        refine va_alen (v := 3) hx hb hKK.1 (wd_1 hW v9) 0 0 rfl rfl (show Int32.ofNat 3 = 3 by decide) dX5_stackedModes_17 ?_
        refine lv_icmp_ge (tgt := 41) hx hb dX5_stackedModes_18 (by decide) (fun k18 => ?_) (fun k18 => ?_)
        · have hf := (op_if hf).1 k18
          refine lv_iload_n hx hb dX5_stackedModes_41 rfl (lv_at hl 1 rfl) ?_
          have hf := zr_r hf hr7
          rw [← hf]
          exact z_iret hx hb hr hlocks rfl hW hS hm trivial dX5_stackedModes_42
        · have hf := (op_if hf).2 k18
          refine lv_iload_n hx hb dX5_stackedModes_21 rfl (lv_at hl 1 rfl) ?_
          refine lv_bipush (v := (10)) hx hb dX5_stackedModes_22 (by decide) ?_
          refine lv_imul hx hb dX5_stackedModes_24 ?_
          refine lv_aload_n hx hb dX5_stackedModes_25 rfl (lv_at hl 2 rfl) ?_
          refine va_get hx hb hts ni_X5_stackedModes_X5 hown hKK.1 (wd_1 hW v_z) 0 rfl rfl 0 (by decide) (hts (.fieldLink RX5 9 "TiltRoute$Play" "stacked" "[I") (List.mem_of_getElem? (i := 2) rfl)) (fun _ h => h) rfl dX5_stackedModes_26 ?_
          have v10 : zV S (14, a_z, b_z) = true := vf_6_0 hW v_z
          refine lv_iload_n hx hb dX5_stackedModes_29 rfl (lv_at hl 0 rfl) ?_
          obtain ⟨h30, hf⟩ := op_gd hf
          refine va_iald hx hb hKK.1 (wd_1 hW v10) 0 0 (n := 3) rfl rfl h30 dX5_stackedModes_30 ?_
          refine lv_iadd hx hb dX5_stackedModes_31 ?_
          refine lv_iconst (v := (1)) hx hb dX5_stackedModes_32 (by decide) ?_
          refine lv_iadd hx hb dX5_stackedModes_33 ?_
          obtain ⟨x11, ex11, hf⟩ := op_st hf
          refine z_istn (lv' := [(1, .int x11), (2, .int q3.2), (0, .ref (lo (6, a_z, b_z)))]) ex11 hx hb dX5_stackedModes_34 rfl hl (by decide) rfl (fun ls hl => ?_)
          obtain ⟨x12, ex12, hf⟩ := op_st hf
          refine lv_iinc (v := x12) (lv' := [(2, .int x12), (1, .int x11), (0, .ref (lo (6, a_z, b_z)))]) hx hb dX5_stackedModes_35 hl (k := 1) rfl (by rw [ex12]; rfl) (by decide) rfl (fun ls hl => ?_)
          refine lv_goto (tgt := 4) hx hb dX5_stackedModes_38 (by decide) ?_
          have hf := zr_l hf hr7
          exact ih6 (x11, x12) H locs ls (lv_sub hl [0, 1, 2] rfl) hW hS hm hf
  rw [eq30] at hf
  exact hw5 _ (x1, x2) H locs ls (lv_sub hl [0, 1, 2] rfl) hW hS hm hf

