theorem ni_X2_closeSwitch_X2 : ∀ w ∈ wsX20, w ∈ wsX2_closeSwitch := by decide +kernel
def fX2_closeSwitch (S : zSt) (a_z : Nat) (i_1 : Int32) (i_2 : Int32) (i_3 : Int32) : Option zSt :=
if (zI S (3, a_z, 0) 4) < 0 then
some (S)
else
if (zI S (3, a_z, 0) 4) < (2520 : Int32) then
gd (¬ ((zI S (3, a_z, 0) 4) < 0 ∨ 2520 ≤ (zI S (3, a_z, 0) 4).toNatClampNeg)) (
st (pL S (16, a_z, 0) (zI S (3, a_z, 0) 4).toNatClampNeg (((i_1.toInt64 ||| ((zI S (3, a_z, 0) 5).toInt64 <<< ((4 : Int32).toInt64 &&& 63))) ||| (i_2.toInt64 <<< ((8 : Int32).toInt64 &&& 63))) ||| ((i_3 + (1 : Int32)).toInt64 <<< ((20 : Int32).toInt64 &&& 63)))) fun S3 =>
st (pI S3 (3, a_z, 0) 4 ((zI S3 (3, a_z, 0) 4) + (1 : Int32))) fun S4 =>
cl (fX5_takeSwitch S4 0 a_z 1 a_z i_1) fun S9 =>
some (S9))
else
some (S)
abbrev rmX2_closeSwitch : Room := { frames := 3, cells := 0, slots := 0, locals := 70 }
set_option maxHeartbeats 4000000 in
set_option maxRecDepth 100000 in
theorem tX2_closeSwitch (l : Launch) (Γ : zG) (lo : zId → Nat) (S : zSt) (X : va_W) {a_z : Nat} {i_1 : Int32} {i_2 : Int32} {i_3 : Int32} (v_z : zV S (3, a_z, 0) = true) {y : zSt} (hf : fX2_closeSwitch S a_z i_1 i_2 i_3 = some y) : Met l yX2_closeSwitch wsX2_closeSwitch rmX2_closeSwitch (zP0 Γ lo S X [.ref (lo (3, a_z, 0)), .int i_1, .int i_2, .int i_3]) (zQ0 Γ lo S y X none True) 0 0 (zA Γ) := by
  refine Met.ofW (cc := cX2_closeSwitch) (maxL := 4) (ret := none) (by decide) rfl ?_
  intro p e s m args below meth c s₁ B hml hv
  obtain ⟨rfl, hW, hKK⟩ := hv
  have hx := B.exec
  have hb := B.bytes
  have hr := B.returns
  have hts := atoms_spec (ws := wsX2_closeSwitch) B.pre
  have hown : s.vm.findClass RX2 = some m.cls := findClass_of_methodNamed B.named
  have hlocks := B.notSynchronized
  have hS : va_S (zA Γ) s.heap s.heap [] := va_S.rf
  have hm : ∀ c, zV S c = zV S c := fun _ => rfl
  have hl := lv_entry ([.ref (lo (3, a_z, 0)), .int i_1, .int i_2, .int i_3]) (n := 4) (Nat.le_of_ble_eq_true rfl)
  rw [lg_entry_eq]
  generalize (lg_sl ([.ref (lo (3, a_z, 0)), .int i_1, .int i_2, .int i_3]) ++ List.replicate (4 - (lg_sl ([.ref (lo (3, a_z, 0)), .int i_1, .int i_2, .int i_3])).length) Slot.unset).toArray = ls at hl ⊢
  have hl : lv_has ls 4 [(0, .ref (lo (3, a_z, 0))), (1, .int i_1), (2, .int i_2), (3, .int i_3)] := hl
  obtain ⟨H, hH0⟩ : ∃ H, H = s.heap := ⟨_, rfl⟩
  obtain ⟨locs, hlo0⟩ : ∃ L : List Loc, L = [] := ⟨_, rfl⟩
  have hS : va_S (zA Γ) s.heap H locs := by rw [hH0, hlo0]; exact hS
  have hW : Wd Γ lo S X H := by rw [hH0]; exact hW
  rw [← hH0, ← hlo0]
  unfold fX2_closeSwitch at hf
  refine lv_aload_n hx hb dX2_closeSwitch_0 rfl (lv_at hl 0 rfl) ?_
  refine va_get hx hb hts ni_X2_closeSwitch_X2 hown hKK.1 (wd_1 hW v_z) 0 rfl rfl 4 (by decide) (hts (.fieldLink RX2 22 "TiltRoute$Game" "logged" "I") (List.mem_of_getElem? (i := 1) rfl)) (fun _ h => h) rfl dX2_closeSwitch_1 ?_
  refine lv_if_lt (tgt := 19) hx hb dX2_closeSwitch_4 (by decide) (fun k4 => ?_) (fun k4 => ?_)
  · have hf := (op_if hf).1 k4
    have hf := Option.some.inj hf
    rw [← hf]
    exact z_vret hx hb hr hlocks hW hS hm trivial dX2_closeSwitch_19
  · have hf := (op_if hf).2 k4
    refine lv_aload_n hx hb dX2_closeSwitch_7 rfl (lv_at hl 0 rfl) ?_
    refine va_get hx hb hts ni_X2_closeSwitch_X2 hown hKK.1 (wd_1 hW v_z) 0 rfl rfl 4 (by decide) (hts (.fieldLink RX2 22 "TiltRoute$Game" "logged" "I") (List.mem_of_getElem? (i := 1) rfl)) (fun _ h => h) rfl dX2_closeSwitch_8 ?_
    refine lv_aload_n hx hb dX2_closeSwitch_11 rfl (lv_at hl 0 rfl) ?_
    refine va_get hx hb hts ni_X2_closeSwitch_X2 hown hKK.1 (wd_1 hW v_z) 0 rfl rfl 3 (by decide) (hts (.fieldLink RX2 18 "TiltRoute$Game" "log" "[J") (List.mem_of_getElem? (i := 2) rfl)) (fun _ h => h) rfl dX2_closeSwitch_12 ?_
    have v1 : zV S (16, a_z, 0) = true := vf_3_3 hW v_z
    refine va_alen (v := 2520) hx hb hKK.1 (wd_1 hW v1) 0 1 rfl rfl (show Int32.ofNat 2520 = 2520 by decide) dX2_closeSwitch_15 ?_
    refine lv_icmp_lt (tgt := 20) hx hb dX2_closeSwitch_16 (by decide) (fun k16 => ?_) (fun k16 => ?_)
    · have hf := (op_if hf).1 k16
      refine lv_aload_n hx hb dX2_closeSwitch_20 rfl (lv_at hl 0 rfl) ?_
      refine va_get hx hb hts ni_X2_closeSwitch_X2 hown hKK.1 (wd_1 hW v_z) 0 rfl rfl 3 (by decide) (hts (.fieldLink RX2 18 "TiltRoute$Game" "log" "[J") (List.mem_of_getElem? (i := 2) rfl)) (fun _ h => h) rfl dX2_closeSwitch_21 ?_
      have v2 : zV S (16, a_z, 0) = true := vf_3_3 hW v_z
      refine lv_aload_n hx hb dX2_closeSwitch_24 rfl (lv_at hl 0 rfl) ?_
      refine va_get hx hb hts ni_X2_closeSwitch_X2 hown hKK.1 (wd_1 hW v_z) 0 rfl rfl 4 (by decide) (hts (.fieldLink RX2 22 "TiltRoute$Game" "logged" "I") (List.mem_of_getElem? (i := 1) rfl)) (fun _ h => h) rfl dX2_closeSwitch_25 ?_
      refine lv_iload_n hx hb dX2_closeSwitch_28 rfl (lv_at hl 1 rfl) ?_
      refine lv_i2l hx hb dX2_closeSwitch_29 rfl ?_
      refine lv_aload_n hx hb dX2_closeSwitch_30 rfl (lv_at hl 0 rfl) ?_
      refine va_get hx hb hts ni_X2_closeSwitch_X2 hown hKK.1 (wd_1 hW v_z) 0 rfl rfl 5 (by decide) (hts (.fieldLink RX2 26 "TiltRoute$Game" "ballsShot" "I") (List.mem_of_getElem? (i := 3) rfl)) (fun _ h => h) rfl dX2_closeSwitch_31 ?_
      refine lv_i2l hx hb dX2_closeSwitch_34 rfl ?_
      refine lv_iconst (v := (4)) hx hb dX2_closeSwitch_35 (by decide) ?_
      refine lv_lshl hx hb dX2_closeSwitch_36 rfl ?_
      refine lv_lor hx hb dX2_closeSwitch_37 ?_
      refine lv_iload_n hx hb dX2_closeSwitch_38 rfl (lv_at hl 2 rfl) ?_
      refine lv_i2l hx hb dX2_closeSwitch_39 rfl ?_
      refine lv_bipush (v := (8)) hx hb dX2_closeSwitch_40 (by decide) ?_
      refine lv_lshl hx hb dX2_closeSwitch_42 rfl ?_
      refine lv_lor hx hb dX2_closeSwitch_43 ?_
      refine lv_iload_n hx hb dX2_closeSwitch_44 rfl (lv_at hl 3 rfl) ?_
      refine lv_iconst (v := (1)) hx hb dX2_closeSwitch_45 (by decide) ?_
      refine lv_iadd hx hb dX2_closeSwitch_46 ?_
      refine lv_i2l hx hb dX2_closeSwitch_47 rfl ?_
      refine lv_bipush (v := (20)) hx hb dX2_closeSwitch_48 (by decide) ?_
      refine lv_lshl hx hb dX2_closeSwitch_50 rfl ?_
      refine lv_lor hx hb dX2_closeSwitch_51 ?_
      obtain ⟨h52, hf⟩ := op_gd hf
      obtain ⟨S3, eS3, hf⟩ := op_st hf
      refine g_last (n := 2520) hx hb hKK.1 hW hS v2 (fun _ _ _ _ => rfl) h52 dX2_closeSwitch_52 eS3 (fun H locs hW hS => ?_)
      have hm : ∀ c, zV S3 c = zV S c := fun c => by rw [eS3]; rfl
      refine lv_aload_n hx hb dX2_closeSwitch_53 rfl (lv_at hl 0 rfl) ?_
      refine lv_dup hx hb dX2_closeSwitch_54 rfl ?_
      refine va_get hx hb hts ni_X2_closeSwitch_X2 hown hKK.1 (wd_1 hW ((hm _).trans v_z)) 0 rfl rfl 4 (by decide) (hts (.fieldLink RX2 22 "TiltRoute$Game" "logged" "I") (List.mem_of_getElem? (i := 1) rfl)) (fun _ h => h) rfl dX2_closeSwitch_55 ?_
      refine lv_iconst (v := (1)) hx hb dX2_closeSwitch_58 (by decide) ?_
      refine lv_iadd hx hb dX2_closeSwitch_59 ?_
      obtain ⟨S4, eS4, hf⟩ := op_st hf
      refine g_put hx hb hts ni_X2_closeSwitch_X2 tyX2 tyX2_ok nmX2 hown hKK.1 hW hS ((hm _).trans v_z) rfl rfl 4 (by decide) (hts (.fieldLink RX2 22 "TiltRoute$Game" "logged" "I") (List.mem_of_getElem? (i := 1) rfl)) rfl rfl rfl (show 4 < 6 by decide) rfl dX2_closeSwitch_60 eS4 (fun H locs hW hS => ?_)
      have hm : ∀ c, zV S4 c = zV S c := fun c => by rw [eS4]; exact hm c
      refine lv_aload_n hx hb dX2_closeSwitch_63 rfl (lv_at hl 0 rfl) ?_
      refine va_get hx hb hts ni_X2_closeSwitch_X2 hown hKK.1 (wd_1 hW ((hm _).trans v_z)) 0 rfl rfl 2 (by decide) (hts (.fieldLink RX2 12 "TiltRoute$Game" "play" "LTiltRoute$Play;") (List.mem_of_getElem? (i := 4) rfl)) (fun _ h => h) rfl dX2_closeSwitch_64 ?_
      have v5 : zV S (6, 0, a_z) = true := (hm _).symm.trans (vf_3_2 hW ((hm _).trans v_z))
      refine lv_aload_n hx hb dX2_closeSwitch_67 rfl (lv_at hl 0 rfl) ?_
      refine va_get hx hb hts ni_X2_closeSwitch_X2 hown hKK.1 (wd_1 hW ((hm _).trans v_z)) 0 rfl rfl 1 (by decide) (hts (.fieldLink RX2 32 "TiltRoute$Game" "rules" "LTiltRoute$Rules;") (List.mem_of_getElem? (i := 5) rfl)) (fun _ h => h) rfl dX2_closeSwitch_68 ?_
      have v6 : zV S (7, 1, a_z) = true := (hm _).symm.trans (vf_3_1 hW ((hm _).trans v_z))
      refine lv_iload_n hx hb dX2_closeSwitch_71 rfl (lv_at hl 1 rfl) ?_
      obtain ⟨S9, hc8, hf⟩ := op_cl hf
      refine z_callV (As := [.ref (lo (7, 1, a_z)), .int i_1]) (rest := []) ⟨hx, hb, hml, hown, hts⟩ (tX5_takeSwitch l Γ lo S4 X ((hm _).trans v5) ((hm _).trans v6) hc8) (cwV 2 hts gX2_closeSwitch_X5_takeSwitch rfl rfl rfl (by decide +kernel) ⟨Nat.le_of_ble_eq_true rfl, Nat.le_of_ble_eq_true rfl⟩) (wd_1 hW ((hm _).trans v5)) rfl hKK hW hS rfl hl.1 rfl (Nat.le_of_ble_eq_true rfl) dX2_closeSwitch_72 ⟨Nat.zero_le _, Nat.zero_le _⟩ (fun H locs hW hS hm1 hE => ?_)
      have hm : ∀ c, zV S9 c = zV S c := fun c => (hm1 c).trans (hm c)
      have hf := Option.some.inj hf
      rw [← hf]
      exact z_vret hx hb hr hlocks hW hS hm trivial dX2_closeSwitch_75
    · have hf := (op_if hf).2 k16
      have hf := Option.some.inj hf
      rw [← hf]
      exact z_vret hx hb hr hlocks hW hS hm trivial dX2_closeSwitch_19

theorem ni_X2_entryOf_X2 : ∀ w ∈ wsX20, w ∈ wsX2_entryOf := by decide +kernel
def fX2_entryOf (S : zSt) (a_z : Nat) (i_1 : Int32) : Option Int64 :=
st (fun (u_ : Unit) => (some ((0 : Int64)) : Option Int64)) fun j1 =>
if i_1 < 0 then
j1 ()
else
if (2520 : Int32) ≤ i_1 then
j1 ()
else
gd (¬ (i_1 < 0 ∨ 2520 ≤ i_1.toNatClampNeg)) (
some ((zL S (16, a_z, 0) i_1.toNatClampNeg)))
abbrev rmX2_entryOf : Room := { frames := 0, cells := 0, slots := 0, locals := 0 }
set_option maxHeartbeats 4000000 in
set_option maxRecDepth 100000 in
theorem tX2_entryOf (l : Launch) (Γ : zG) (lo : zId → Nat) (S : zSt) (X : va_W) {a_z : Nat} {i_1 : Int32} (v_z : zV S (3, a_z, 0) = true) {y : Int64} (hf : fX2_entryOf S a_z i_1 = some y) : Met l yX2_entryOf wsX2_entryOf rmX2_entryOf (zP0 Γ lo S X [.ref (lo (3, a_z, 0)), .int i_1]) (zQ0 Γ lo S S X (some (.long y)) True) 0 0 (zA Γ) := by
  refine Met.ofW (cc := cX2_entryOf) (maxL := 2) (ret := (some .long)) (by decide) rfl ?_
  intro p e s m args below meth c s₁ B hml hv
  obtain ⟨rfl, hW, hKK⟩ := hv
  have hx := B.exec
  have hb := B.bytes
  have hr := B.returns
  have hts := atoms_spec (ws := wsX2_entryOf) B.pre
  have hown : s.vm.findClass RX2 = some m.cls := findClass_of_methodNamed B.named
  have hlocks := B.notSynchronized
  have hS : va_S (zA Γ) s.heap s.heap [] := va_S.rf
  have hm : ∀ c, zV S c = zV S c := fun _ => rfl
  have hl := lv_entry ([.ref (lo (3, a_z, 0)), .int i_1]) (n := 2) (Nat.le_of_ble_eq_true rfl)
  rw [lg_entry_eq]
  generalize (lg_sl ([.ref (lo (3, a_z, 0)), .int i_1]) ++ List.replicate (2 - (lg_sl ([.ref (lo (3, a_z, 0)), .int i_1])).length) Slot.unset).toArray = ls at hl ⊢
  have hl : lv_has ls 2 [(0, .ref (lo (3, a_z, 0))), (1, .int i_1)] := hl
  obtain ⟨H, hH0⟩ : ∃ H, H = s.heap := ⟨_, rfl⟩
  obtain ⟨locs, hlo0⟩ : ∃ L : List Loc, L = [] := ⟨_, rfl⟩
  have hS : va_S (zA Γ) s.heap H locs := by rw [hH0, hlo0]; exact hS
  have hW : Wd Γ lo S X H := by rw [hH0]; exact hW
  rw [← hH0, ← hlo0]
  unfold fX2_entryOf at hf
  refine lv_iload_n hx hb dX2_entryOf_0 rfl (lv_at hl 1 rfl) ?_
  obtain ⟨j1, ej1, hf⟩ := op_st hf
  have hj1 : ∀ (u_ : Unit) (H : Heap) (locs : List Loc) (ls : Array Slot), lv_has ls 2 [] → Wd Γ lo S X H → va_S (zA Γ) s.heap H locs → (∀ c, zV S c = zV S c) → j1 () = some y → W p l e (headSpec wsX2_entryOf rmX2_entryOf).room s m ([.ref (lo (3, a_z, 0)), .int i_1] : List Value).toArray below meth c H locs 0 0 (MQ below (zQ0 Γ lo S S X (some (.long y)) True) ([.ref (lo (3, a_z, 0)), .int i_1] : List Value).toArray s 0 0 (zA Γ)) (F0 m 22 ls []) := by
    intro u_ H locs ls  hl hW hS hm hf
    rw [ej1] at hf
    refine lv_lconst (v := (0)) hx hb dX2_entryOf_22 (by decide) ?_
    have hf := Option.some.inj hf
    rw [← hf]
    exact z_lret hx hb hr hlocks hW hS hm trivial dX2_entryOf_23
  refine lv_if_lt (tgt := 22) hx hb dX2_entryOf_1 (by decide) (fun k1 => ?_) (fun k1 => ?_)
  · have hf := (op_if hf).1 k1
    exact hj1 () H locs ls  (lv_sub hl [] rfl) hW hS hm hf
  · have hf := (op_if hf).2 k1
    refine lv_iload_n hx hb dX2_entryOf_4 rfl (lv_at hl 1 rfl) ?_
    refine lv_aload_n hx hb dX2_entryOf_5 rfl (lv_at hl 0 rfl) ?_
    refine va_get hx hb hts ni_X2_entryOf_X2 hown hKK.1 (wd_1 hW v_z) 0 rfl rfl 3 (by decide) (hts (.fieldLink RX2 18 "TiltRoute$Game" "log" "[J") (List.mem_of_getElem? (i := 1) rfl)) (fun _ h => h) rfl dX2_entryOf_6 ?_
    have v2 : zV S (16, a_z, 0) = true := vf_3_3 hW v_z
    refine va_alen (v := 2520) hx hb hKK.1 (wd_1 hW v2) 0 1 rfl rfl (show Int32.ofNat 2520 = 2520 by decide) dX2_entryOf_9 ?_
    refine lv_icmp_ge (tgt := 22) hx hb dX2_entryOf_10 (by decide) (fun k10 => ?_) (fun k10 => ?_)
    · have hf := (op_if hf).1 k10
      exact hj1 () H locs ls  (lv_sub hl [] rfl) hW hS hm hf
    · have hf := (op_if hf).2 k10
      refine lv_aload_n hx hb dX2_entryOf_13 rfl (lv_at hl 0 rfl) ?_
      refine va_get hx hb hts ni_X2_entryOf_X2 hown hKK.1 (wd_1 hW v_z) 0 rfl rfl 3 (by decide) (hts (.fieldLink RX2 18 "TiltRoute$Game" "log" "[J") (List.mem_of_getElem? (i := 1) rfl)) (fun _ h => h) rfl dX2_entryOf_14 ?_
      have v3 : zV S (16, a_z, 0) = true := vf_3_3 hW v_z
      refine lv_iload_n hx hb dX2_entryOf_17 rfl (lv_at hl 1 rfl) ?_
      obtain ⟨h18, hf⟩ := op_gd hf
      refine va_lald hx hb hKK.1 (wd_1 hW v3) 0 1 (n := 2520) rfl rfl h18 dX2_entryOf_18 ?_
      refine lv_goto (tgt := 23) hx hb dX2_entryOf_19 (by decide) ?_
      have hf := Option.some.inj hf
      rw [← hf]
      exact z_lret hx hb hr hlocks hW hS hm trivial dX2_entryOf_23

theorem ni_X2_hasLogOf_X2 : ∀ w ∈ wsX20, w ∈ wsX2_hasLogOf := by decide +kernel
def fX2_hasLogOf (S : zSt) (a_z : Nat) (a_1 : Nat) : Option Int32 :=
if (zI S (3, a_z, 0) 4) = (zI S (3, a_1, 0) 4) then
st (0 : Int32) fun x1 =>
lp (fun (q2 : (Int32)) => (if (zI S (3, a_z, 0) 4) ≤ q2 then
some (.inr ((1 : Int32)))
else
cl (fX2_entryOf S a_z q2) fun r8 =>
cl (fX2_entryOf S a_1 q2) fun r10 =>
if (lg_cmp r8 r10) = 0 then
st (q2 + (1 : Int32)) fun x12 =>
some (.inl (x12))
else
some (.inr ((0 : Int32))) : Option ((Int32) ⊕ Int32))) 40000 (x1)
else
some ((0 : Int32))
abbrev rmX2_hasLogOf : Room := { frames := 1, cells := 0, slots := 0, locals := 21 }
set_option maxHeartbeats 4000000 in
set_option maxRecDepth 100000 in
theorem tX2_hasLogOf (l : Launch) (Γ : zG) (lo : zId → Nat) (S : zSt) (X : va_W) {a_z : Nat} {a_1 : Nat} (v_z : zV S (3, a_z, 0) = true) (v_1 : zV S (3, a_1, 0) = true) {y : Int32} (hf : fX2_hasLogOf S a_z a_1 = some y) : Met l yX2_hasLogOf wsX2_hasLogOf rmX2_hasLogOf (zP0 Γ lo S X [.ref (lo (3, a_z, 0)), .ref (lo (3, a_1, 0))]) (zQ0 Γ lo S S X (some (.int y)) (y = 0 ∨ y = 1)) 0 0 (zA Γ) := by
  refine Met.ofW (cc := cX2_hasLogOf) (maxL := 3) (ret := (some .boolean)) (by decide) rfl ?_
  intro p e s m args below meth c s₁ B hml hv
  obtain ⟨rfl, hW, hKK⟩ := hv
  have hx := B.exec
  have hb := B.bytes
  have hr := B.returns
  have hts := atoms_spec (ws := wsX2_hasLogOf) B.pre
  have hown : s.vm.findClass RX2 = some m.cls := findClass_of_methodNamed B.named
  have hlocks := B.notSynchronized
  have hS : va_S (zA Γ) s.heap s.heap [] := va_S.rf
  have hm : ∀ c, zV S c = zV S c := fun _ => rfl
  have hl := lv_entry ([.ref (lo (3, a_z, 0)), .ref (lo (3, a_1, 0))]) (n := 3) (Nat.le_of_ble_eq_true rfl)
  rw [lg_entry_eq]
  generalize (lg_sl ([.ref (lo (3, a_z, 0)), .ref (lo (3, a_1, 0))]) ++ List.replicate (3 - (lg_sl ([.ref (lo (3, a_z, 0)), .ref (lo (3, a_1, 0))])).length) Slot.unset).toArray = ls at hl ⊢
  have hl : lv_has ls 3 [(0, .ref (lo (3, a_z, 0))), (1, .ref (lo (3, a_1, 0)))] := hl
  obtain ⟨H, hH0⟩ : ∃ H, H = s.heap := ⟨_, rfl⟩
  obtain ⟨locs, hlo0⟩ : ∃ L : List Loc, L = [] := ⟨_, rfl⟩
  have hS : va_S (zA Γ) s.heap H locs := by rw [hH0, hlo0]; exact hS
  have hW : Wd Γ lo S X H := by rw [hH0]; exact hW
  rw [← hH0, ← hlo0]
  unfold fX2_hasLogOf at hf
  refine lv_aload_n hx hb dX2_hasLogOf_0 rfl (lv_at hl 0 rfl) ?_
  refine va_get hx hb hts ni_X2_hasLogOf_X2 hown hKK.1 (wd_1 hW v_z) 0 rfl rfl 4 (by decide) (hts (.fieldLink RX2 22 "TiltRoute$Game" "logged" "I") (List.mem_of_getElem? (i := 1) rfl)) (fun _ h => h) rfl dX2_hasLogOf_1 ?_
  refine lv_aload_n hx hb dX2_hasLogOf_4 rfl (lv_at hl 1 rfl) ?_
  refine va_get hx hb hts ni_X2_hasLogOf_X2 hown hKK.1 (wd_1 hW v_1) 0 rfl rfl 4 (by decide) (hts (.fieldLink RX2 22 "TiltRoute$Game" "logged" "I") (List.mem_of_getElem? (i := 1) rfl)) (fun _ h => h) rfl dX2_hasLogOf_5 ?_
  refine lv_icmp_eq (tgt := 13) hx hb dX2_hasLogOf_8 (by decide) (fun k8 => ?_) (fun k8 => ?_)
  · have hf := (op_if hf).1 k8
    refine lv_iconst (v := (0)) hx hb dX2_hasLogOf_13 (by decide) ?_
    obtain ⟨x1, ex1, hf⟩ := op_st hf
    have bx1 : x1 = 0 ∨ x1 = 1 := Or.inl ex1
    refine z_istn (lv' := [(2, .int x1), (0, .ref (lo (3, a_z, 0))), (1, .ref (lo (3, a_1, 0)))]) ex1 hx hb dX2_hasLogOf_14 rfl hl (by decide) rfl (fun ls hl => ?_)
    obtain ⟨w4, q20, ew4, eq20, hf⟩ := op_lb hf
    have hw4 : ∀ n7 : Nat, ∀ (q2 : (Int32)) (H : Heap) (locs : List Loc) (ls : Array Slot), lv_has ls 3 [(2, .int q2), (0, .ref (lo (3, a_z, 0))), (1, .ref (lo (3, a_1, 0)))] → Wd Γ lo S X H → va_S (zA Γ) s.heap H locs → (∀ c, zV S c = zV S c) → lp w4 n7 q2 = some y → W p l e (headSpec wsX2_hasLogOf rmX2_hasLogOf).room s m ([.ref (lo (3, a_z, 0)), .ref (lo (3, a_1, 0))] : List Value).toArray below meth c H locs 0 0 (MQ below (zQ0 Γ lo S S X (some (.int y)) (y = 0 ∨ y = 1)) ([.ref (lo (3, a_z, 0)), .ref (lo (3, a_1, 0))] : List Value).toArray s 0 0 (zA Γ)) (F0 m 15 ls []) := by
      intro n7
      induction n7 with
      | zero => intro q2 H locs ls hl hW hS hm hf; cases hf
      | succ n7 ih5 =>
        intro q2 H locs ls hl hW hS hm hf
        obtain ⟨n_, r3, hn_, hf, hr6⟩ := op_lq hf
        cases hn_
        rw [ew4] at hf
        refine lv_iload_n hx hb dX2_hasLogOf_15 rfl (lv_at hl 0 rfl) ?_
        refine lv_aload_n hx hb dX2_hasLogOf_16 rfl (lv_at hl 1 rfl) ?_
        refine va_get hx hb hts ni_X2_hasLogOf_X2 hown hKK.1 (wd_1 hW v_z) 0 rfl rfl 4 (by decide) (hts (.fieldLink RX2 22 "TiltRoute$Game" "logged" "I") (List.mem_of_getElem? (i := 1) rfl)) (fun _ h => h) rfl dX2_hasLogOf_17 ?_
        refine lv_icmp_ge (tgt := 45) hx hb dX2_hasLogOf_20 (by decide) (fun k20 => ?_) (fun k20 => ?_)
        · have hf := (op_if hf).1 k20
          refine lv_iconst (v := (1)) hx hb dX2_hasLogOf_45 (by decide) ?_
          have hf := zr_r hf hr6
          rw [← hf]
          exact z_iret hx hb hr hlocks (z_bb (Or.inr rfl)) hW hS hm (Or.inr rfl) dX2_hasLogOf_46
        · have hf := (op_if hf).2 k20
          refine lv_aload_n hx hb dX2_hasLogOf_23 rfl (lv_at hl 1 rfl) ?_
          refine lv_iload_n hx hb dX2_hasLogOf_24 rfl (lv_at hl 0 rfl) ?_
          obtain ⟨r8, hc9, hf⟩ := op_cl hf
          refine z_callV (As := [.int q2]) (rest := []) ⟨hx, hb, hml, hown, hts⟩ (tX2_entryOf l Γ lo S X v_z hc9) (cwV 1 hts gX2_hasLogOf_X2_entryOf rfl rfl rfl (by decide +kernel) ⟨Nat.le_of_ble_eq_true rfl, Nat.le_of_ble_eq_true rfl⟩) (wd_1 hW v_z) rfl hKK hW hS rfl hl.1 rfl (Nat.le_of_ble_eq_true rfl) dX2_hasLogOf_25 ⟨Nat.zero_le _, Nat.zero_le _⟩ (fun H locs hW hS hm1 hE => ?_)
          refine lv_aload_n hx hb dX2_hasLogOf_28 rfl (lv_at hl 2 rfl) ?_
          refine lv_iload_n hx hb dX2_hasLogOf_29 rfl (lv_at hl 0 rfl) ?_
          obtain ⟨r10, hc11, hf⟩ := op_cl hf
          refine z_callV (As := [.int q2]) (rest := [.long r8]) ⟨hx, hb, hml, hown, hts⟩ (tX2_entryOf l Γ lo S X v_1 hc11) (cwV 1 hts gX2_hasLogOf_X2_entryOf rfl rfl rfl (by decide +kernel) ⟨Nat.le_of_ble_eq_true rfl, Nat.le_of_ble_eq_true rfl⟩) (wd_1 hW v_1) rfl hKK hW hS rfl hl.1 rfl (Nat.le_of_ble_eq_true rfl) dX2_hasLogOf_30 ⟨Nat.zero_le _, Nat.zero_le _⟩ (fun H locs hW hS hm1 hE => ?_)
          refine W.lcmp hx hb dX2_hasLogOf_33 ?_
          refine lv_if_eq (tgt := 39) hx hb dX2_hasLogOf_34 (by decide) (fun k34 => ?_) (fun k34 => ?_)
          · have hf := (op_if hf).1 k34
            obtain ⟨x12, ex12, hf⟩ := op_st hf
            refine lv_iinc (v := x12) (lv' := [(2, .int x12), (0, .ref (lo (3, a_z, 0))), (1, .ref (lo (3, a_1, 0)))]) hx hb dX2_hasLogOf_39 hl (k := 0) rfl (by rw [ex12]; rfl) (by decide) rfl (fun ls hl => ?_)
            refine lv_goto (tgt := 15) hx hb dX2_hasLogOf_42 (by decide) ?_
            have hf := zr_l hf hr6
            exact ih5 (x12) H locs ls (lv_sub hl [0, 1, 2] rfl) hW hS hm hf
          · have hf := (op_if hf).2 k34
            refine lv_iconst (v := (0)) hx hb dX2_hasLogOf_37 (by decide) ?_
            have hf := zr_r hf hr6
            rw [← hf]
            exact z_iret hx hb hr hlocks (z_bb (Or.inl rfl)) hW hS hm (Or.inl rfl) dX2_hasLogOf_38
    rw [eq20] at hf
    exact hw4 _ (x1) H locs ls (lv_sub hl [0, 1, 2] rfl) hW hS hm hf
  · have hf := (op_if hf).2 k8
    refine lv_iconst (v := (0)) hx hb dX2_hasLogOf_11 (by decide) ?_
    have hf := Option.some.inj hf
    rw [← hf]
    exact z_iret hx hb hr hlocks (z_bb (Or.inl rfl)) hW hS hm (Or.inl rfl) dX2_hasLogOf_12

theorem ni_X4_tableOf_X4 : ∀ w ∈ wsX40, w ∈ wsX4_tableOf := by decide +kernel
def fX4_tableOf (S : zSt) (i_1 : Int32) : Option Int32 :=
st (fun (u_ : Unit) => (some ((-1 : Int32)) : Option Int32)) fun j1 =>
if i_1 < 0 then
j1 ()
else
if (zI S (5, 0, 0) 3) ≤ i_1 then
j1 ()
else
if (6 : Int32) ≤ i_1 then
j1 ()
else
gd (¬ (i_1 < 0 ∨ 6 ≤ i_1.toNatClampNeg)) (
some ((zI S (19, 0, 0) i_1.toNatClampNeg)))
abbrev rmX4_tableOf : Room := { frames := 0, cells := 0, slots := 0, locals := 0 }
set_option maxHeartbeats 4000000 in
set_option maxRecDepth 100000 in
theorem tX4_tableOf (l : Launch) (Γ : zG) (lo : zId → Nat) (S : zSt) (X : va_W) {i_1 : Int32} (v_z : zV S (5, 0, 0) = true) {y : Int32} (hf : fX4_tableOf S i_1 = some y) : Met l yX4_tableOf wsX4_tableOf rmX4_tableOf (zP0 Γ lo S X [.ref (lo (5, 0, 0)), .int i_1]) (zQ0 Γ lo S S X (some (.int y)) True) 0 0 (zA Γ) := by
  refine Met.ofW (cc := cX4_tableOf) (maxL := 2) (ret := (some .int)) (by decide) rfl ?_
  intro p e s m args below meth c s₁ B hml hv
  obtain ⟨rfl, hW, hKK⟩ := hv
  have hx := B.exec
  have hb := B.bytes
  have hr := B.returns
  have hts := atoms_spec (ws := wsX4_tableOf) B.pre
  have hown : s.vm.findClass RX4 = some m.cls := findClass_of_methodNamed B.named
  have hlocks := B.notSynchronized
  have hS : va_S (zA Γ) s.heap s.heap [] := va_S.rf
  have hm : ∀ c, zV S c = zV S c := fun _ => rfl
  have hl := lv_entry ([.ref (lo (5, 0, 0)), .int i_1]) (n := 2) (Nat.le_of_ble_eq_true rfl)
  rw [lg_entry_eq]
  generalize (lg_sl ([.ref (lo (5, 0, 0)), .int i_1]) ++ List.replicate (2 - (lg_sl ([.ref (lo (5, 0, 0)), .int i_1])).length) Slot.unset).toArray = ls at hl ⊢
  have hl : lv_has ls 2 [(0, .ref (lo (5, 0, 0))), (1, .int i_1)] := hl
  obtain ⟨H, hH0⟩ : ∃ H, H = s.heap := ⟨_, rfl⟩
  obtain ⟨locs, hlo0⟩ : ∃ L : List Loc, L = [] := ⟨_, rfl⟩
  have hS : va_S (zA Γ) s.heap H locs := by rw [hH0, hlo0]; exact hS
  have hW : Wd Γ lo S X H := by rw [hH0]; exact hW
  rw [← hH0, ← hlo0]
  unfold fX4_tableOf at hf
  refine lv_iload_n hx hb dX4_tableOf_0 rfl (lv_at hl 1 rfl) ?_
  obtain ⟨j1, ej1, hf⟩ := op_st hf
  have hj1 : ∀ (u_ : Unit) (H : Heap) (locs : List Loc) (ls : Array Slot), lv_has ls 2 [] → Wd Γ lo S X H → va_S (zA Γ) s.heap H locs → (∀ c, zV S c = zV S c) → j1 () = some y → W p l e (headSpec wsX4_tableOf rmX4_tableOf).room s m ([.ref (lo (5, 0, 0)), .int i_1] : List Value).toArray below meth c H locs 0 0 (MQ below (zQ0 Γ lo S S X (some (.int y)) True) ([.ref (lo (5, 0, 0)), .int i_1] : List Value).toArray s 0 0 (zA Γ)) (F0 m 30 ls []) := by
    intro u_ H locs ls  hl hW hS hm hf
    rw [ej1] at hf
    refine lv_iconst (v := (-1)) hx hb dX4_tableOf_30 (by decide) ?_
    have hf := Option.some.inj hf
    rw [← hf]
    exact z_iret hx hb hr hlocks rfl hW hS hm trivial dX4_tableOf_31
  refine lv_if_lt (tgt := 30) hx hb dX4_tableOf_1 (by decide) (fun k1 => ?_) (fun k1 => ?_)
  · have hf := (op_if hf).1 k1
    exact hj1 () H locs ls  (lv_sub hl [] rfl) hW hS hm hf
  · have hf := (op_if hf).2 k1
    refine lv_iload_n hx hb dX4_tableOf_4 rfl (lv_at hl 1 rfl) ?_
    refine lv_aload_n hx hb dX4_tableOf_5 rfl (lv_at hl 0 rfl) ?_
    refine va_get hx hb hts ni_X4_tableOf_X4 hown hKK.1 (wd_1 hW v_z) 0 rfl rfl 3 (by decide) (hts (.fieldLink RX4 21 "TiltRoute$Plan" "count" "I") (List.mem_of_getElem? (i := 1) rfl)) (fun _ h => h) rfl dX4_tableOf_6 ?_
    refine lv_icmp_ge (tgt := 30) hx hb dX4_tableOf_9 (by decide) (fun k9 => ?_) (fun k9 => ?_)
    · have hf := (op_if hf).1 k9
      exact hj1 () H locs ls  (lv_sub hl [] rfl) hW hS hm hf
    · have hf := (op_if hf).2 k9
      refine lv_iload_n hx hb dX4_tableOf_12 rfl (lv_at hl 1 rfl) ?_
      refine lv_aload_n hx hb dX4_tableOf_13 rfl (lv_at hl 0 rfl) ?_
      refine va_get hx hb hts ni_X4_tableOf_X4 hown hKK.1 (wd_1 hW v_z) 0 rfl rfl 2 (by decide) (hts (.fieldLink RX4 18 "TiltRoute$Plan" "best" "[I") (List.mem_of_getElem? (i := 2) rfl)) (fun _ h => h) rfl dX4_tableOf_14 ?_
      have v2 : zV S (19, 0, 0) = true := vf_5_2 hW v_z
      refine va_alen (v := 6) hx hb hKK.1 (wd_1 hW v2) 0 0 rfl rfl (show Int32.ofNat 6 = 6 by decide) dX4_tableOf_17 ?_
      refine lv_icmp_ge (tgt := 30) hx hb dX4_tableOf_18 (by decide) (fun k18 => ?_) (fun k18 => ?_)
      · have hf := (op_if hf).1 k18
        exact hj1 () H locs ls  (lv_sub hl [] rfl) hW hS hm hf
      · have hf := (op_if hf).2 k18
        refine lv_aload_n hx hb dX4_tableOf_21 rfl (lv_at hl 0 rfl) ?_
        refine va_get hx hb hts ni_X4_tableOf_X4 hown hKK.1 (wd_1 hW v_z) 0 rfl rfl 2 (by decide) (hts (.fieldLink RX4 18 "TiltRoute$Plan" "best" "[I") (List.mem_of_getElem? (i := 2) rfl)) (fun _ h => h) rfl dX4_tableOf_22 ?_
        have v3 : zV S (19, 0, 0) = true := vf_5_2 hW v_z
        refine lv_iload_n hx hb dX4_tableOf_25 rfl (lv_at hl 1 rfl) ?_
        obtain ⟨h26, hf⟩ := op_gd hf
        refine va_iald hx hb hKK.1 (wd_1 hW v3) 0 0 (n := 6) rfl rfl h26 dX4_tableOf_26 ?_
        refine lv_goto (tgt := 31) hx hb dX4_tableOf_27 (by decide) ?_
        have hf := Option.some.inj hf
        rw [← hf]
        exact z_iret hx hb hr hlocks rfl hW hS hm trivial dX4_tableOf_31

theorem ni_X4_gather_X4 : ∀ w ∈ wsX40, w ∈ wsX4_gather := by decide +kernel
theorem ni_X4_gather_X7 : ∀ w ∈ wsX70, w ∈ wsX4_gather := by decide +kernel
def fX4_gather (S : zSt)  : Option zSt :=
st (pI S (5, 0, 0) 3 (0 : Int32)) fun S1 =>
st (0 : Int32) fun x2 =>
lp (fun (q3 : (Int32 × zSt)) => (cl (fJ_size q3.2 0) fun r9 =>
if r9 ≤ q3.1 then
some (.inr (q3.2))
else
if (6 : Int32) ≤ q3.1 then
some (.inr (q3.2))
else
if (6 : Int32) ≤ (zI q3.2 (5, 0, 0) 3) then
some (.inr (q3.2))
else
cl (fJ_get q3.2 0 q3.1) fun r13 =>
gd (¬ (q3.1 < 0 ∨ 6 ≤ q3.1.toNatClampNeg)) (
st (pI q3.2 (17, 0, 0) q3.1.toNatClampNeg (zI q3.2 (8, r13, 0) 0)) fun S17 =>
cl (fX7_needsService S17 r13) fun r18 =>
st (fun (S21 : zSt) => (st (q3.1 + (1 : Int32)) fun x23 =>
some (.inl (x23, S21)) : Option ((Int32 × zSt) ⊕ zSt))) fun j22 =>
if r18 = 0 then
j22 S17
else
gd (¬ ((zI S17 (5, 0, 0) 3) < 0 ∨ 6 ≤ (zI S17 (5, 0, 0) 3).toNatClampNeg)) (
st (pI S17 (18, 0, 0) (zI S17 (5, 0, 0) 3).toNatClampNeg q3.1) fun S25 =>
st (pI S25 (5, 0, 0) 3 ((zI S25 (5, 0, 0) 3) + (1 : Int32))) fun S26 =>
j22 S26)) : Option ((Int32 × zSt) ⊕ zSt))) 40000 (x2, S1)
abbrev rmX4_gather : Room := { frames := 5, cells := 0, slots := 0, locals := 108 }
set_option maxHeartbeats 4000000 in
set_option maxRecDepth 100000 in
theorem tX4_gather (l : Launch) (Γ : zG) (lo : zId → Nat) (S : zSt) (X : va_W)  (v_z : zV S (5, 0, 0) = true) (v_1 : zV S (0, 0, 0) = true) {y : zSt} (hf : fX4_gather S  = some y) : Met l yX4_gather wsX4_gather rmX4_gather (zP0 Γ lo S X [.ref (lo (5, 0, 0)), .ref (lo (0, 0, 0))]) (zQ0 Γ lo S y X none True) 0 0 (zA Γ) := by
  refine Met.ofW (cc := cX4_gather) (maxL := 4) (ret := none) (by decide) rfl ?_
  intro p e s m args below meth c s₁ B hml hv
  obtain ⟨rfl, hW, hKK⟩ := hv
  have hx := B.exec
  have hb := B.bytes
  have hr := B.returns
  have hts := atoms_spec (ws := wsX4_gather) B.pre
  have hown : s.vm.findClass RX4 = some m.cls := findClass_of_methodNamed B.named
  have hlocks := B.notSynchronized
  have hS : va_S (zA Γ) s.heap s.heap [] := va_S.rf
  have hm : ∀ c, zV S c = zV S c := fun _ => rfl
  have hl := lv_entry ([.ref (lo (5, 0, 0)), .ref (lo (0, 0, 0))]) (n := 4) (Nat.le_of_ble_eq_true rfl)
  rw [lg_entry_eq]
  generalize (lg_sl ([.ref (lo (5, 0, 0)), .ref (lo (0, 0, 0))]) ++ List.replicate (4 - (lg_sl ([.ref (lo (5, 0, 0)), .ref (lo (0, 0, 0))])).length) Slot.unset).toArray = ls at hl ⊢
  have hl : lv_has ls 4 [(0, .ref (lo (5, 0, 0))), (1, .ref (lo (0, 0, 0)))] := hl
  obtain ⟨H, hH0⟩ : ∃ H, H = s.heap := ⟨_, rfl⟩
  obtain ⟨locs, hlo0⟩ : ∃ L : List Loc, L = [] := ⟨_, rfl⟩
  have hS : va_S (zA Γ) s.heap H locs := by rw [hH0, hlo0]; exact hS
  have hW : Wd Γ lo S X H := by rw [hH0]; exact hW
  rw [← hH0, ← hlo0]
  unfold fX4_gather at hf
  refine lv_aload_n hx hb dX4_gather_0 rfl (lv_at hl 0 rfl) ?_
  refine lv_iconst (v := (0)) hx hb dX4_gather_1 (by decide) ?_
  obtain ⟨S1, eS1, hf⟩ := op_st hf
  refine g_put hx hb hts ni_X4_gather_X4 tyX4 tyX4_ok nmX4 hown hKK.1 hW hS v_z rfl rfl 3 (by decide) (hts (.fieldLink RX4 21 "TiltRoute$Plan" "count" "I") (List.mem_of_getElem? (i := 1) rfl)) rfl rfl rfl (show 3 < 5 by decide) rfl dX4_gather_2 eS1 (fun H locs hW hS => ?_)
  have hm : ∀ c, zV S1 c = zV S c := fun c => by rw [eS1]; rfl
  refine lv_iconst (v := (0)) hx hb dX4_gather_5 (by decide) ?_
  obtain ⟨x2, ex2, hf⟩ := op_st hf
  have bx2 : x2 = 0 ∨ x2 = 1 := Or.inl ex2
  refine z_istn (lv' := [(2, .int x2), (0, .ref (lo (5, 0, 0))), (1, .ref (lo (0, 0, 0)))]) ex2 hx hb dX4_gather_6 rfl hl (by decide) rfl (fun ls hl => ?_)
  obtain ⟨w5, q30, ew5, eq30, hf⟩ := op_lb hf
  have hw5 : ∀ n8 : Nat, ∀ (q3 : (Int32 × zSt)) (H : Heap) (locs : List Loc) (ls : Array Slot), lv_has ls 4 [(2, .int q3.1), (0, .ref (lo (5, 0, 0))), (1, .ref (lo (0, 0, 0)))] → Wd Γ lo q3.2 X H → va_S (zA Γ) s.heap H locs → (∀ c, zV q3.2 c = zV S c) → lp w5 n8 q3 = some y → W p l e (headSpec wsX4_gather rmX4_gather).room s m ([.ref (lo (5, 0, 0)), .ref (lo (0, 0, 0))] : List Value).toArray below meth c H locs 0 0 (MQ below (zQ0 Γ lo S y X none True) ([.ref (lo (5, 0, 0)), .ref (lo (0, 0, 0))] : List Value).toArray s 0 0 (zA Γ)) (F0 m 7 ls []) := by
    intro n8
    induction n8 with
    | zero => intro q3 H locs ls hl hW hS hm hf; cases hf
    | succ n8 ih6 =>
      intro q3 H locs ls hl hW hS hm hf
      obtain ⟨n_, r4, hn_, hf, hr7⟩ := op_lq hf
      cases hn_
      rw [ew5] at hf
      refine lv_iload_n hx hb dX4_gather_7 rfl (lv_at hl 0 rfl) ?_
      refine lv_aload_n hx hb dX4_gather_8 rfl (lv_at hl 2 rfl) ?_
      obtain ⟨r9, hc10, hf⟩ := op_cl hf
      refine z_callV (As := []) (rest := [.int q3.1]) ⟨hx, hb, hml, hown, hts⟩ (tJ_size l Γ lo q3.2 X ((hm _).trans v_1) hc10) (cwV 0 hts gX4_gather_Jx4a65c_size_8abf5 rfl rfl rfl (by decide +kernel) ⟨Nat.le_of_ble_eq_true rfl, Nat.le_of_ble_eq_true rfl⟩) (wd_1 hW ((hm _).trans v_1)) rfl hKK hW hS rfl hl.1 rfl (Nat.le_of_ble_eq_true rfl) dX4_gather_9 ⟨Nat.zero_le _, Nat.zero_le _⟩ (fun H locs hW hS hm1 hE => ?_)
      refine lv_icmp_ge (tgt := 88) hx hb dX4_gather_12 (by decide) (fun k12 => ?_) (fun k12 => ?_)
      · have hf := (op_if hf).1 k12
        have hf := zr_r hf hr7
        rw [← hf]
        exact z_vret hx hb hr hlocks hW hS hm trivial dX4_gather_88
      · have hf := (op_if hf).2 k12
        refine lv_iload_n hx hb dX4_gather_15 rfl (lv_at hl 0 rfl) ?_
        refine lv_aload_n hx hb dX4_gather_16 rfl (lv_at hl 1 rfl) ?_
        refine va_get hx hb hts ni_X4_gather_X4 hown hKK.1 (wd_1 hW ((hm _).trans v_z)) 0 rfl rfl 0 (by decide) (hts (.fieldLink RX4 9 "TiltRoute$Plan" "sites" "[I") (List.mem_of_getElem? (i := 2) rfl)) (fun _ h => h) rfl dX4_gather_17 ?_
        have v11 : zV S (17, 0, 0) = true := (hm _).symm.trans (vf_5_0 hW ((hm _).trans v_z))
        refine va_alen (v := 6) hx hb hKK.1 (wd_1 hW ((hm _).trans v11)) 0 0 rfl rfl (show Int32.ofNat 6 = 6 by decide) dX4_gather_20 ?_
        refine lv_icmp_ge (tgt := 88) hx hb dX4_gather_21 (by decide) (fun k21 => ?_) (fun k21 => ?_)
        · have hf := (op_if hf).1 k21
          have hf := zr_r hf hr7
          rw [← hf]
          exact z_vret hx hb hr hlocks hW hS hm trivial dX4_gather_88
        · have hf := (op_if hf).2 k21
          refine lv_aload_n hx hb dX4_gather_24 rfl (lv_at hl 1 rfl) ?_
          refine va_get hx hb hts ni_X4_gather_X4 hown hKK.1 (wd_1 hW ((hm _).trans v_z)) 0 rfl rfl 3 (by decide) (hts (.fieldLink RX4 21 "TiltRoute$Plan" "count" "I") (List.mem_of_getElem? (i := 1) rfl)) (fun _ h => h) rfl dX4_gather_25 ?_
          refine lv_aload_n hx hb dX4_gather_28 rfl (lv_at hl 1 rfl) ?_
          refine va_get hx hb hts ni_X4_gather_X4 hown hKK.1 (wd_1 hW ((hm _).trans v_z)) 0 rfl rfl 1 (by decide) (hts (.fieldLink RX4 15 "TiltRoute$Plan" "order" "[I") (List.mem_of_getElem? (i := 3) rfl)) (fun _ h => h) rfl dX4_gather_29 ?_
          have v12 : zV S (18, 0, 0) = true := (hm _).symm.trans (vf_5_1 hW ((hm _).trans v_z))
          refine va_alen (v := 6) hx hb hKK.1 (wd_1 hW ((hm _).trans v12)) 0 0 rfl rfl (show Int32.ofNat 6 = 6 by decide) dX4_gather_32 ?_
          refine lv_icmp_ge (tgt := 88) hx hb dX4_gather_33 (by decide) (fun k33 => ?_) (fun k33 => ?_)
          · have hf := (op_if hf).1 k33
            have hf := zr_r hf hr7
            rw [← hf]
            exact z_vret hx hb hr hlocks hW hS hm trivial dX4_gather_88
          · have hf := (op_if hf).2 k33
            refine lv_aload_n hx hb dX4_gather_36 rfl (lv_at hl 2 rfl) ?_
            refine lv_iload_n hx hb dX4_gather_37 rfl (lv_at hl 0 rfl) ?_
            obtain ⟨r13, hc14, hf⟩ := op_cl hf
            refine z_callV (As := [.int q3.1]) (rest := []) ⟨hx, hb, hml, hown, hts⟩ (tJ_get l Γ lo q3.2 X ((hm _).trans v_1) hc14) (cwV 1 hts gX4_gather_Jx4a65c_get_915e3 rfl rfl rfl (by decide +kernel) ⟨Nat.le_of_ble_eq_true rfl, Nat.le_of_ble_eq_true rfl⟩) (wd_1 hW ((hm _).trans v_1)) rfl hKK hW hS rfl hl.1 rfl (Nat.le_of_ble_eq_true rfl) dX4_gather_38 ⟨Nat.zero_le _, Nat.zero_le _⟩ (fun H locs hW hS hm1 hE => ?_)
            have v15 : zV S (8, r13, 0) = true := (hm _).symm.trans hE
            refine va_castE hx hb hown (hts (.classLink RX4 53 "TiltRoute$Table") (List.mem_of_getElem? (i := 4) rfl)) (va_recv (q0 := 0) hKK.1 (wd_1 hW ((hm _).trans v15)) (ci := 8) rfl rfl) dX4_gather_41 ?_
            refine lv_astore_n (lv' := [(3, .ref (lo (8, r13, 0))), (2, .int q3.1), (0, .ref (lo (5, 0, 0))), (1, .ref (lo (0, 0, 0)))]) hx hb dX4_gather_44 rfl hl (by decide) rfl (fun ls hl => ?_)
            refine lv_aload_n hx hb dX4_gather_45 rfl (lv_at hl 2 rfl) ?_
            refine va_get hx hb hts ni_X4_gather_X4 hown hKK.1 (wd_1 hW ((hm _).trans v_z)) 0 rfl rfl 0 (by decide) (hts (.fieldLink RX4 9 "TiltRoute$Plan" "sites" "[I") (List.mem_of_getElem? (i := 2) rfl)) (fun _ h => h) rfl dX4_gather_46 ?_
            have v16 : zV S (17, 0, 0) = true := (hm _).symm.trans (vf_5_0 hW ((hm _).trans v_z))
            refine lv_iload_n hx hb dX4_gather_49 rfl (lv_at hl 1 rfl) ?_
            refine lv_aload_n hx hb dX4_gather_50 rfl (lv_at hl 0 rfl) ?_
            refine va_get hx hb hts ni_X4_gather_X7 hown hKK.1 (wd_1 hW ((hm _).trans v15)) 0 rfl rfl 0 (by decide) (hts (.fieldLink RX4 55 "TiltRoute$Table" "site" "I") (List.mem_of_getElem? (i := 5) rfl)) (fun _ h => h) rfl dX4_gather_51 ?_
            obtain ⟨h54, hf⟩ := op_gd hf
            obtain ⟨S17, eS17, hf⟩ := op_st hf
            refine g_iast (n := 6) hx hb hKK.1 hW hS ((hm _).trans v16) (fun _ _ _ _ => rfl) h54 dX4_gather_54 eS17 (fun H locs hW hS => ?_)
            have hm : ∀ c, zV S17 c = zV S c := fun c => by rw [eS17]; exact hm c
            refine lv_aload_n hx hb dX4_gather_55 rfl (lv_at hl 0 rfl) ?_
            obtain ⟨r18, hc19, hf⟩ := op_cl hf
            refine z_callV (As := []) (rest := []) ⟨hx, hb, hml, hown, hts⟩ (tX7_needsService l Γ lo S17 X ((hm _).trans v15) hc19) (cwV 0 hts gX4_gather_X7_needsService rfl rfl rfl (by decide +kernel) ⟨Nat.le_of_ble_eq_true rfl, Nat.le_of_ble_eq_true rfl⟩) (wd_1 hW ((hm _).trans v15)) rfl hKK hW hS rfl hl.1 rfl (Nat.le_of_ble_eq_true rfl) dX4_gather_56 ⟨Nat.zero_le _, Nat.zero_le _⟩ (fun H locs hW hS hm1 hE => ?_)
            have b20 := hE
            obtain ⟨j22, ej22, hf⟩ := op_st hf
            have hj22 : ∀ (S21 : zSt) (H : Heap) (locs : List Loc) (ls : Array Slot), lv_has ls 4 [(2, .int q3.1), (0, .ref (lo (5, 0, 0))), (1, .ref (lo (0, 0, 0)))] → Wd Γ lo S21 X H → va_S (zA Γ) s.heap H locs → (∀ c, zV S21 c = zV S c) → j22 S21 = some r4 → W p l e (headSpec wsX4_gather rmX4_gather).room s m ([.ref (lo (5, 0, 0)), .ref (lo (0, 0, 0))] : List Value).toArray below meth c H locs 0 0 (MQ below (zQ0 Γ lo S y X none True) ([.ref (lo (5, 0, 0)), .ref (lo (0, 0, 0))] : List Value).toArray s 0 0 (zA Γ)) (F0 m 82 ls []) := by
              intro S21 H locs ls  hl hW hS hm hf
              rw [ej22] at hf
              obtain ⟨x23, ex23, hf⟩ := op_st hf
              refine lv_iinc (v := x23) (lv' := [(2, .int x23), (0, .ref (lo (5, 0, 0))), (1, .ref (lo (0, 0, 0)))]) hx hb dX4_gather_82 hl (k := 0) rfl (by rw [ex23]; rfl) (by decide) rfl (fun ls hl => ?_)
              refine lv_goto (tgt := 7) hx hb dX4_gather_85 (by decide) ?_
              have hf := zr_l hf hr7
              exact ih6 (x23, S21) H locs ls (lv_sub hl [0, 1, 2] rfl) hW hS hm hf
            refine lv_if_eq (tgt := 82) hx hb dX4_gather_59 (by decide) (fun k59 => ?_) (fun k59 => ?_)
            · have hf := (op_if hf).1 k59
              exact hj22 S17 H locs ls  (lv_sub hl [1, 2, 3] rfl) hW hS hm hf
            · have hf := (op_if hf).2 k59
              refine lv_aload_n hx hb dX4_gather_62 rfl (lv_at hl 2 rfl) ?_
              refine va_get hx hb hts ni_X4_gather_X4 hown hKK.1 (wd_1 hW ((hm _).trans v_z)) 0 rfl rfl 1 (by decide) (hts (.fieldLink RX4 15 "TiltRoute$Plan" "order" "[I") (List.mem_of_getElem? (i := 3) rfl)) (fun _ h => h) rfl dX4_gather_63 ?_
              have v24 : zV S (18, 0, 0) = true := (hm _).symm.trans (vf_5_1 hW ((hm _).trans v_z))
              refine lv_aload_n hx hb dX4_gather_66 rfl (lv_at hl 2 rfl) ?_
              refine va_get hx hb hts ni_X4_gather_X4 hown hKK.1 (wd_1 hW ((hm _).trans v_z)) 0 rfl rfl 3 (by decide) (hts (.fieldLink RX4 21 "TiltRoute$Plan" "count" "I") (List.mem_of_getElem? (i := 1) rfl)) (fun _ h => h) rfl dX4_gather_67 ?_
              refine lv_iload_n hx hb dX4_gather_70 rfl (lv_at hl 1 rfl) ?_
              obtain ⟨h71, hf⟩ := op_gd hf
              obtain ⟨S25, eS25, hf⟩ := op_st hf
              refine g_iast (n := 6) hx hb hKK.1 hW hS ((hm _).trans v24) (fun _ _ _ _ => rfl) h71 dX4_gather_71 eS25 (fun H locs hW hS => ?_)
              have hm : ∀ c, zV S25 c = zV S c := fun c => by rw [eS25]; exact hm c
              refine lv_aload_n hx hb dX4_gather_72 rfl (lv_at hl 2 rfl) ?_
              refine lv_dup hx hb dX4_gather_73 rfl ?_
              refine va_get hx hb hts ni_X4_gather_X4 hown hKK.1 (wd_1 hW ((hm _).trans v_z)) 0 rfl rfl 3 (by decide) (hts (.fieldLink RX4 21 "TiltRoute$Plan" "count" "I") (List.mem_of_getElem? (i := 1) rfl)) (fun _ h => h) rfl dX4_gather_74 ?_
              refine lv_iconst (v := (1)) hx hb dX4_gather_77 (by decide) ?_
              refine lv_iadd hx hb dX4_gather_78 ?_
              obtain ⟨S26, eS26, hf⟩ := op_st hf
              refine g_put hx hb hts ni_X4_gather_X4 tyX4 tyX4_ok nmX4 hown hKK.1 hW hS ((hm _).trans v_z) rfl rfl 3 (by decide) (hts (.fieldLink RX4 21 "TiltRoute$Plan" "count" "I") (List.mem_of_getElem? (i := 1) rfl)) rfl rfl rfl (show 3 < 5 by decide) rfl dX4_gather_79 eS26 (fun H locs hW hS => ?_)
              have hm : ∀ c, zV S26 c = zV S c := fun c => by rw [eS26]; exact hm c
              exact hj22 S26 H locs ls  (lv_sub hl [1, 2, 3] rfl) hW hS hm hf
  rw [eq30] at hf
  exact hw5 _ (x2, S1) H locs ls (lv_sub hl [0, 1, 2] rfl) hW hS hm hf

theorem ni_X4_measureOrder_X4 : ∀ w ∈ wsX40, w ∈ wsX4_measureOrder := by decide +kernel
def fX4_measureOrder (S : zSt) (i_1 : Int32) : Option Int32 :=
st (0 : Int32) fun x1 =>
st i_1 fun x2 =>
st (0 : Int32) fun x3 =>
lp (fun (q4 : (Int32 × Int32 × Int32)) => (if (zI S (5, 0, 0) 3) ≤ q4.2.2 then
some (.inr (q4.1))
else
if (6 : Int32) ≤ q4.2.2 then
some (.inr (q4.1))
else
gd (¬ (q4.2.2 < 0 ∨ 6 ≤ q4.2.2.toNatClampNeg)) (
st (zI S (18, 0, 0) q4.2.2.toNatClampNeg) fun x12 =>
st (fun (y13 : Int32) => (st y13 fun x15 =>
st (q4.1 + (if 0 ≤ (x15 - q4.2.1) then (x15 - q4.2.1) else 0 - (x15 - q4.2.1))) fun x16 =>
st x15 fun x17 =>
st (q4.2.2 + (1 : Int32)) fun x18 =>
some (.inl (x16, x17, x18)) : Option ((Int32 × Int32 × Int32) ⊕ Int32))) fun j14 =>
st (fun (u_ : Unit) => (j14 q4.2.1 : Option ((Int32 × Int32 × Int32) ⊕ Int32))) fun j19 =>
if x12 < 0 then
j19 ()
else
if (6 : Int32) ≤ x12 then
j19 ()
else
gd (¬ (x12 < 0 ∨ 6 ≤ x12.toNatClampNeg)) (
j14 (zI S (17, 0, 0) x12.toNatClampNeg))) : Option ((Int32 × Int32 × Int32) ⊕ Int32))) 40000 (x1, x2, x3)
abbrev rmX4_measureOrder : Room := { frames := 1, cells := 0, slots := 0, locals := 21 }
set_option maxHeartbeats 4000000 in
set_option maxRecDepth 100000 in
theorem tX4_measureOrder (l : Launch) (Γ : zG) (lo : zId → Nat) (S : zSt) (X : va_W) {i_1 : Int32} (v_z : zV S (5, 0, 0) = true) {y : Int32} (hf : fX4_measureOrder S i_1 = some y) : Met l yX4_measureOrder wsX4_measureOrder rmX4_measureOrder (zP0 Γ lo S X [.ref (lo (5, 0, 0)), .int i_1]) (zQ0 Γ lo S S X (some (.int y)) True) 0 0 (zA Γ) := by
  refine Met.ofW (cc := cX4_measureOrder) (maxL := 7) (ret := (some .int)) (by decide) rfl ?_
  intro p e s m args below meth c s₁ B hml hv
  obtain ⟨rfl, hW, hKK⟩ := hv
  have hx := B.exec
  have hb := B.bytes
  have hr := B.returns
  have hts := atoms_spec (ws := wsX4_measureOrder) B.pre
  have hown : s.vm.findClass RX4 = some m.cls := findClass_of_methodNamed B.named
  have hlocks := B.notSynchronized
  have hS : va_S (zA Γ) s.heap s.heap [] := va_S.rf
  have hm : ∀ c, zV S c = zV S c := fun _ => rfl
  have hl := lv_entry ([.ref (lo (5, 0, 0)), .int i_1]) (n := 7) (Nat.le_of_ble_eq_true rfl)
  rw [lg_entry_eq]
  generalize (lg_sl ([.ref (lo (5, 0, 0)), .int i_1]) ++ List.replicate (7 - (lg_sl ([.ref (lo (5, 0, 0)), .int i_1])).length) Slot.unset).toArray = ls at hl ⊢
  have hl : lv_has ls 7 [(0, .ref (lo (5, 0, 0))), (1, .int i_1)] := hl
  obtain ⟨H, hH0⟩ : ∃ H, H = s.heap := ⟨_, rfl⟩
  obtain ⟨locs, hlo0⟩ : ∃ L : List Loc, L = [] := ⟨_, rfl⟩
  have hS : va_S (zA Γ) s.heap H locs := by rw [hH0, hlo0]; exact hS
  have hW : Wd Γ lo S X H := by rw [hH0]; exact hW
  rw [← hH0, ← hlo0]
  unfold fX4_measureOrder at hf
  refine lv_iconst (v := (0)) hx hb dX4_measureOrder_0 (by decide) ?_
  obtain ⟨x1, ex1, hf⟩ := op_st hf
  have bx1 : x1 = 0 ∨ x1 = 1 := Or.inl ex1
  refine z_istn (lv' := [(2, .int x1), (0, .ref (lo (5, 0, 0))), (1, .int i_1)]) ex1 hx hb dX4_measureOrder_1 rfl hl (by decide) rfl (fun ls hl => ?_)
  refine lv_iload_n hx hb dX4_measureOrder_2 rfl (lv_at hl 2 rfl) ?_
  obtain ⟨x2, ex2, hf⟩ := op_st hf
  refine z_istn (lv' := [(3, .int x2), (2, .int x1), (0, .ref (lo (5, 0, 0))), (1, .int i_1)]) ex2 hx hb dX4_measureOrder_3 rfl hl (by decide) rfl (fun ls hl => ?_)
  refine lv_iconst (v := (0)) hx hb dX4_measureOrder_4 (by decide) ?_
  obtain ⟨x3, ex3, hf⟩ := op_st hf
  have bx3 : x3 = 0 ∨ x3 = 1 := Or.inl ex3
  refine z_ist (lv' := [(4, .int x3), (3, .int x2), (2, .int x1), (0, .ref (lo (5, 0, 0))), (1, .int i_1)]) ex3 hx hb dX4_measureOrder_5 hl (by decide) rfl (fun ls hl => ?_)
  obtain ⟨w6, q40, ew6, eq40, hf⟩ := op_lb hf
  have hw6 : ∀ n9 : Nat, ∀ (q4 : (Int32 × Int32 × Int32)) (H : Heap) (locs : List Loc) (ls : Array Slot), lv_has ls 7 [(4, .int q4.2.2), (3, .int q4.2.1), (2, .int q4.1), (0, .ref (lo (5, 0, 0)))] → Wd Γ lo S X H → va_S (zA Γ) s.heap H locs → (∀ c, zV S c = zV S c) → lp w6 n9 q4 = some y → W p l e (headSpec wsX4_measureOrder rmX4_measureOrder).room s m ([.ref (lo (5, 0, 0)), .int i_1] : List Value).toArray below meth c H locs 0 0 (MQ below (zQ0 Γ lo S S X (some (.int y)) True) ([.ref (lo (5, 0, 0)), .int i_1] : List Value).toArray s 0 0 (zA Γ)) (F0 m 7 ls []) := by
    intro n9
    induction n9 with
    | zero => intro q4 H locs ls hl hW hS hm hf; cases hf
    | succ n9 ih7 =>
      intro q4 H locs ls hl hW hS hm hf
      obtain ⟨n_, r5, hn_, hf, hr8⟩ := op_lq hf
      cases hn_
      rw [ew6] at hf
      refine lv_iload hx hb dX4_measureOrder_7 (lv_at hl 0 rfl) ?_
      refine lv_aload_n hx hb dX4_measureOrder_9 rfl (lv_at hl 3 rfl) ?_
      refine va_get hx hb hts ni_X4_measureOrder_X4 hown hKK.1 (wd_1 hW v_z) 0 rfl rfl 3 (by decide) (hts (.fieldLink RX4 21 "TiltRoute$Plan" "count" "I") (List.mem_of_getElem? (i := 1) rfl)) (fun _ h => h) rfl dX4_measureOrder_10 ?_
      refine lv_icmp_ge (tgt := 82) hx hb dX4_measureOrder_13 (by decide) (fun k13 => ?_) (fun k13 => ?_)
      · have hf := (op_if hf).1 k13
        refine lv_iload_n hx hb dX4_measureOrder_82 rfl (lv_at hl 2 rfl) ?_
        have hf := zr_r hf hr8
        rw [← hf]
        exact z_iret hx hb hr hlocks rfl hW hS hm trivial dX4_measureOrder_83
      · have hf := (op_if hf).2 k13
        refine lv_iload hx hb dX4_measureOrder_16 (lv_at hl 0 rfl) ?_
        refine lv_aload_n hx hb dX4_measureOrder_18 rfl (lv_at hl 3 rfl) ?_
        refine va_get hx hb hts ni_X4_measureOrder_X4 hown hKK.1 (wd_1 hW v_z) 0 rfl rfl 1 (by decide) (hts (.fieldLink RX4 15 "TiltRoute$Plan" "order" "[I") (List.mem_of_getElem? (i := 2) rfl)) (fun _ h => h) rfl dX4_measureOrder_19 ?_
        have v10 : zV S (18, 0, 0) = true := vf_5_1 hW v_z
        refine va_alen (v := 6) hx hb hKK.1 (wd_1 hW v10) 0 0 rfl rfl (show Int32.ofNat 6 = 6 by decide) dX4_measureOrder_22 ?_
        refine lv_icmp_ge (tgt := 82) hx hb dX4_measureOrder_23 (by decide) (fun k23 => ?_) (fun k23 => ?_)
        · have hf := (op_if hf).1 k23
          refine lv_iload_n hx hb dX4_measureOrder_82 rfl (lv_at hl 2 rfl) ?_
          have hf := zr_r hf hr8
          rw [← hf]
          exact z_iret hx hb hr hlocks rfl hW hS hm trivial dX4_measureOrder_83
        · have hf := (op_if hf).2 k23
          refine lv_aload_n hx hb dX4_measureOrder_26 rfl (lv_at hl 3 rfl) ?_
          refine va_get hx hb hts ni_X4_measureOrder_X4 hown hKK.1 (wd_1 hW v_z) 0 rfl rfl 1 (by decide) (hts (.fieldLink RX4 15 "TiltRoute$Plan" "order" "[I") (List.mem_of_getElem? (i := 2) rfl)) (fun _ h => h) rfl dX4_measureOrder_27 ?_
          have v11 : zV S (18, 0, 0) = true := vf_5_1 hW v_z
          refine lv_iload hx hb dX4_measureOrder_30 (lv_at hl 0 rfl) ?_
          obtain ⟨h32, hf⟩ := op_gd hf
          refine va_iald hx hb hKK.1 (wd_1 hW v11) 0 0 (n := 6) rfl rfl h32 dX4_measureOrder_32 ?_
          obtain ⟨x12, ex12, hf⟩ := op_st hf
          refine z_ist (lv' := [(5, .int x12), (4, .int q4.2.2), (3, .int q4.2.1), (2, .int q4.1), (0, .ref (lo (5, 0, 0)))]) ex12 hx hb dX4_measureOrder_33 hl (by decide) rfl (fun ls hl => ?_)
          refine lv_iload hx hb dX4_measureOrder_35 (lv_at hl 0 rfl) ?_
          obtain ⟨j14, ej14, hf⟩ := op_st hf
          have hj14 : ∀ (y13 : Int32) (H : Heap) (locs : List Loc) (ls : Array Slot), lv_has ls 7 [(4, .int q4.2.2), (3, .int q4.2.1), (2, .int q4.1), (0, .ref (lo (5, 0, 0)))] → Wd Γ lo S X H → va_S (zA Γ) s.heap H locs → (∀ c, zV S c = zV S c) → j14 y13 = some r5 → W p l e (headSpec wsX4_measureOrder rmX4_measureOrder).room s m ([.ref (lo (5, 0, 0)), .int i_1] : List Value).toArray below meth c H locs 0 0 (MQ below (zQ0 Γ lo S S X (some (.int y)) True) ([.ref (lo (5, 0, 0)), .int i_1] : List Value).toArray s 0 0 (zA Γ)) (F0 m 61 ls [.int y13]) := by
            intro y13 H locs ls  hl hW hS hm hf
            rw [ej14] at hf
            obtain ⟨x15, ex15, hf⟩ := op_st hf
            refine z_ist (lv' := [(6, .int x15), (4, .int q4.2.2), (3, .int q4.2.1), (2, .int q4.1), (0, .ref (lo (5, 0, 0)))]) ex15 hx hb dX4_measureOrder_61 hl (by decide) rfl (fun ls hl => ?_)
            refine lv_iload_n hx hb dX4_measureOrder_63 rfl (lv_at hl 3 rfl) ?_
            refine lv_iload hx hb dX4_measureOrder_64 (lv_at hl 0 rfl) ?_
            refine lv_iload_n hx hb dX4_measureOrder_66 rfl (lv_at hl 2 rfl) ?_
            refine lv_isub hx hb dX4_measureOrder_67 ?_
            refine va_mabs hx hb (hml.trans hl.1.symm) hown (hts (.methodLink RX4 61 Lib.Math.abs.name) (List.mem_of_getElem? (i := 4) rfl)) (hts (.static Lib.Math.abs.name) (List.mem_of_getElem? (i := 5) rfl)) (hts (.initialized "java/lang/Math") (List.mem_of_getElem? (i := 6) rfl)) (hts (.code Lib.Math.abs.name Lib.Math.abs.code 1 (some .int)) (List.mem_of_getElem? (i := 7) rfl)) (by decide) (Nat.le_of_ble_eq_true rfl) (Nat.zero_le _) (Nat.zero_le _) dX4_measureOrder_68 ?_
            refine lv_iadd hx hb dX4_measureOrder_71 ?_
            obtain ⟨x16, ex16, hf⟩ := op_st hf
            refine z_istn (lv' := [(2, .int x16), (6, .int x15), (4, .int q4.2.2), (3, .int q4.2.1), (0, .ref (lo (5, 0, 0)))]) ex16 hx hb dX4_measureOrder_72 rfl hl (by decide) rfl (fun ls hl => ?_)
            refine lv_iload hx hb dX4_measureOrder_73 (lv_at hl 1 rfl) ?_
            obtain ⟨x17, ex17, hf⟩ := op_st hf
            refine z_istn (lv' := [(3, .int x17), (2, .int x16), (6, .int x15), (4, .int q4.2.2), (0, .ref (lo (5, 0, 0)))]) ex17 hx hb dX4_measureOrder_75 rfl hl (by decide) rfl (fun ls hl => ?_)
            obtain ⟨x18, ex18, hf⟩ := op_st hf
            refine lv_iinc (v := x18) (lv' := [(4, .int x18), (3, .int x17), (2, .int x16), (6, .int x15), (0, .ref (lo (5, 0, 0)))]) hx hb dX4_measureOrder_76 hl (k := 3) rfl (by rw [ex18]; rfl) (by decide) rfl (fun ls hl => ?_)
            refine lv_goto (tgt := 7) hx hb dX4_measureOrder_79 (by decide) ?_
            have hf := zr_l hf hr8
            exact ih7 (x16, x17, x18) H locs ls (lv_sub hl [0, 1, 2, 4] rfl) hW hS hm hf
          obtain ⟨j19, ej19, hf⟩ := op_st hf
          have hj19 : ∀ (u_ : Unit) (H : Heap) (locs : List Loc) (ls : Array Slot), lv_has ls 7 [(4, .int q4.2.2), (3, .int q4.2.1), (2, .int q4.1), (0, .ref (lo (5, 0, 0)))] → Wd Γ lo S X H → va_S (zA Γ) s.heap H locs → (∀ c, zV S c = zV S c) → j19 () = some r5 → W p l e (headSpec wsX4_measureOrder rmX4_measureOrder).room s m ([.ref (lo (5, 0, 0)), .int i_1] : List Value).toArray below meth c H locs 0 0 (MQ below (zQ0 Γ lo S S X (some (.int y)) True) ([.ref (lo (5, 0, 0)), .int i_1] : List Value).toArray s 0 0 (zA Γ)) (F0 m 60 ls []) := by
            intro u_ H locs ls  hl hW hS hm hf
            rw [ej19] at hf
            refine lv_iload_n hx hb dX4_measureOrder_60 rfl (lv_at hl 1 rfl) ?_
            exact hj14 q4.2.1 H locs ls  (lv_sub hl [0, 1, 2, 3] rfl) hW hS hm hf
          refine lv_if_lt (tgt := 60) hx hb dX4_measureOrder_37 (by decide) (fun k37 => ?_) (fun k37 => ?_)
          · have hf := (op_if hf).1 k37
            exact hj19 () H locs ls  (lv_sub hl [1, 2, 3, 4] rfl) hW hS hm hf
          · have hf := (op_if hf).2 k37
            refine lv_iload hx hb dX4_measureOrder_40 (lv_at hl 0 rfl) ?_
            refine lv_aload_n hx hb dX4_measureOrder_42 rfl (lv_at hl 4 rfl) ?_
            refine va_get hx hb hts ni_X4_measureOrder_X4 hown hKK.1 (wd_1 hW v_z) 0 rfl rfl 0 (by decide) (hts (.fieldLink RX4 9 "TiltRoute$Plan" "sites" "[I") (List.mem_of_getElem? (i := 3) rfl)) (fun _ h => h) rfl dX4_measureOrder_43 ?_
            have v20 : zV S (17, 0, 0) = true := vf_5_0 hW v_z
            refine va_alen (v := 6) hx hb hKK.1 (wd_1 hW v20) 0 0 rfl rfl (show Int32.ofNat 6 = 6 by decide) dX4_measureOrder_46 ?_
            refine lv_icmp_ge (tgt := 60) hx hb dX4_measureOrder_47 (by decide) (fun k47 => ?_) (fun k47 => ?_)
            · have hf := (op_if hf).1 k47
              exact hj19 () H locs ls  (lv_sub hl [1, 2, 3, 4] rfl) hW hS hm hf
            · have hf := (op_if hf).2 k47
              refine lv_aload_n hx hb dX4_measureOrder_50 rfl (lv_at hl 4 rfl) ?_
              refine va_get hx hb hts ni_X4_measureOrder_X4 hown hKK.1 (wd_1 hW v_z) 0 rfl rfl 0 (by decide) (hts (.fieldLink RX4 9 "TiltRoute$Plan" "sites" "[I") (List.mem_of_getElem? (i := 3) rfl)) (fun _ h => h) rfl dX4_measureOrder_51 ?_
              have v21 : zV S (17, 0, 0) = true := vf_5_0 hW v_z
              refine lv_iload hx hb dX4_measureOrder_54 (lv_at hl 0 rfl) ?_
              obtain ⟨h56, hf⟩ := op_gd hf
              refine va_iald hx hb hKK.1 (wd_1 hW v21) 0 0 (n := 6) rfl rfl h56 dX4_measureOrder_56 ?_
              refine lv_goto (tgt := 61) hx hb dX4_measureOrder_57 (by decide) ?_
              exact hj14 (zI S (17, 0, 0) x12.toNatClampNeg) H locs ls  (lv_sub hl [1, 2, 3, 4] rfl) hW hS hm hf
  rw [eq40] at hf
  exact hw6 _ (x1, x2, x3) H locs ls (lv_sub hl [0, 1, 2, 3] rfl) hW hS hm hf

theorem ni_X4_keepOrder_X4 : ∀ w ∈ wsX40, w ∈ wsX4_keepOrder := by decide +kernel
def fX4_keepOrder (S : zSt)  : Option zSt :=
st (0 : Int32) fun x1 =>
lp (fun (q2 : (Int32 × zSt)) => (if (zI q2.2 (5, 0, 0) 3) ≤ q2.1 then
some (.inr (q2.2))
else
if (6 : Int32) ≤ q2.1 then
some (.inr (q2.2))
else
if (6 : Int32) ≤ q2.1 then
some (.inr (q2.2))
else
gd (¬ (q2.1 < 0 ∨ 6 ≤ q2.1.toNatClampNeg)) (
gd (¬ (q2.1 < 0 ∨ 6 ≤ q2.1.toNatClampNeg)) (
st (pI q2.2 (19, 0, 0) q2.1.toNatClampNeg (zI q2.2 (18, 0, 0) q2.1.toNatClampNeg)) fun S12 =>
st (q2.1 + (1 : Int32)) fun x13 =>
some (.inl (x13, S12)))) : Option ((Int32 × zSt) ⊕ zSt))) 40000 (x1, S)
abbrev rmX4_keepOrder : Room := { frames := 0, cells := 0, slots := 0, locals := 0 }
set_option maxHeartbeats 4000000 in
set_option maxRecDepth 100000 in
theorem tX4_keepOrder (l : Launch) (Γ : zG) (lo : zId → Nat) (S : zSt) (X : va_W)  (v_z : zV S (5, 0, 0) = true) {y : zSt} (hf : fX4_keepOrder S  = some y) : Met l yX4_keepOrder wsX4_keepOrder rmX4_keepOrder (zP0 Γ lo S X [.ref (lo (5, 0, 0))]) (zQ0 Γ lo S y X none True) 0 0 (zA Γ) := by
  refine Met.ofW (cc := cX4_keepOrder) (maxL := 2) (ret := none) (by decide) rfl ?_
  intro p e s m args below meth c s₁ B hml hv
  obtain ⟨rfl, hW, hKK⟩ := hv
  have hx := B.exec
  have hb := B.bytes
  have hr := B.returns
  have hts := atoms_spec (ws := wsX4_keepOrder) B.pre
  have hown : s.vm.findClass RX4 = some m.cls := findClass_of_methodNamed B.named
  have hlocks := B.notSynchronized
  have hS : va_S (zA Γ) s.heap s.heap [] := va_S.rf
  have hm : ∀ c, zV S c = zV S c := fun _ => rfl
  have hl := lv_entry ([.ref (lo (5, 0, 0))]) (n := 2) (Nat.le_of_ble_eq_true rfl)
  rw [lg_entry_eq]
  generalize (lg_sl ([.ref (lo (5, 0, 0))]) ++ List.replicate (2 - (lg_sl ([.ref (lo (5, 0, 0))])).length) Slot.unset).toArray = ls at hl ⊢
  have hl : lv_has ls 2 [(0, .ref (lo (5, 0, 0)))] := hl
  obtain ⟨H, hH0⟩ : ∃ H, H = s.heap := ⟨_, rfl⟩
  obtain ⟨locs, hlo0⟩ : ∃ L : List Loc, L = [] := ⟨_, rfl⟩
  have hS : va_S (zA Γ) s.heap H locs := by rw [hH0, hlo0]; exact hS
  have hW : Wd Γ lo S X H := by rw [hH0]; exact hW
  rw [← hH0, ← hlo0]
  unfold fX4_keepOrder at hf
  refine lv_iconst (v := (0)) hx hb dX4_keepOrder_0 (by decide) ?_
  obtain ⟨x1, ex1, hf⟩ := op_st hf
  have bx1 : x1 = 0 ∨ x1 = 1 := Or.inl ex1
  refine z_istn (lv' := [(1, .int x1), (0, .ref (lo (5, 0, 0)))]) ex1 hx hb dX4_keepOrder_1 rfl hl (by decide) rfl (fun ls hl => ?_)
  obtain ⟨w4, q20, ew4, eq20, hf⟩ := op_lb hf
  have hw4 : ∀ n7 : Nat, ∀ (q2 : (Int32 × zSt)) (H : Heap) (locs : List Loc) (ls : Array Slot), lv_has ls 2 [(1, .int q2.1), (0, .ref (lo (5, 0, 0)))] → Wd Γ lo q2.2 X H → va_S (zA Γ) s.heap H locs → (∀ c, zV q2.2 c = zV S c) → lp w4 n7 q2 = some y → W p l e (headSpec wsX4_keepOrder rmX4_keepOrder).room s m ([.ref (lo (5, 0, 0))] : List Value).toArray below meth c H locs 0 0 (MQ below (zQ0 Γ lo S y X none True) ([.ref (lo (5, 0, 0))] : List Value).toArray s 0 0 (zA Γ)) (F0 m 2 ls []) := by
    intro n7
    induction n7 with
    | zero => intro q2 H locs ls hl hW hS hm hf; cases hf
    | succ n7 ih5 =>
      intro q2 H locs ls hl hW hS hm hf
      obtain ⟨n_, r3, hn_, hf, hr6⟩ := op_lq hf
      cases hn_
      rw [ew4] at hf
      refine lv_iload_n hx hb dX4_keepOrder_2 rfl (lv_at hl 0 rfl) ?_
      refine lv_aload_n hx hb dX4_keepOrder_3 rfl (lv_at hl 1 rfl) ?_
      refine va_get hx hb hts ni_X4_keepOrder_X4 hown hKK.1 (wd_1 hW ((hm _).trans v_z)) 0 rfl rfl 3 (by decide) (hts (.fieldLink RX4 21 "TiltRoute$Plan" "count" "I") (List.mem_of_getElem? (i := 1) rfl)) (fun _ h => h) rfl dX4_keepOrder_4 ?_
      refine lv_icmp_ge (tgt := 46) hx hb dX4_keepOrder_7 (by decide) (fun k7 => ?_) (fun k7 => ?_)
      · have hf := (op_if hf).1 k7
        have hf := zr_r hf hr6
        rw [← hf]
        exact z_vret hx hb hr hlocks hW hS hm trivial dX4_keepOrder_46
      · have hf := (op_if hf).2 k7
        refine lv_iload_n hx hb dX4_keepOrder_10 rfl (lv_at hl 0 rfl) ?_
        refine lv_aload_n hx hb dX4_keepOrder_11 rfl (lv_at hl 1 rfl) ?_
        refine va_get hx hb hts ni_X4_keepOrder_X4 hown hKK.1 (wd_1 hW ((hm _).trans v_z)) 0 rfl rfl 1 (by decide) (hts (.fieldLink RX4 15 "TiltRoute$Plan" "order" "[I") (List.mem_of_getElem? (i := 2) rfl)) (fun _ h => h) rfl dX4_keepOrder_12 ?_
        have v8 : zV S (18, 0, 0) = true := (hm _).symm.trans (vf_5_1 hW ((hm _).trans v_z))
        refine va_alen (v := 6) hx hb hKK.1 (wd_1 hW ((hm _).trans v8)) 0 0 rfl rfl (show Int32.ofNat 6 = 6 by decide) dX4_keepOrder_15 ?_
        refine lv_icmp_ge (tgt := 46) hx hb dX4_keepOrder_16 (by decide) (fun k16 => ?_) (fun k16 => ?_)
        · have hf := (op_if hf).1 k16
          have hf := zr_r hf hr6
          rw [← hf]
          exact z_vret hx hb hr hlocks hW hS hm trivial dX4_keepOrder_46
        · have hf := (op_if hf).2 k16
          refine lv_iload_n hx hb dX4_keepOrder_19 rfl (lv_at hl 0 rfl) ?_
          refine lv_aload_n hx hb dX4_keepOrder_20 rfl (lv_at hl 1 rfl) ?_
          refine va_get hx hb hts ni_X4_keepOrder_X4 hown hKK.1 (wd_1 hW ((hm _).trans v_z)) 0 rfl rfl 2 (by decide) (hts (.fieldLink RX4 18 "TiltRoute$Plan" "best" "[I") (List.mem_of_getElem? (i := 3) rfl)) (fun _ h => h) rfl dX4_keepOrder_21 ?_
          have v9 : zV S (19, 0, 0) = true := (hm _).symm.trans (vf_5_2 hW ((hm _).trans v_z))
          refine va_alen (v := 6) hx hb hKK.1 (wd_1 hW ((hm _).trans v9)) 0 0 rfl rfl (show Int32.ofNat 6 = 6 by decide) dX4_keepOrder_24 ?_
          refine lv_icmp_ge (tgt := 46) hx hb dX4_keepOrder_25 (by decide) (fun k25 => ?_) (fun k25 => ?_)
          · have hf := (op_if hf).1 k25
            have hf := zr_r hf hr6
            rw [← hf]
            exact z_vret hx hb hr hlocks hW hS hm trivial dX4_keepOrder_46
          · have hf := (op_if hf).2 k25
            refine lv_aload_n hx hb dX4_keepOrder_28 rfl (lv_at hl 1 rfl) ?_
            refine va_get hx hb hts ni_X4_keepOrder_X4 hown hKK.1 (wd_1 hW ((hm _).trans v_z)) 0 rfl rfl 2 (by decide) (hts (.fieldLink RX4 18 "TiltRoute$Plan" "best" "[I") (List.mem_of_getElem? (i := 3) rfl)) (fun _ h => h) rfl dX4_keepOrder_29 ?_
            have v10 : zV S (19, 0, 0) = true := (hm _).symm.trans (vf_5_2 hW ((hm _).trans v_z))
            refine lv_iload_n hx hb dX4_keepOrder_32 rfl (lv_at hl 0 rfl) ?_
            refine lv_aload_n hx hb dX4_keepOrder_33 rfl (lv_at hl 1 rfl) ?_
            refine va_get hx hb hts ni_X4_keepOrder_X4 hown hKK.1 (wd_1 hW ((hm _).trans v_z)) 0 rfl rfl 1 (by decide) (hts (.fieldLink RX4 15 "TiltRoute$Plan" "order" "[I") (List.mem_of_getElem? (i := 2) rfl)) (fun _ h => h) rfl dX4_keepOrder_34 ?_
            have v11 : zV S (18, 0, 0) = true := (hm _).symm.trans (vf_5_1 hW ((hm _).trans v_z))
            refine lv_iload_n hx hb dX4_keepOrder_37 rfl (lv_at hl 0 rfl) ?_
            obtain ⟨h38, hf⟩ := op_gd hf
            refine va_iald hx hb hKK.1 (wd_1 hW ((hm _).trans v11)) 0 0 (n := 6) rfl rfl h38 dX4_keepOrder_38 ?_
            obtain ⟨h39, hf⟩ := op_gd hf
            obtain ⟨S12, eS12, hf⟩ := op_st hf
            refine g_iast (n := 6) hx hb hKK.1 hW hS ((hm _).trans v10) (fun _ _ _ _ => rfl) h39 dX4_keepOrder_39 eS12 (fun H locs hW hS => ?_)
            have hm : ∀ c, zV S12 c = zV S c := fun c => by rw [eS12]; exact hm c
            obtain ⟨x13, ex13, hf⟩ := op_st hf
            refine lv_iinc (v := x13) (lv' := [(1, .int x13), (0, .ref (lo (5, 0, 0)))]) hx hb dX4_keepOrder_40 hl (k := 0) rfl (by rw [ex13]; rfl) (by decide) rfl (fun ls hl => ?_)
            refine lv_goto (tgt := 2) hx hb dX4_keepOrder_43 (by decide) ?_
            have hf := zr_l hf hr6
            exact ih5 (x13, S12) H locs ls (lv_sub hl [0, 1] rfl) hW hS hm hf
  rw [eq20] at hf
  exact hw4 _ (x1, S) H locs ls (lv_sub hl [0, 1] rfl) hW hS hm hf

theorem ni_X4_swapOrder_X4 : ∀ w ∈ wsX40, w ∈ wsX4_swapOrder := by decide +kernel
def fX4_swapOrder (S : zSt) (i_1 : Int32) (i_2 : Int32) : Option zSt :=
if i_1 < 0 then
some (S)
else
if (6 : Int32) ≤ i_1 then
some (S)
else
if i_2 < 0 then
some (S)
else
if (6 : Int32) ≤ i_2 then
some (S)
else
gd (¬ (i_1 < 0 ∨ 6 ≤ i_1.toNatClampNeg)) (
st (zI S (18, 0, 0) i_1.toNatClampNeg) fun x4 =>
gd (¬ (i_2 < 0 ∨ 6 ≤ i_2.toNatClampNeg)) (
gd (¬ (i_1 < 0 ∨ 6 ≤ i_1.toNatClampNeg)) (
st (pI S (18, 0, 0) i_1.toNatClampNeg (zI S (18, 0, 0) i_2.toNatClampNeg)) fun S7 =>
gd (¬ (i_2 < 0 ∨ 6 ≤ i_2.toNatClampNeg)) (
st (pI S7 (18, 0, 0) i_2.toNatClampNeg x4) fun S9 =>
some (S9)))))
abbrev rmX4_swapOrder : Room := { frames := 0, cells := 0, slots := 0, locals := 0 }
set_option maxHeartbeats 4000000 in
set_option maxRecDepth 100000 in
theorem tX4_swapOrder (l : Launch) (Γ : zG) (lo : zId → Nat) (S : zSt) (X : va_W) {i_1 : Int32} {i_2 : Int32} (v_z : zV S (5, 0, 0) = true) {y : zSt} (hf : fX4_swapOrder S i_1 i_2 = some y) : Met l yX4_swapOrder wsX4_swapOrder rmX4_swapOrder (zP0 Γ lo S X [.ref (lo (5, 0, 0)), .int i_1, .int i_2]) (zQ0 Γ lo S y X none True) 0 0 (zA Γ) := by
  refine Met.ofW (cc := cX4_swapOrder) (maxL := 4) (ret := none) (by decide) rfl ?_
  intro p e s m args below meth c s₁ B hml hv
  obtain ⟨rfl, hW, hKK⟩ := hv
  have hx := B.exec
  have hb := B.bytes
  have hr := B.returns
  have hts := atoms_spec (ws := wsX4_swapOrder) B.pre
  have hown : s.vm.findClass RX4 = some m.cls := findClass_of_methodNamed B.named
  have hlocks := B.notSynchronized
  have hS : va_S (zA Γ) s.heap s.heap [] := va_S.rf
  have hm : ∀ c, zV S c = zV S c := fun _ => rfl
  have hl := lv_entry ([.ref (lo (5, 0, 0)), .int i_1, .int i_2]) (n := 4) (Nat.le_of_ble_eq_true rfl)
  rw [lg_entry_eq]
  generalize (lg_sl ([.ref (lo (5, 0, 0)), .int i_1, .int i_2]) ++ List.replicate (4 - (lg_sl ([.ref (lo (5, 0, 0)), .int i_1, .int i_2])).length) Slot.unset).toArray = ls at hl ⊢
  have hl : lv_has ls 4 [(0, .ref (lo (5, 0, 0))), (1, .int i_1), (2, .int i_2)] := hl
  obtain ⟨H, hH0⟩ : ∃ H, H = s.heap := ⟨_, rfl⟩
  obtain ⟨locs, hlo0⟩ : ∃ L : List Loc, L = [] := ⟨_, rfl⟩
  have hS : va_S (zA Γ) s.heap H locs := by rw [hH0, hlo0]; exact hS
  have hW : Wd Γ lo S X H := by rw [hH0]; exact hW
  rw [← hH0, ← hlo0]
  unfold fX4_swapOrder at hf
  refine lv_iload_n hx hb dX4_swapOrder_0 rfl (lv_at hl 1 rfl) ?_
  refine lv_if_lt (tgt := 52) hx hb dX4_swapOrder_1 (by decide) (fun k1 => ?_) (fun k1 => ?_)
  · have hf := (op_if hf).1 k1
    have hf := Option.some.inj hf
    rw [← hf]
    exact z_vret hx hb hr hlocks hW hS hm trivial dX4_swapOrder_52
  · have hf := (op_if hf).2 k1
    refine lv_iload_n hx hb dX4_swapOrder_4 rfl (lv_at hl 1 rfl) ?_
    refine lv_aload_n hx hb dX4_swapOrder_5 rfl (lv_at hl 0 rfl) ?_
    refine va_get hx hb hts ni_X4_swapOrder_X4 hown hKK.1 (wd_1 hW v_z) 0 rfl rfl 1 (by decide) (hts (.fieldLink RX4 15 "TiltRoute$Plan" "order" "[I") (List.mem_of_getElem? (i := 1) rfl)) (fun _ h => h) rfl dX4_swapOrder_6 ?_
    have v1 : zV S (18, 0, 0) = true := vf_5_1 hW v_z
    refine va_alen (v := 6) hx hb hKK.1 (wd_1 hW v1) 0 0 rfl rfl (show Int32.ofNat 6 = 6 by decide) dX4_swapOrder_9 ?_
    refine lv_icmp_ge (tgt := 52) hx hb dX4_swapOrder_10 (by decide) (fun k10 => ?_) (fun k10 => ?_)
    · have hf := (op_if hf).1 k10
      have hf := Option.some.inj hf
      rw [← hf]
      exact z_vret hx hb hr hlocks hW hS hm trivial dX4_swapOrder_52
    · have hf := (op_if hf).2 k10
      refine lv_iload_n hx hb dX4_swapOrder_13 rfl (lv_at hl 2 rfl) ?_
      refine lv_if_lt (tgt := 52) hx hb dX4_swapOrder_14 (by decide) (fun k14 => ?_) (fun k14 => ?_)
      · have hf := (op_if hf).1 k14
        have hf := Option.some.inj hf
        rw [← hf]
        exact z_vret hx hb hr hlocks hW hS hm trivial dX4_swapOrder_52
      · have hf := (op_if hf).2 k14
        refine lv_iload_n hx hb dX4_swapOrder_17 rfl (lv_at hl 2 rfl) ?_
        refine lv_aload_n hx hb dX4_swapOrder_18 rfl (lv_at hl 0 rfl) ?_
        refine va_get hx hb hts ni_X4_swapOrder_X4 hown hKK.1 (wd_1 hW v_z) 0 rfl rfl 1 (by decide) (hts (.fieldLink RX4 15 "TiltRoute$Plan" "order" "[I") (List.mem_of_getElem? (i := 1) rfl)) (fun _ h => h) rfl dX4_swapOrder_19 ?_
        have v2 : zV S (18, 0, 0) = true := vf_5_1 hW v_z
        refine va_alen (v := 6) hx hb hKK.1 (wd_1 hW v2) 0 0 rfl rfl (show Int32.ofNat 6 = 6 by decide) dX4_swapOrder_22 ?_
        refine lv_icmp_ge (tgt := 52) hx hb dX4_swapOrder_23 (by decide) (fun k23 => ?_) (fun k23 => ?_)
        · have hf := (op_if hf).1 k23
          have hf := Option.some.inj hf
          rw [← hf]
          exact z_vret hx hb hr hlocks hW hS hm trivial dX4_swapOrder_52
        · have hf := (op_if hf).2 k23
          refine lv_aload_n hx hb dX4_swapOrder_26 rfl (lv_at hl 0 rfl) ?_
          refine va_get hx hb hts ni_X4_swapOrder_X4 hown hKK.1 (wd_1 hW v_z) 0 rfl rfl 1 (by decide) (hts (.fieldLink RX4 15 "TiltRoute$Plan" "order" "[I") (List.mem_of_getElem? (i := 1) rfl)) (fun _ h => h) rfl dX4_swapOrder_27 ?_
          have v3 : zV S (18, 0, 0) = true := vf_5_1 hW v_z
          refine lv_iload_n hx hb dX4_swapOrder_30 rfl (lv_at hl 1 rfl) ?_
          obtain ⟨h31, hf⟩ := op_gd hf
          refine va_iald hx hb hKK.1 (wd_1 hW v3) 0 0 (n := 6) rfl rfl h31 dX4_swapOrder_31 ?_
          obtain ⟨x4, ex4, hf⟩ := op_st hf
          refine z_istn (lv' := [(3, .int x4), (0, .ref (lo (5, 0, 0))), (1, .int i_1), (2, .int i_2)]) ex4 hx hb dX4_swapOrder_32 rfl hl (by decide) rfl (fun ls hl => ?_)
          refine lv_aload_n hx hb dX4_swapOrder_33 rfl (lv_at hl 1 rfl) ?_
          refine va_get hx hb hts ni_X4_swapOrder_X4 hown hKK.1 (wd_1 hW v_z) 0 rfl rfl 1 (by decide) (hts (.fieldLink RX4 15 "TiltRoute$Plan" "order" "[I") (List.mem_of_getElem? (i := 1) rfl)) (fun _ h => h) rfl dX4_swapOrder_34 ?_
          have v5 : zV S (18, 0, 0) = true := vf_5_1 hW v_z
          refine lv_iload_n hx hb dX4_swapOrder_37 rfl (lv_at hl 2 rfl) ?_
          refine lv_aload_n hx hb dX4_swapOrder_38 rfl (lv_at hl 1 rfl) ?_
          refine va_get hx hb hts ni_X4_swapOrder_X4 hown hKK.1 (wd_1 hW v_z) 0 rfl rfl 1 (by decide) (hts (.fieldLink RX4 15 "TiltRoute$Plan" "order" "[I") (List.mem_of_getElem? (i := 1) rfl)) (fun _ h => h) rfl dX4_swapOrder_39 ?_
          have v6 : zV S (18, 0, 0) = true := vf_5_1 hW v_z
          refine lv_iload_n hx hb dX4_swapOrder_42 rfl (lv_at hl 3 rfl) ?_
          obtain ⟨h43, hf⟩ := op_gd hf
          refine va_iald hx hb hKK.1 (wd_1 hW v6) 0 0 (n := 6) rfl rfl h43 dX4_swapOrder_43 ?_
          obtain ⟨h44, hf⟩ := op_gd hf
          obtain ⟨S7, eS7, hf⟩ := op_st hf
          refine g_iast (n := 6) hx hb hKK.1 hW hS v5 (fun _ _ _ _ => rfl) h44 dX4_swapOrder_44 eS7 (fun H locs hW hS => ?_)
          have hm : ∀ c, zV S7 c = zV S c := fun c => by rw [eS7]; rfl
          refine lv_aload_n hx hb dX4_swapOrder_45 rfl (lv_at hl 1 rfl) ?_
          refine va_get hx hb hts ni_X4_swapOrder_X4 hown hKK.1 (wd_1 hW ((hm _).trans v_z)) 0 rfl rfl 1 (by decide) (hts (.fieldLink RX4 15 "TiltRoute$Plan" "order" "[I") (List.mem_of_getElem? (i := 1) rfl)) (fun _ h => h) rfl dX4_swapOrder_46 ?_
          have v8 : zV S (18, 0, 0) = true := (hm _).symm.trans (vf_5_1 hW ((hm _).trans v_z))
          refine lv_iload_n hx hb dX4_swapOrder_49 rfl (lv_at hl 3 rfl) ?_
          refine lv_iload_n hx hb dX4_swapOrder_50 rfl (lv_at hl 0 rfl) ?_
          obtain ⟨h51, hf⟩ := op_gd hf
          obtain ⟨S9, eS9, hf⟩ := op_st hf
          refine g_iast (n := 6) hx hb hKK.1 hW hS ((hm _).trans v8) (fun _ _ _ _ => rfl) h51 dX4_swapOrder_51 eS9 (fun H locs hW hS => ?_)
          have hm : ∀ c, zV S9 c = zV S c := fun c => by rw [eS9]; exact hm c
          have hf := Option.some.inj hf
          rw [← hf]
          exact z_vret hx hb hr hlocks hW hS hm trivial dX4_swapOrder_52

theorem ni_X4_nextOrder_X4 : ∀ w ∈ wsX40, w ∈ wsX4_nextOrder := by decide +kernel
def fX4_nextOrder (S : zSt)  : Option (Int32 × zSt) :=
st ((if (6 : Int32) < (zI S (5, 0, 0) 3) then (6 : Int32) else (zI S (5, 0, 0) 3)) - (2 : Int32)) fun x2 =>
lp (fun (q3 : (Int32)) => (st (fun (u_ : Unit) => (if 0 ≤ q3 then
st ((if (6 : Int32) < (zI S (5, 0, 0) 3) then (6 : Int32) else (zI S (5, 0, 0) 3)) - (1 : Int32)) fun x11 =>
st x11 fun x12 =>
lp (fun (q13 : (Int32)) => (st (fun (u_ : Unit) => (cl (fX4_swapOrder S q3 q13) fun S22 =>
st (q3 + (1 : Int32)) fun x23 =>
st x11 fun x24 =>
lp (fun (q25 : (Int32 × Int32 × zSt)) => (if q25.2.1 ≤ q25.1 then
some (.inr (.inr (.inr (((1 : Int32), q25.2.2)))))
else
cl (fX4_swapOrder q25.2.2 q25.1 q25.2.1) fun S33 =>
st (q25.1 + (1 : Int32)) fun x34 =>
st (q25.2.1 + (-1 : Int32)) fun x35 =>
some (.inl (x34, x35, S33)) : Option ((Int32 × Int32 × zSt) ⊕ ((Int32) ⊕ ((Int32) ⊕ (Int32 × zSt)))))) 40000 (x23, x24, S22) : Option ((Int32) ⊕ ((Int32) ⊕ (Int32 × zSt))))) fun j19 =>
if q13 ≤ q3 then
j19 ()
else
gd (¬ (q13 < 0 ∨ 6 ≤ q13.toNatClampNeg)) (
gd (¬ (q3 < 0 ∨ 6 ≤ q3.toNatClampNeg)) (
if (zI S (18, 0, 0) q3.toNatClampNeg) ≤ (zI S (18, 0, 0) q13.toNatClampNeg) then
j19 ()
else
st (q13 + (-1 : Int32)) fun x38 =>
some (.inl (x38)))) : Option ((Int32) ⊕ ((Int32) ⊕ (Int32 × zSt))))) 40000 (x12)
else
some (.inr (((0 : Int32), S))) : Option ((Int32) ⊕ (Int32 × zSt)))) fun j9 =>
if q3 < 0 then
j9 ()
else
gd (¬ (q3 < 0 ∨ 6 ≤ q3.toNatClampNeg)) (
gd (¬ ((q3 + (1 : Int32)) < 0 ∨ 6 ≤ (q3 + (1 : Int32)).toNatClampNeg)) (
if (zI S (18, 0, 0) q3.toNatClampNeg) ≤ (zI S (18, 0, 0) (q3 + (1 : Int32)).toNatClampNeg) then
j9 ()
else
st (q3 + (-1 : Int32)) fun x41 =>
some (.inl (x41)))) : Option ((Int32) ⊕ (Int32 × zSt)))) 40000 (x2)
abbrev rmX4_nextOrder : Room := { frames := 1, cells := 0, slots := 0, locals := 23 }
set_option maxHeartbeats 4000000 in
set_option maxRecDepth 100000 in
theorem tX4_nextOrder (l : Launch) (Γ : zG) (lo : zId → Nat) (S : zSt) (X : va_W)  (v_z : zV S (5, 0, 0) = true) {y : (Int32 × zSt)} (hf : fX4_nextOrder S  = some y) : Met l yX4_nextOrder wsX4_nextOrder rmX4_nextOrder (zP0 Γ lo S X [.ref (lo (5, 0, 0))]) (zQ0 Γ lo S y.2 X (some (.int y.1)) (y.1 = 0 ∨ y.1 = 1)) 0 0 (zA Γ) := by
  refine Met.ofW (cc := cX4_nextOrder) (maxL := 6) (ret := (some .boolean)) (by decide) rfl ?_
  intro p e s m args below meth c s₁ B hml hv
  obtain ⟨rfl, hW, hKK⟩ := hv
  have hx := B.exec
  have hb := B.bytes
  have hr := B.returns
  have hts := atoms_spec (ws := wsX4_nextOrder) B.pre
  have hown : s.vm.findClass RX4 = some m.cls := findClass_of_methodNamed B.named
  have hlocks := B.notSynchronized
  have hS : va_S (zA Γ) s.heap s.heap [] := va_S.rf
  have hm : ∀ c, zV S c = zV S c := fun _ => rfl
  have hl := lv_entry ([.ref (lo (5, 0, 0))]) (n := 6) (Nat.le_of_ble_eq_true rfl)
  rw [lg_entry_eq]
  generalize (lg_sl ([.ref (lo (5, 0, 0))]) ++ List.replicate (6 - (lg_sl ([.ref (lo (5, 0, 0))])).length) Slot.unset).toArray = ls at hl ⊢
  have hl : lv_has ls 6 [(0, .ref (lo (5, 0, 0)))] := hl
  obtain ⟨H, hH0⟩ : ∃ H, H = s.heap := ⟨_, rfl⟩
  obtain ⟨locs, hlo0⟩ : ∃ L : List Loc, L = [] := ⟨_, rfl⟩
  have hS : va_S (zA Γ) s.heap H locs := by rw [hH0, hlo0]; exact hS
  have hW : Wd Γ lo S X H := by rw [hH0]; exact hW
  rw [← hH0, ← hlo0]
  unfold fX4_nextOrder at hf
  refine lv_aload_n hx hb dX4_nextOrder_0 rfl (lv_at hl 0 rfl) ?_
  refine va_get hx hb hts ni_X4_nextOrder_X4 hown hKK.1 (wd_1 hW v_z) 0 rfl rfl 3 (by decide) (hts (.fieldLink RX4 21 "TiltRoute$Plan" "count" "I") (List.mem_of_getElem? (i := 1) rfl)) (fun _ h => h) rfl dX4_nextOrder_1 ?_
  refine lv_aload_n hx hb dX4_nextOrder_4 rfl (lv_at hl 0 rfl) ?_
  refine va_get hx hb hts ni_X4_nextOrder_X4 hown hKK.1 (wd_1 hW v_z) 0 rfl rfl 1 (by decide) (hts (.fieldLink RX4 15 "TiltRoute$Plan" "order" "[I") (List.mem_of_getElem? (i := 2) rfl)) (fun _ h => h) rfl dX4_nextOrder_5 ?_
  have v1 : zV S (18, 0, 0) = true := vf_5_1 hW v_z
  refine va_alen (v := 6) hx hb hKK.1 (wd_1 hW v1) 0 0 rfl rfl (show Int32.ofNat 6 = 6 by decide) dX4_nextOrder_8 ?_
  refine va_mmin hx hb (hml.trans hl.1.symm) hown (hts (.methodLink RX4 66 Lib.Math.min.name) (List.mem_of_getElem? (i := 3) rfl)) (hts (.static Lib.Math.min.name) (List.mem_of_getElem? (i := 4) rfl)) (hts (.initialized "java/lang/Math") (List.mem_of_getElem? (i := 5) rfl)) (hts (.code Lib.Math.min.name Lib.Math.min.code 2 (some .int)) (List.mem_of_getElem? (i := 6) rfl)) (by decide) (Nat.le_of_ble_eq_true rfl) (Nat.zero_le _) (Nat.zero_le _) dX4_nextOrder_9 ?_
  refine lv_iconst (v := (2)) hx hb dX4_nextOrder_12 (by decide) ?_
  refine lv_isub hx hb dX4_nextOrder_13 ?_
  obtain ⟨x2, ex2, hf⟩ := op_st hf
  refine z_istn (lv' := [(1, .int x2), (0, .ref (lo (5, 0, 0)))]) ex2 hx hb dX4_nextOrder_14 rfl hl (by decide) rfl (fun ls hl => ?_)
  obtain ⟨w5, q30, ew5, eq30, hf⟩ := op_lb hf
  have hw5 : ∀ n8 : Nat, ∀ (q3 : (Int32)) (H : Heap) (locs : List Loc) (ls : Array Slot), lv_has ls 6 [(1, .int q3), (0, .ref (lo (5, 0, 0)))] → Wd Γ lo S X H → va_S (zA Γ) s.heap H locs → (∀ c, zV S c = zV S c) → lp w5 n8 q3 = some y → W p l e (headSpec wsX4_nextOrder rmX4_nextOrder).room s m ([.ref (lo (5, 0, 0))] : List Value).toArray below meth c H locs 0 0 (MQ below (zQ0 Γ lo S y.2 X (some (.int y.1)) (y.1 = 0 ∨ y.1 = 1)) ([.ref (lo (5, 0, 0))] : List Value).toArray s 0 0 (zA Γ)) (F0 m 15 ls []) := by
    intro n8
    induction n8 with
    | zero => intro q3 H locs ls hl hW hS hm hf; cases hf
    | succ n8 ih6 =>
      intro q3 H locs ls hl hW hS hm hf
      obtain ⟨n_, r4, hn_, hf, hr7⟩ := op_lq hf
      cases hn_
      rw [ew5] at hf
      refine lv_iload_n hx hb dX4_nextOrder_15 rfl (lv_at hl 0 rfl) ?_
      obtain ⟨j9, ej9, hf⟩ := op_st hf
      have hj9 : ∀ (u_ : Unit) (H : Heap) (locs : List Loc) (ls : Array Slot), lv_has ls 6 [(1, .int q3), (0, .ref (lo (5, 0, 0)))] → Wd Γ lo S X H → va_S (zA Γ) s.heap H locs → (∀ c, zV S c = zV S c) → j9 () = some r4 → W p l e (headSpec wsX4_nextOrder rmX4_nextOrder).room s m ([.ref (lo (5, 0, 0))] : List Value).toArray below meth c H locs 0 0 (MQ below (zQ0 Γ lo S y.2 X (some (.int y.1)) (y.1 = 0 ∨ y.1 = 1)) ([.ref (lo (5, 0, 0))] : List Value).toArray s 0 0 (zA Γ)) (F0 m 42 ls []) := by
        intro u_ H locs ls  hl hW hS hm hf
        rw [ej9] at hf
        refine lv_iload_n hx hb dX4_nextOrder_42 rfl (lv_at hl 0 rfl) ?_
        refine lv_if_ge (tgt := 48) hx hb dX4_nextOrder_43 (by decide) (fun k43 => ?_) (fun k43 => ?_)
        · have hf := (op_if hf).1 k43
          refine lv_aload_n hx hb dX4_nextOrder_48 rfl (lv_at hl 1 rfl) ?_
          refine va_get hx hb hts ni_X4_nextOrder_X4 hown hKK.1 (wd_1 hW v_z) 0 rfl rfl 3 (by decide) (hts (.fieldLink RX4 21 "TiltRoute$Plan" "count" "I") (List.mem_of_getElem? (i := 1) rfl)) (fun _ h => h) rfl dX4_nextOrder_49 ?_
          refine lv_aload_n hx hb dX4_nextOrder_52 rfl (lv_at hl 1 rfl) ?_
          refine va_get hx hb hts ni_X4_nextOrder_X4 hown hKK.1 (wd_1 hW v_z) 0 rfl rfl 1 (by decide) (hts (.fieldLink RX4 15 "TiltRoute$Plan" "order" "[I") (List.mem_of_getElem? (i := 2) rfl)) (fun _ h => h) rfl dX4_nextOrder_53 ?_
          have v10 : zV S (18, 0, 0) = true := vf_5_1 hW v_z
          refine va_alen (v := 6) hx hb hKK.1 (wd_1 hW v10) 0 0 rfl rfl (show Int32.ofNat 6 = 6 by decide) dX4_nextOrder_56 ?_
          refine va_mmin hx hb (hml.trans hl.1.symm) hown (hts (.methodLink RX4 66 Lib.Math.min.name) (List.mem_of_getElem? (i := 3) rfl)) (hts (.static Lib.Math.min.name) (List.mem_of_getElem? (i := 4) rfl)) (hts (.initialized "java/lang/Math") (List.mem_of_getElem? (i := 5) rfl)) (hts (.code Lib.Math.min.name Lib.Math.min.code 2 (some .int)) (List.mem_of_getElem? (i := 6) rfl)) (by decide) (Nat.le_of_ble_eq_true rfl) (Nat.zero_le _) (Nat.zero_le _) dX4_nextOrder_57 ?_
          refine lv_iconst (v := (1)) hx hb dX4_nextOrder_60 (by decide) ?_
          refine lv_isub hx hb dX4_nextOrder_61 ?_
          obtain ⟨x11, ex11, hf⟩ := op_st hf
          refine z_istn (lv' := [(2, .int x11), (1, .int q3), (0, .ref (lo (5, 0, 0)))]) ex11 hx hb dX4_nextOrder_62 rfl hl (by decide) rfl (fun ls hl => ?_)
          refine lv_iload_n hx hb dX4_nextOrder_63 rfl (lv_at hl 0 rfl) ?_
          obtain ⟨x12, ex12, hf⟩ := op_st hf
          refine z_istn (lv' := [(3, .int x12), (2, .int x11), (1, .int q3), (0, .ref (lo (5, 0, 0)))]) ex12 hx hb dX4_nextOrder_64 rfl hl (by decide) rfl (fun ls hl => ?_)
          obtain ⟨w15, q130, ew15, eq130, hf⟩ := op_lb hf
          have hw15 : ∀ n18 : Nat, ∀ (q13 : (Int32)) (H : Heap) (locs : List Loc) (ls : Array Slot), lv_has ls 6 [(3, .int q13), (2, .int x11), (1, .int q3), (0, .ref (lo (5, 0, 0)))] → Wd Γ lo S X H → va_S (zA Γ) s.heap H locs → (∀ c, zV S c = zV S c) → lp w15 n18 q13 = some r4 → W p l e (headSpec wsX4_nextOrder rmX4_nextOrder).room s m ([.ref (lo (5, 0, 0))] : List Value).toArray below meth c H locs 0 0 (MQ below (zQ0 Γ lo S y.2 X (some (.int y.1)) (y.1 = 0 ∨ y.1 = 1)) ([.ref (lo (5, 0, 0))] : List Value).toArray s 0 0 (zA Γ)) (F0 m 65 ls []) := by
            intro n18
            induction n18 with
            | zero => intro q13 H locs ls hl hW hS hm hf; cases hf
            | succ n18 ih16 =>
              intro q13 H locs ls hl hW hS hm hf
              obtain ⟨n_, r14, hn_, hf, hr17⟩ := op_lq hf
              cases hn_
              rw [ew15] at hf
              refine lv_iload_n hx hb dX4_nextOrder_65 rfl (lv_at hl 0 rfl) ?_
              refine lv_iload_n hx hb dX4_nextOrder_66 rfl (lv_at hl 2 rfl) ?_
              obtain ⟨j19, ej19, hf⟩ := op_st hf
              have hj19 : ∀ (u_ : Unit) (H : Heap) (locs : List Loc) (ls : Array Slot), lv_has ls 6 [(3, .int q13), (2, .int x11), (1, .int q3), (0, .ref (lo (5, 0, 0)))] → Wd Γ lo S X H → va_S (zA Γ) s.heap H locs → (∀ c, zV S c = zV S c) → j19 () = some r14 → W p l e (headSpec wsX4_nextOrder rmX4_nextOrder).room s m ([.ref (lo (5, 0, 0))] : List Value).toArray below meth c H locs 0 0 (MQ below (zQ0 Γ lo S y.2 X (some (.int y.1)) (y.1 = 0 ∨ y.1 = 1)) ([.ref (lo (5, 0, 0))] : List Value).toArray s 0 0 (zA Γ)) (F0 m 91 ls []) := by
                intro u_ H locs ls  hl hW hS hm hf
                rw [ej19] at hf
                refine lv_aload_n hx hb dX4_nextOrder_91 rfl (lv_at hl 3 rfl) ?_
                refine lv_iload_n hx hb dX4_nextOrder_92 rfl (lv_at hl 2 rfl) ?_
                refine lv_iload_n hx hb dX4_nextOrder_93 rfl (lv_at hl 0 rfl) ?_
                obtain ⟨S22, hc21, hf⟩ := op_cl hf
                refine z_callV (As := [.int q3, .int q13]) (rest := []) ⟨hx, hb, hml, hown, hts⟩ (tX4_swapOrder l Γ lo S X v_z hc21) (cwV 2 hts gX4_nextOrder_X4_swapOrder rfl rfl rfl (by decide +kernel) ⟨Nat.le_of_ble_eq_true rfl, Nat.le_of_ble_eq_true rfl⟩) (wd_1 hW v_z) rfl hKK hW hS rfl hl.1 rfl (Nat.le_of_ble_eq_true rfl) dX4_nextOrder_94 ⟨Nat.zero_le _, Nat.zero_le _⟩ (fun H locs hW hS hm1 hE => ?_)
                have hm : ∀ c, zV S22 c = zV S c := hm1
                refine lv_iload_n hx hb dX4_nextOrder_97 rfl (lv_at hl 2 rfl) ?_
                refine lv_iconst (v := (1)) hx hb dX4_nextOrder_98 (by decide) ?_
                refine lv_iadd hx hb dX4_nextOrder_99 ?_
                obtain ⟨x23, ex23, hf⟩ := op_st hf
                refine z_ist (lv' := [(4, .int x23), (3, .int q13), (2, .int x11), (1, .int q3), (0, .ref (lo (5, 0, 0)))]) ex23 hx hb dX4_nextOrder_100 hl (by decide) rfl (fun ls hl => ?_)
                refine lv_iload_n hx hb dX4_nextOrder_102 rfl (lv_at hl 2 rfl) ?_
                obtain ⟨x24, ex24, hf⟩ := op_st hf
                refine z_ist (lv' := [(5, .int x24), (4, .int x23), (3, .int q13), (2, .int x11), (1, .int q3), (0, .ref (lo (5, 0, 0)))]) ex24 hx hb dX4_nextOrder_103 hl (by decide) rfl (fun ls hl => ?_)
                obtain ⟨w27, q250, ew27, eq250, hf⟩ := op_lb hf
                have hw27 : ∀ n30 : Nat, ∀ (q25 : (Int32 × Int32 × zSt)) (H : Heap) (locs : List Loc) (ls : Array Slot), lv_has ls 6 [(5, .int q25.2.1), (4, .int q25.1), (0, .ref (lo (5, 0, 0)))] → Wd Γ lo q25.2.2 X H → va_S (zA Γ) s.heap H locs → (∀ c, zV q25.2.2 c = zV S c) → lp w27 n30 q25 = some r14 → W p l e (headSpec wsX4_nextOrder rmX4_nextOrder).room s m ([.ref (lo (5, 0, 0))] : List Value).toArray below meth c H locs 0 0 (MQ below (zQ0 Γ lo S y.2 X (some (.int y.1)) (y.1 = 0 ∨ y.1 = 1)) ([.ref (lo (5, 0, 0))] : List Value).toArray s 0 0 (zA Γ)) (F0 m 105 ls []) := by
                  intro n30
                  induction n30 with
                  | zero => intro q25 H locs ls hl hW hS hm hf; cases hf
                  | succ n30 ih28 =>
                    intro q25 H locs ls hl hW hS hm hf
                    obtain ⟨n_, r26, hn_, hf, hr29⟩ := op_lq hf
                    cases hn_
                    rw [ew27] at hf
                    refine lv_iload hx hb dX4_nextOrder_105 (lv_at hl 1 rfl) ?_
                    refine lv_iload hx hb dX4_nextOrder_107 (lv_at hl 0 rfl) ?_
                    refine lv_icmp_ge (tgt := 129) hx hb dX4_nextOrder_109 (by decide) (fun k109 => ?_) (fun k109 => ?_)
                    · have hf := (op_if hf).1 k109
                      refine lv_iconst (v := (1)) hx hb dX4_nextOrder_129 (by decide) ?_
                      have hf := zr_r hf hr29
                      have hf := congrArg some hf
                      have hf := zr_r hf hr17
                      have hf := congrArg some hf
                      have hf := zr_r hf hr7
                      rw [← hf]
                      exact z_iret hx hb hr hlocks (z_bb (Or.inr rfl)) hW hS hm (Or.inr rfl) dX4_nextOrder_130
                    · have hf := (op_if hf).2 k109
                      refine lv_aload_n hx hb dX4_nextOrder_112 rfl (lv_at hl 2 rfl) ?_
                      refine lv_iload hx hb dX4_nextOrder_113 (lv_at hl 1 rfl) ?_
                      refine lv_iload hx hb dX4_nextOrder_115 (lv_at hl 0 rfl) ?_
                      obtain ⟨S33, hc32, hf⟩ := op_cl hf
                      refine z_callV (As := [.int q25.1, .int q25.2.1]) (rest := []) ⟨hx, hb, hml, hown, hts⟩ (tX4_swapOrder l Γ lo q25.2.2 X ((hm _).trans v_z) hc32) (cwV 2 hts gX4_nextOrder_X4_swapOrder rfl rfl rfl (by decide +kernel) ⟨Nat.le_of_ble_eq_true rfl, Nat.le_of_ble_eq_true rfl⟩) (wd_1 hW ((hm _).trans v_z)) rfl hKK hW hS rfl hl.1 rfl (Nat.le_of_ble_eq_true rfl) dX4_nextOrder_117 ⟨Nat.zero_le _, Nat.zero_le _⟩ (fun H locs hW hS hm1 hE => ?_)
                      have hm : ∀ c, zV S33 c = zV S c := fun c => (hm1 c).trans (hm c)
                      obtain ⟨x34, ex34, hf⟩ := op_st hf
                      refine lv_iinc (v := x34) (lv' := [(4, .int x34), (5, .int q25.2.1), (0, .ref (lo (5, 0, 0)))]) hx hb dX4_nextOrder_120 hl (k := 1) rfl (by rw [ex34]; rfl) (by decide) rfl (fun ls hl => ?_)
                      obtain ⟨x35, ex35, hf⟩ := op_st hf
                      refine lv_iinc (v := x35) (lv' := [(5, .int x35), (4, .int x34), (0, .ref (lo (5, 0, 0)))]) hx hb dX4_nextOrder_123 hl (k := 1) rfl (by rw [ex35]; rfl) (by decide) rfl (fun ls hl => ?_)
                      refine lv_goto (tgt := 105) hx hb dX4_nextOrder_126 (by decide) ?_
                      have hf := zr_l hf hr29
                      exact ih28 (x34, x35, S33) H locs ls (lv_sub hl [0, 1, 2] rfl) hW hS hm hf
                rw [eq250] at hf
                exact hw27 _ (x23, x24, S22) H locs ls (lv_sub hl [0, 1, 5] rfl) hW hS hm hf
              refine lv_icmp_le (tgt := 91) hx hb dX4_nextOrder_67 (by decide) (fun k67 => ?_) (fun k67 => ?_)
              · have hf := (op_if hf).1 k67
                exact hj19 () H locs ls  (lv_sub hl [0, 1, 2, 3] rfl) hW hS hm hf
              · have hf := (op_if hf).2 k67
                refine lv_aload_n hx hb dX4_nextOrder_70 rfl (lv_at hl 3 rfl) ?_
                refine va_get hx hb hts ni_X4_nextOrder_X4 hown hKK.1 (wd_1 hW v_z) 0 rfl rfl 1 (by decide) (hts (.fieldLink RX4 15 "TiltRoute$Plan" "order" "[I") (List.mem_of_getElem? (i := 2) rfl)) (fun _ h => h) rfl dX4_nextOrder_71 ?_
                have v36 : zV S (18, 0, 0) = true := vf_5_1 hW v_z
                refine lv_iload_n hx hb dX4_nextOrder_74 rfl (lv_at hl 0 rfl) ?_
                obtain ⟨h75, hf⟩ := op_gd hf
                refine va_iald hx hb hKK.1 (wd_1 hW v36) 0 0 (n := 6) rfl rfl h75 dX4_nextOrder_75 ?_
                refine lv_aload_n hx hb dX4_nextOrder_76 rfl (lv_at hl 3 rfl) ?_
                refine va_get hx hb hts ni_X4_nextOrder_X4 hown hKK.1 (wd_1 hW v_z) 0 rfl rfl 1 (by decide) (hts (.fieldLink RX4 15 "TiltRoute$Plan" "order" "[I") (List.mem_of_getElem? (i := 2) rfl)) (fun _ h => h) rfl dX4_nextOrder_77 ?_
                have v37 : zV S (18, 0, 0) = true := vf_5_1 hW v_z
                refine lv_iload_n hx hb dX4_nextOrder_80 rfl (lv_at hl 2 rfl) ?_
                obtain ⟨h81, hf⟩ := op_gd hf
                refine va_iald hx hb hKK.1 (wd_1 hW v37) 0 0 (n := 6) rfl rfl h81 dX4_nextOrder_81 ?_
                refine lv_icmp_ge (tgt := 91) hx hb dX4_nextOrder_82 (by decide) (fun k82 => ?_) (fun k82 => ?_)
                · have hf := (op_if hf).1 k82
                  exact hj19 () H locs ls  (lv_sub hl [0, 1, 2, 3] rfl) hW hS hm hf
                · have hf := (op_if hf).2 k82
                  obtain ⟨x38, ex38, hf⟩ := op_st hf
                  refine lv_iinc (v := x38) (lv' := [(3, .int x38), (2, .int x11), (1, .int q3), (0, .ref (lo (5, 0, 0)))]) hx hb dX4_nextOrder_85 hl (k := 0) rfl (by rw [ex38]; rfl) (by decide) rfl (fun ls hl => ?_)
                  refine lv_goto (tgt := 65) hx hb dX4_nextOrder_88 (by decide) ?_
                  have hf := zr_l hf hr17
                  exact ih16 (x38) H locs ls (lv_sub hl [0, 1, 2, 3] rfl) hW hS hm hf
          rw [eq130] at hf
          exact hw15 _ (x12) H locs ls (lv_sub hl [0, 1, 2, 3] rfl) hW hS hm hf
        · have hf := (op_if hf).2 k43
          refine lv_iconst (v := (0)) hx hb dX4_nextOrder_46 (by decide) ?_
          have hf := zr_r hf hr7
          rw [← hf]
          exact z_iret hx hb hr hlocks (z_bb (Or.inl rfl)) hW hS hm (Or.inl rfl) dX4_nextOrder_47
      refine lv_if_lt (tgt := 42) hx hb dX4_nextOrder_16 (by decide) (fun k16 => ?_) (fun k16 => ?_)
      · have hf := (op_if hf).1 k16
        exact hj9 () H locs ls  (lv_sub hl [0, 1] rfl) hW hS hm hf
      · have hf := (op_if hf).2 k16
        refine lv_aload_n hx hb dX4_nextOrder_19 rfl (lv_at hl 1 rfl) ?_
        refine va_get hx hb hts ni_X4_nextOrder_X4 hown hKK.1 (wd_1 hW v_z) 0 rfl rfl 1 (by decide) (hts (.fieldLink RX4 15 "TiltRoute$Plan" "order" "[I") (List.mem_of_getElem? (i := 2) rfl)) (fun _ h => h) rfl dX4_nextOrder_20 ?_
        have v39 : zV S (18, 0, 0) = true := vf_5_1 hW v_z
        refine lv_iload_n hx hb dX4_nextOrder_23 rfl (lv_at hl 0 rfl) ?_
        obtain ⟨h24, hf⟩ := op_gd hf
        refine va_iald hx hb hKK.1 (wd_1 hW v39) 0 0 (n := 6) rfl rfl h24 dX4_nextOrder_24 ?_
        refine lv_aload_n hx hb dX4_nextOrder_25 rfl (lv_at hl 1 rfl) ?_
        refine va_get hx hb hts ni_X4_nextOrder_X4 hown hKK.1 (wd_1 hW v_z) 0 rfl rfl 1 (by decide) (hts (.fieldLink RX4 15 "TiltRoute$Plan" "order" "[I") (List.mem_of_getElem? (i := 2) rfl)) (fun _ h => h) rfl dX4_nextOrder_26 ?_
        have v40 : zV S (18, 0, 0) = true := vf_5_1 hW v_z
        refine lv_iload_n hx hb dX4_nextOrder_29 rfl (lv_at hl 0 rfl) ?_
        refine lv_iconst (v := (1)) hx hb dX4_nextOrder_30 (by decide) ?_
        refine lv_iadd hx hb dX4_nextOrder_31 ?_
        obtain ⟨h32, hf⟩ := op_gd hf
        refine va_iald hx hb hKK.1 (wd_1 hW v40) 0 0 (n := 6) rfl rfl h32 dX4_nextOrder_32 ?_
        refine lv_icmp_le (tgt := 42) hx hb dX4_nextOrder_33 (by decide) (fun k33 => ?_) (fun k33 => ?_)
        · have hf := (op_if hf).1 k33
          exact hj9 () H locs ls  (lv_sub hl [0, 1] rfl) hW hS hm hf
        · have hf := (op_if hf).2 k33
          obtain ⟨x41, ex41, hf⟩ := op_st hf
          refine lv_iinc (v := x41) (lv' := [(1, .int x41), (0, .ref (lo (5, 0, 0)))]) hx hb dX4_nextOrder_36 hl (k := 0) rfl (by rw [ex41]; rfl) (by decide) rfl (fun ls hl => ?_)
          refine lv_goto (tgt := 15) hx hb dX4_nextOrder_39 (by decide) ?_
          have hf := zr_l hf hr7
          exact ih6 (x41) H locs ls (lv_sub hl [0, 1] rfl) hW hS hm hf
  rw [eq30] at hf
  exact hw5 _ (x2) H locs ls (lv_sub hl [0, 1] rfl) hW hS hm hf

theorem ni_X4_search_X4 : ∀ w ∈ wsX40, w ∈ wsX4_search := by decide +kernel
def fX4_search (S : zSt) (i_2 : Int32) : Option zSt :=
cl (fX4_gather S) fun S3 =>
cl (fX4_measureOrder S3 i_2) fun r4 =>
st (pI S3 (5, 0, 0) 4 r4) fun S6 =>
cl (fX4_keepOrder S6) fun S9 =>
st (1 : Int32) fun x10 =>
lp (fun (q11 : (Int32 × zSt)) => (if (720 : Int32) ≤ q11.1 then
some (.inr (q11.2))
else
cl2 (fX4_nextOrder q11.2) fun r17 S19 =>
if r17 = 0 then
some (.inr (S19))
else
cl (fX4_measureOrder S19 i_2) fun r21 =>
st r21 fun x23 =>
st (fun (S24 : zSt) => (st (q11.1 + (1 : Int32)) fun x26 =>
some (.inl (x26, S24)) : Option ((Int32 × zSt) ⊕ zSt))) fun j25 =>
if (zI S19 (5, 0, 0) 4) ≤ x23 then
j25 S19
else
st (pI S19 (5, 0, 0) 4 x23) fun S27 =>
cl (fX4_keepOrder S27) fun S30 =>
j25 S30 : Option ((Int32 × zSt) ⊕ zSt))) 40000 (x10, S9)
abbrev rmX4_search : Room := { frames := 6, cells := 0, slots := 0, locals := 131 }
set_option maxHeartbeats 4000000 in
set_option maxRecDepth 100000 in
theorem tX4_search (l : Launch) (Γ : zG) (lo : zId → Nat) (S : zSt) (X : va_W) {i_2 : Int32} (v_z : zV S (5, 0, 0) = true) (v_1 : zV S (0, 0, 0) = true) {y : zSt} (hf : fX4_search S i_2 = some y) : Met l yX4_search wsX4_search rmX4_search (zP0 Γ lo S X [.ref (lo (5, 0, 0)), .ref (lo (0, 0, 0)), .int i_2]) (zQ0 Γ lo S y X none True) 0 0 (zA Γ) := by
  refine Met.ofW (cc := cX4_search) (maxL := 5) (ret := none) (by decide) rfl ?_
  intro p e s m args below meth c s₁ B hml hv
  obtain ⟨rfl, hW, hKK⟩ := hv
  have hx := B.exec
  have hb := B.bytes
  have hr := B.returns
  have hts := atoms_spec (ws := wsX4_search) B.pre
  have hown : s.vm.findClass RX4 = some m.cls := findClass_of_methodNamed B.named
  have hlocks := B.notSynchronized
  have hS : va_S (zA Γ) s.heap s.heap [] := va_S.rf
  have hm : ∀ c, zV S c = zV S c := fun _ => rfl
  have hl := lv_entry ([.ref (lo (5, 0, 0)), .ref (lo (0, 0, 0)), .int i_2]) (n := 5) (Nat.le_of_ble_eq_true rfl)
  rw [lg_entry_eq]
  generalize (lg_sl ([.ref (lo (5, 0, 0)), .ref (lo (0, 0, 0)), .int i_2]) ++ List.replicate (5 - (lg_sl ([.ref (lo (5, 0, 0)), .ref (lo (0, 0, 0)), .int i_2])).length) Slot.unset).toArray = ls at hl ⊢
  have hl : lv_has ls 5 [(0, .ref (lo (5, 0, 0))), (1, .ref (lo (0, 0, 0))), (2, .int i_2)] := hl
  obtain ⟨H, hH0⟩ : ∃ H, H = s.heap := ⟨_, rfl⟩
  obtain ⟨locs, hlo0⟩ : ∃ L : List Loc, L = [] := ⟨_, rfl⟩
  have hS : va_S (zA Γ) s.heap H locs := by rw [hH0, hlo0]; exact hS
  have hW : Wd Γ lo S X H := by rw [hH0]; exact hW
  rw [← hH0, ← hlo0]
  unfold fX4_search at hf
  refine lv_aload_n hx hb dX4_search_0 rfl (lv_at hl 0 rfl) ?_
  refine lv_aload_n hx hb dX4_search_1 rfl (lv_at hl 1 rfl) ?_
  obtain ⟨S3, hc2, hf⟩ := op_cl hf
  refine z_callV (As := [.ref (lo (0, 0, 0))]) (rest := []) ⟨hx, hb, hml, hown, hts⟩ (tX4_gather l Γ lo S X v_z v_1 hc2) (cwV 1 hts gX4_search_X4_gather rfl rfl rfl (by decide +kernel) ⟨Nat.le_of_ble_eq_true rfl, Nat.le_of_ble_eq_true rfl⟩) (wd_1 hW v_z) rfl hKK hW hS rfl hl.1 rfl (Nat.le_of_ble_eq_true rfl) dX4_search_2 ⟨Nat.zero_le _, Nat.zero_le _⟩ (fun H locs hW hS hm1 hE => ?_)
  have hm : ∀ c, zV S3 c = zV S c := hm1
  refine lv_aload_n hx hb dX4_search_5 rfl (lv_at hl 0 rfl) ?_
  refine lv_aload_n hx hb dX4_search_6 rfl (lv_at hl 0 rfl) ?_
  refine lv_iload_n hx hb dX4_search_7 rfl (lv_at hl 2 rfl) ?_
  obtain ⟨r4, hc5, hf⟩ := op_cl hf
  refine z_callV (As := [.int i_2]) (rest := [.ref (lo (5, 0, 0))]) ⟨hx, hb, hml, hown, hts⟩ (tX4_measureOrder l Γ lo S3 X ((hm _).trans v_z) hc5) (cwV 1 hts gX4_search_X4_measureOrder rfl rfl rfl (by decide +kernel) ⟨Nat.le_of_ble_eq_true rfl, Nat.le_of_ble_eq_true rfl⟩) (wd_1 hW ((hm _).trans v_z)) rfl hKK hW hS rfl hl.1 rfl (Nat.le_of_ble_eq_true rfl) dX4_search_8 ⟨Nat.zero_le _, Nat.zero_le _⟩ (fun H locs hW hS hm1 hE => ?_)
  obtain ⟨S6, eS6, hf⟩ := op_st hf
  refine g_put hx hb hts ni_X4_search_X4 tyX4 tyX4_ok nmX4 hown hKK.1 hW hS ((hm _).trans v_z) rfl rfl 4 (by decide) (hts (.fieldLink RX4 25 "TiltRoute$Plan" "length" "I") (List.mem_of_getElem? (i := 1) rfl)) rfl rfl rfl (show 4 < 5 by decide) rfl dX4_search_11 eS6 (fun H locs hW hS => ?_)
  have hm : ∀ c, zV S6 c = zV S c := fun c => by rw [eS6]; exact hm c
  refine lv_aload_n hx hb dX4_search_14 rfl (lv_at hl 0 rfl) ?_
  obtain ⟨S9, hc8, hf⟩ := op_cl hf
  refine z_callV (As := []) (rest := []) ⟨hx, hb, hml, hown, hts⟩ (tX4_keepOrder l Γ lo S6 X ((hm _).trans v_z) hc8) (cwV 0 hts gX4_search_X4_keepOrder rfl rfl rfl (by decide +kernel) ⟨Nat.le_of_ble_eq_true rfl, Nat.le_of_ble_eq_true rfl⟩) (wd_1 hW ((hm _).trans v_z)) rfl hKK hW hS rfl hl.1 rfl (Nat.le_of_ble_eq_true rfl) dX4_search_15 ⟨Nat.zero_le _, Nat.zero_le _⟩ (fun H locs hW hS hm1 hE => ?_)
  have hm : ∀ c, zV S9 c = zV S c := fun c => (hm1 c).trans (hm c)
  refine lv_iconst (v := (1)) hx hb dX4_search_18 (by decide) ?_
  obtain ⟨x10, ex10, hf⟩ := op_st hf
  have bx10 : x10 = 0 ∨ x10 = 1 := Or.inr ex10
  refine z_istn (lv' := [(3, .int x10), (0, .ref (lo (5, 0, 0))), (1, .ref (lo (0, 0, 0))), (2, .int i_2)]) ex10 hx hb dX4_search_19 rfl hl (by decide) rfl (fun ls hl => ?_)
  obtain ⟨w13, q110, ew13, eq110, hf⟩ := op_lb hf
  have hw13 : ∀ n16 : Nat, ∀ (q11 : (Int32 × zSt)) (H : Heap) (locs : List Loc) (ls : Array Slot), lv_has ls 5 [(3, .int q11.1), (0, .ref (lo (5, 0, 0))), (2, .int i_2)] → Wd Γ lo q11.2 X H → va_S (zA Γ) s.heap H locs → (∀ c, zV q11.2 c = zV S c) → lp w13 n16 q11 = some y → W p l e (headSpec wsX4_search rmX4_search).room s m ([.ref (lo (5, 0, 0)), .ref (lo (0, 0, 0)), .int i_2] : List Value).toArray below meth c H locs 0 0 (MQ below (zQ0 Γ lo S y X none True) ([.ref (lo (5, 0, 0)), .ref (lo (0, 0, 0)), .int i_2] : List Value).toArray s 0 0 (zA Γ)) (F0 m 20 ls []) := by
    intro n16
    induction n16 with
    | zero => intro q11 H locs ls hl hW hS hm hf; cases hf
    | succ n16 ih14 =>
      intro q11 H locs ls hl hW hS hm hf
      obtain ⟨n_, r12, hn_, hf, hr15⟩ := op_lq hf
      cases hn_
      rw [ew13] at hf
      refine lv_iload_n hx hb dX4_search_20 rfl (lv_at hl 0 rfl) ?_
      refine lv_sipush (v := (720)) hx hb dX4_search_21 (by decide) ?_
      refine lv_icmp_ge (tgt := 66) hx hb dX4_search_24 (by decide) (fun k24 => ?_) (fun k24 => ?_)
      · have hf := (op_if hf).1 k24
        have hf := zr_r hf hr15
        rw [← hf]
        exact z_vret hx hb hr hlocks hW hS hm trivial dX4_search_66
      · have hf := (op_if hf).2 k24
        refine lv_aload_n hx hb dX4_search_27 rfl (lv_at hl 1 rfl) ?_
        obtain ⟨r17, S19, hc18, hf⟩ := op_cl2 hf
        refine z_callV (As := []) (rest := []) ⟨hx, hb, hml, hown, hts⟩ (tX4_nextOrder l Γ lo q11.2 X ((hm _).trans v_z) hc18) (cwV 0 hts gX4_search_X4_nextOrder rfl rfl rfl (by decide +kernel) ⟨Nat.le_of_ble_eq_true rfl, Nat.le_of_ble_eq_true rfl⟩) (wd_1 hW ((hm _).trans v_z)) rfl hKK hW hS rfl hl.1 rfl (Nat.le_of_ble_eq_true rfl) dX4_search_28 ⟨Nat.zero_le _, Nat.zero_le _⟩ (fun H locs hW hS hm1 hE => ?_)
        have hm : ∀ c, zV S19 c = zV S c := fun c => (hm1 c).trans (hm c)
        have b20 := hE
        refine lv_if_eq (tgt := 66) hx hb dX4_search_31 (by decide) (fun k31 => ?_) (fun k31 => ?_)
        · have hf := (op_if hf).1 k31
          have hf := zr_r hf hr15
          rw [← hf]
          exact z_vret hx hb hr hlocks hW hS hm trivial dX4_search_66
        · have hf := (op_if hf).2 k31
          refine lv_aload_n hx hb dX4_search_34 rfl (lv_at hl 1 rfl) ?_
          refine lv_iload_n hx hb dX4_search_35 rfl (lv_at hl 2 rfl) ?_
          obtain ⟨r21, hc22, hf⟩ := op_cl hf
          refine z_callV (As := [.int i_2]) (rest := []) ⟨hx, hb, hml, hown, hts⟩ (tX4_measureOrder l Γ lo S19 X ((hm _).trans v_z) hc22) (cwV 1 hts gX4_search_X4_measureOrder rfl rfl rfl (by decide +kernel) ⟨Nat.le_of_ble_eq_true rfl, Nat.le_of_ble_eq_true rfl⟩) (wd_1 hW ((hm _).trans v_z)) rfl hKK hW hS rfl hl.1 rfl (Nat.le_of_ble_eq_true rfl) dX4_search_36 ⟨Nat.zero_le _, Nat.zero_le _⟩ (fun H locs hW hS hm1 hE => ?_)
          obtain ⟨x23, ex23, hf⟩ := op_st hf
          refine z_ist (lv' := [(4, .int x23), (3, .int q11.1), (0, .ref (lo (5, 0, 0))), (2, .int i_2)]) ex23 hx hb dX4_search_39 hl (by decide) rfl (fun ls hl => ?_)
          refine lv_iload hx hb dX4_search_41 (lv_at hl 0 rfl) ?_
          refine lv_aload_n hx hb dX4_search_43 rfl (lv_at hl 2 rfl) ?_
          refine va_get hx hb hts ni_X4_search_X4 hown hKK.1 (wd_1 hW ((hm _).trans v_z)) 0 rfl rfl 4 (by decide) (hts (.fieldLink RX4 25 "TiltRoute$Plan" "length" "I") (List.mem_of_getElem? (i := 1) rfl)) (fun _ h => h) rfl dX4_search_44 ?_
          obtain ⟨j25, ej25, hf⟩ := op_st hf
          have hj25 : ∀ (S24 : zSt) (H : Heap) (locs : List Loc) (ls : Array Slot), lv_has ls 5 [(3, .int q11.1), (0, .ref (lo (5, 0, 0))), (2, .int i_2)] → Wd Γ lo S24 X H → va_S (zA Γ) s.heap H locs → (∀ c, zV S24 c = zV S c) → j25 S24 = some r12 → W p l e (headSpec wsX4_search rmX4_search).room s m ([.ref (lo (5, 0, 0)), .ref (lo (0, 0, 0)), .int i_2] : List Value).toArray below meth c H locs 0 0 (MQ below (zQ0 Γ lo S y X none True) ([.ref (lo (5, 0, 0)), .ref (lo (0, 0, 0)), .int i_2] : List Value).toArray s 0 0 (zA Γ)) (F0 m 60 ls []) := by
            intro S24 H locs ls  hl hW hS hm hf
            rw [ej25] at hf
            obtain ⟨x26, ex26, hf⟩ := op_st hf
            refine lv_iinc (v := x26) (lv' := [(3, .int x26), (0, .ref (lo (5, 0, 0))), (2, .int i_2)]) hx hb dX4_search_60 hl (k := 0) rfl (by rw [ex26]; rfl) (by decide) rfl (fun ls hl => ?_)
            refine lv_goto (tgt := 20) hx hb dX4_search_63 (by decide) ?_
            have hf := zr_l hf hr15
            exact ih14 (x26, S24) H locs ls (lv_sub hl [0, 1, 2] rfl) hW hS hm hf
          refine lv_icmp_ge (tgt := 60) hx hb dX4_search_47 (by decide) (fun k47 => ?_) (fun k47 => ?_)
          · have hf := (op_if hf).1 k47
            exact hj25 S19 H locs ls  (lv_sub hl [1, 2, 3] rfl) hW hS hm hf
          · have hf := (op_if hf).2 k47
            refine lv_aload_n hx hb dX4_search_50 rfl (lv_at hl 2 rfl) ?_
            refine lv_iload hx hb dX4_search_51 (lv_at hl 0 rfl) ?_
            obtain ⟨S27, eS27, hf⟩ := op_st hf
            refine g_put hx hb hts ni_X4_search_X4 tyX4 tyX4_ok nmX4 hown hKK.1 hW hS ((hm _).trans v_z) rfl rfl 4 (by decide) (hts (.fieldLink RX4 25 "TiltRoute$Plan" "length" "I") (List.mem_of_getElem? (i := 1) rfl)) rfl rfl rfl (show 4 < 5 by decide) rfl dX4_search_53 eS27 (fun H locs hW hS => ?_)
            have hm : ∀ c, zV S27 c = zV S c := fun c => by rw [eS27]; exact hm c
            refine lv_aload_n hx hb dX4_search_56 rfl (lv_at hl 2 rfl) ?_
            obtain ⟨S30, hc29, hf⟩ := op_cl hf
            refine z_callV (As := []) (rest := []) ⟨hx, hb, hml, hown, hts⟩ (tX4_keepOrder l Γ lo S27 X ((hm _).trans v_z) hc29) (cwV 0 hts gX4_search_X4_keepOrder rfl rfl rfl (by decide +kernel) ⟨Nat.le_of_ble_eq_true rfl, Nat.le_of_ble_eq_true rfl⟩) (wd_1 hW ((hm _).trans v_z)) rfl hKK hW hS rfl hl.1 rfl (Nat.le_of_ble_eq_true rfl) dX4_search_57 ⟨Nat.zero_le _, Nat.zero_le _⟩ (fun H locs hW hS hm1 hE => ?_)
            have hm : ∀ c, zV S30 c = zV S c := fun c => (hm1 c).trans (hm c)
            exact hj25 S30 H locs ls  (lv_sub hl [1, 2, 3] rfl) hW hS hm hf
  rw [eq110] at hf
  exact hw13 _ (x10, S9) H locs ls (lv_sub hl [0, 1, 3] rfl) hW hS hm hf

theorem ni_X9_hitBumper_X1 : ∀ w ∈ wsX10, w ∈ wsX9_hitBumper := by decide +kernel
theorem ni_X9_hitBumper_X7 : ∀ w ∈ wsX70, w ∈ wsX9_hitBumper := by decide +kernel
def fX9_hitBumper (S : zSt) (a_1 : Nat) (a_2 : Nat) (i_3 : Int32) (i_4 : Int32) : Option zSt :=
if i_3 < 0 then
some (S)
else
cl (fJ_size S (a_1 + 2)) fun r2 =>
if i_3 < r2 then
cl (fJ_get S (a_1 + 2) i_3) fun r5 =>
st (pI S (2, a_1, r5) 5 ((zI S (2, a_1, r5) 5) + (1 : Int32))) fun S8 =>
if (zI S8 (2, a_1, r5) 6) = (-1 : Int32) then
cl (fX2_closeSwitch S8 a_2 i_3 i_4 (-1 : Int32)) fun S11 =>
some (S11)
else
some (S8)
else
some (S)
abbrev rmX9_hitBumper : Room := { frames := 4, cells := 0, slots := 0, locals := 93 }
set_option maxHeartbeats 4000000 in
set_option maxRecDepth 100000 in
theorem tX9_hitBumper (l : Launch) (Γ : zG) (lo : zId → Nat) (S : zSt) (X : va_W) {a_1 : Nat} {a_2 : Nat} {i_3 : Int32} {i_4 : Int32} (v_1 : zV S (8, a_1, 0) = true) (v_2 : zV S (3, a_2, 0) = true) {y : zSt} (hf : fX9_hitBumper S a_1 a_2 i_3 i_4 = some y) : Met l yX9_hitBumper wsX9_hitBumper rmX9_hitBumper (zP0 Γ lo S X [.ref (lo (8, a_1, 0)), .ref (lo (3, a_2, 0)), .int i_3, .int i_4]) (zQ0 Γ lo S y X none True) 0 0 (zA Γ) := by
  refine Met.ofW (cc := cX9_hitBumper) (maxL := 5) (ret := none) (by decide) rfl ?_
  intro p e s m args below meth c s₁ B hml hv
  obtain ⟨rfl, hW, hKK⟩ := hv
  have hx := B.exec
  have hb := B.bytes
  have hr := B.returns
  have hts := atoms_spec (ws := wsX9_hitBumper) B.pre
  have hown : s.vm.findClass RX9 = some m.cls := findClass_of_methodNamed B.named
  have hlocks := B.notSynchronized
  have hS : va_S (zA Γ) s.heap s.heap [] := va_S.rf
  have hm : ∀ c, zV S c = zV S c := fun _ => rfl
  have hl := lv_entry ([.ref (lo (8, a_1, 0)), .ref (lo (3, a_2, 0)), .int i_3, .int i_4]) (n := 5) (Nat.le_of_ble_eq_true rfl)
  rw [lg_entry_eq]
  generalize (lg_sl ([.ref (lo (8, a_1, 0)), .ref (lo (3, a_2, 0)), .int i_3, .int i_4]) ++ List.replicate (5 - (lg_sl ([.ref (lo (8, a_1, 0)), .ref (lo (3, a_2, 0)), .int i_3, .int i_4])).length) Slot.unset).toArray = ls at hl ⊢
  have hl : lv_has ls 5 [(0, .ref (lo (8, a_1, 0))), (1, .ref (lo (3, a_2, 0))), (2, .int i_3), (3, .int i_4)] := hl
  obtain ⟨H, hH0⟩ : ∃ H, H = s.heap := ⟨_, rfl⟩
  obtain ⟨locs, hlo0⟩ : ∃ L : List Loc, L = [] := ⟨_, rfl⟩
  have hS : va_S (zA Γ) s.heap H locs := by rw [hH0, hlo0]; exact hS
  have hW : Wd Γ lo S X H := by rw [hH0]; exact hW
  rw [← hH0, ← hlo0]
  unfold fX9_hitBumper at hf
  refine lv_iload_n hx hb dX9_hitBumper_0 rfl (lv_at hl 2 rfl) ?_
  refine lv_if_lt (tgt := 15) hx hb dX9_hitBumper_1 (by decide) (fun k1 => ?_) (fun k1 => ?_)
  · have hf := (op_if hf).1 k1
    have hf := Option.some.inj hf
    rw [← hf]
    exact z_vret hx hb hr hlocks hW hS hm trivial dX9_hitBumper_15
  · have hf := (op_if hf).2 k1
    refine lv_iload_n hx hb dX9_hitBumper_4 rfl (lv_at hl 2 rfl) ?_
    refine lv_aload_n hx hb dX9_hitBumper_5 rfl (lv_at hl 0 rfl) ?_
    refine va_get hx hb hts ni_X9_hitBumper_X7 hown hKK.1 (wd_1 hW v_1) 0 rfl rfl 2 (by decide) (hts (.fieldLink RX9 87 "TiltRoute$Table" "bumpers" "Ljava/util/ArrayList;") (List.mem_of_getElem? (i := 1) rfl)) (fun _ h => h) rfl dX9_hitBumper_6 ?_
    have v1 : zV S (0, (a_1 + 2), 0) = true := vf_8_2 hW v_1
    obtain ⟨r2, hc3, hf⟩ := op_cl hf
    refine z_callV (As := []) (rest := [.int i_3]) ⟨hx, hb, hml, hown, hts⟩ (tJ_size l Γ lo S X v1 hc3) (cwV 0 hts gX9_hitBumper_Jx4a65c_size_8abf5 rfl rfl rfl (by decide +kernel) ⟨Nat.le_of_ble_eq_true rfl, Nat.le_of_ble_eq_true rfl⟩) (wd_1 hW v1) rfl hKK hW hS rfl hl.1 rfl (Nat.le_of_ble_eq_true rfl) dX9_hitBumper_9 ⟨Nat.zero_le _, Nat.zero_le _⟩ (fun H locs hW hS hm1 hE => ?_)
    refine lv_icmp_lt (tgt := 16) hx hb dX9_hitBumper_12 (by decide) (fun k12 => ?_) (fun k12 => ?_)
    · have hf := (op_if hf).1 k12
      refine lv_aload_n hx hb dX9_hitBumper_16 rfl (lv_at hl 0 rfl) ?_
      refine va_get hx hb hts ni_X9_hitBumper_X7 hown hKK.1 (wd_1 hW v_1) 0 rfl rfl 2 (by decide) (hts (.fieldLink RX9 87 "TiltRoute$Table" "bumpers" "Ljava/util/ArrayList;") (List.mem_of_getElem? (i := 1) rfl)) (fun _ h => h) rfl dX9_hitBumper_17 ?_
      have v4 : zV S (0, (a_1 + 2), 0) = true := vf_8_2 hW v_1
      refine lv_iload_n hx hb dX9_hitBumper_20 rfl (lv_at hl 2 rfl) ?_
      obtain ⟨r5, hc6, hf⟩ := op_cl hf
      refine z_callV (As := [.int i_3]) (rest := []) ⟨hx, hb, hml, hown, hts⟩ (tJ_get l Γ lo S X v4 hc6) (cwV 1 hts gX9_hitBumper_Jx4a65c_get_915e3 rfl rfl rfl (by decide +kernel) ⟨Nat.le_of_ble_eq_true rfl, Nat.le_of_ble_eq_true rfl⟩) (wd_1 hW v4) rfl hKK hW hS rfl hl.1 rfl (Nat.le_of_ble_eq_true rfl) dX9_hitBumper_21 ⟨Nat.zero_le _, Nat.zero_le _⟩ (fun H locs hW hS hm1 hE => ?_)
      have v7 : zV S (2, a_1, r5) = true := hE
      refine va_castE hx hb hown (hts (.classLink RX9 92 "TiltRoute$Bumper") (List.mem_of_getElem? (i := 2) rfl)) (va_recv (q0 := 0) hKK.1 (wd_1 hW v7) (ci := 2) rfl rfl) dX9_hitBumper_24 ?_
      refine lv_astore (lv' := [(4, .ref (lo (2, a_1, r5))), (0, .ref (lo (8, a_1, 0))), (1, .ref (lo (3, a_2, 0))), (2, .int i_3), (3, .int i_4)]) hx hb dX9_hitBumper_27 hl (by decide) rfl (fun ls hl => ?_)
      refine lv_aload hx hb dX9_hitBumper_29 (lv_at hl 0 rfl) ?_
      refine lv_dup hx hb dX9_hitBumper_31 rfl ?_
      refine va_get hx hb hts ni_X9_hitBumper_X1 hown hKK.1 (wd_1 hW v7) 0 rfl rfl 5 (by decide) (hts (.fieldLink RX9 138 "TiltRoute$Bumper" "wear" "I") (List.mem_of_getElem? (i := 3) rfl)) (fun _ h => h) rfl dX9_hitBumper_32 ?_
      refine lv_iconst (v := (1)) hx hb dX9_hitBumper_35 (by decide) ?_
      refine lv_iadd hx hb dX9_hitBumper_36 ?_
      obtain ⟨S8, eS8, hf⟩ := op_st hf
      refine g_put hx hb hts ni_X9_hitBumper_X1 tyX1 tyX1_ok nmX1 hown hKK.1 hW hS v7 rfl rfl 5 (by decide) (hts (.fieldLink RX9 138 "TiltRoute$Bumper" "wear" "I") (List.mem_of_getElem? (i := 3) rfl)) rfl rfl rfl (show 5 < 7 by decide) rfl dX9_hitBumper_37 eS8 (fun H locs hW hS => ?_)
      have hm : ∀ c, zV S8 c = zV S c := fun c => by rw [eS8]; rfl
      refine lv_aload hx hb dX9_hitBumper_40 (lv_at hl 0 rfl) ?_
      refine va_get hx hb hts ni_X9_hitBumper_X1 hown hKK.1 (wd_1 hW ((hm _).trans v7)) 0 rfl rfl 6 (by decide) (hts (.fieldLink RX9 131 "TiltRoute$Bumper" "sticking" "I") (List.mem_of_getElem? (i := 4) rfl)) (fun _ h => h) rfl dX9_hitBumper_42 ?_
      refine lv_iconst (v := (-1)) hx hb dX9_hitBumper_45 (by decide) ?_
      refine lv_icmp_ne (tgt := 56) hx hb dX9_hitBumper_46 (by decide) (fun k46 => ?_) (fun k46 => ?_)
      · have hf := (op_if hf).2 k46
        have hf := Option.some.inj hf
        rw [← hf]
        exact z_vret hx hb hr hlocks hW hS hm trivial dX9_hitBumper_56
      · have hf := (op_if hf).1 k46
        refine lv_aload_n hx hb dX9_hitBumper_49 rfl (lv_at hl 2 rfl) ?_
        refine lv_iload_n hx hb dX9_hitBumper_50 rfl (lv_at hl 3 rfl) ?_
        refine lv_iload_n hx hb dX9_hitBumper_51 rfl (lv_at hl 4 rfl) ?_
        refine lv_iconst (v := (-1)) hx hb dX9_hitBumper_52 (by decide) ?_
        obtain ⟨S11, hc10, hf⟩ := op_cl hf
        refine z_callV (As := [.int i_3, .int i_4, .int (-1 : Int32)]) (rest := []) ⟨hx, hb, hml, hown, hts⟩ (tX2_closeSwitch l Γ lo S8 X ((hm _).trans v_2) hc10) (cwV 3 hts gX9_hitBumper_X2_closeSwitch rfl rfl rfl (by decide +kernel) ⟨Nat.le_of_ble_eq_true rfl, Nat.le_of_ble_eq_true rfl⟩) (wd_1 hW ((hm _).trans v_2)) rfl hKK hW hS rfl hl.1 rfl (Nat.le_of_ble_eq_true rfl) dX9_hitBumper_53 ⟨Nat.zero_le _, Nat.zero_le _⟩ (fun H locs hW hS hm1 hE => ?_)
        have hm : ∀ c, zV S11 c = zV S c := fun c => (hm1 c).trans (hm c)
        have hf := Option.some.inj hf
        rw [← hf]
        exact z_vret hx hb hr hlocks hW hS hm trivial dX9_hitBumper_56
    · have hf := (op_if hf).2 k12
      have hf := Option.some.inj hf
      rw [← hf]
      exact z_vret hx hb hr hlocks hW hS hm trivial dX9_hitBumper_15

theorem ni_X9_closeSticking_X1 : ∀ w ∈ wsX10, w ∈ wsX9_closeSticking := by decide +kernel
theorem ni_X9_closeSticking_X7 : ∀ w ∈ wsX70, w ∈ wsX9_closeSticking := by decide +kernel
def fX9_closeSticking (S : zSt) (a_1 : Nat) (a_2 : Nat) (i_3 : Int32) : Option zSt :=
st (0 : Int32) fun x1 =>
lp (fun (q2 : (Int32 × zSt)) => (cl (fJ_size q2.2 (a_1 + 2)) fun r9 =>
if r9 ≤ q2.1 then
some (.inr (q2.2))
else
cl (fJ_get q2.2 (a_1 + 2) q2.1) fun r12 =>
st (zI q2.2 (2, a_1, r12) 6) fun x15 =>
st (fun (S16 : zSt) => (st (q2.1 + (1 : Int32)) fun x18 =>
some (.inl (x18, S16)) : Option ((Int32 × zSt) ⊕ zSt))) fun j17 =>
if x15 = (-1 : Int32) then
j17 q2.2
else
cl (fX2_closeSwitch q2.2 a_2 q2.1 i_3 x15) fun S21 =>
j17 S21 : Option ((Int32 × zSt) ⊕ zSt))) 40000 (x1, S)
abbrev rmX9_closeSticking : Room := { frames := 4, cells := 0, slots := 0, locals := 93 }
set_option maxHeartbeats 4000000 in
set_option maxRecDepth 100000 in
theorem tX9_closeSticking (l : Launch) (Γ : zG) (lo : zId → Nat) (S : zSt) (X : va_W) {a_1 : Nat} {a_2 : Nat} {i_3 : Int32} (v_1 : zV S (8, a_1, 0) = true) (v_2 : zV S (3, a_2, 0) = true) {y : zSt} (hf : fX9_closeSticking S a_1 a_2 i_3 = some y) : Met l yX9_closeSticking wsX9_closeSticking rmX9_closeSticking (zP0 Γ lo S X [.ref (lo (8, a_1, 0)), .ref (lo (3, a_2, 0)), .int i_3]) (zQ0 Γ lo S y X none True) 0 0 (zA Γ) := by
  refine Met.ofW (cc := cX9_closeSticking) (maxL := 5) (ret := none) (by decide) rfl ?_
  intro p e s m args below meth c s₁ B hml hv
  obtain ⟨rfl, hW, hKK⟩ := hv
  have hx := B.exec
  have hb := B.bytes
  have hr := B.returns
  have hts := atoms_spec (ws := wsX9_closeSticking) B.pre
  have hown : s.vm.findClass RX9 = some m.cls := findClass_of_methodNamed B.named
  have hlocks := B.notSynchronized
  have hS : va_S (zA Γ) s.heap s.heap [] := va_S.rf
  have hm : ∀ c, zV S c = zV S c := fun _ => rfl
  have hl := lv_entry ([.ref (lo (8, a_1, 0)), .ref (lo (3, a_2, 0)), .int i_3]) (n := 5) (Nat.le_of_ble_eq_true rfl)
  rw [lg_entry_eq]
  generalize (lg_sl ([.ref (lo (8, a_1, 0)), .ref (lo (3, a_2, 0)), .int i_3]) ++ List.replicate (5 - (lg_sl ([.ref (lo (8, a_1, 0)), .ref (lo (3, a_2, 0)), .int i_3])).length) Slot.unset).toArray = ls at hl ⊢
  have hl : lv_has ls 5 [(0, .ref (lo (8, a_1, 0))), (1, .ref (lo (3, a_2, 0))), (2, .int i_3)] := hl
  obtain ⟨H, hH0⟩ : ∃ H, H = s.heap := ⟨_, rfl⟩
  obtain ⟨locs, hlo0⟩ : ∃ L : List Loc, L = [] := ⟨_, rfl⟩
  have hS : va_S (zA Γ) s.heap H locs := by rw [hH0, hlo0]; exact hS
  have hW : Wd Γ lo S X H := by rw [hH0]; exact hW
  rw [← hH0, ← hlo0]
  unfold fX9_closeSticking at hf
  refine lv_iconst (v := (0)) hx hb dX9_closeSticking_0 (by decide) ?_
  obtain ⟨x1, ex1, hf⟩ := op_st hf
  have bx1 : x1 = 0 ∨ x1 = 1 := Or.inl ex1
  refine z_istn (lv' := [(3, .int x1), (0, .ref (lo (8, a_1, 0))), (1, .ref (lo (3, a_2, 0))), (2, .int i_3)]) ex1 hx hb dX9_closeSticking_1 rfl hl (by decide) rfl (fun ls hl => ?_)
  obtain ⟨w4, q20, ew4, eq20, hf⟩ := op_lb hf
  have hw4 : ∀ n7 : Nat, ∀ (q2 : (Int32 × zSt)) (H : Heap) (locs : List Loc) (ls : Array Slot), lv_has ls 5 [(3, .int q2.1), (0, .ref (lo (8, a_1, 0))), (1, .ref (lo (3, a_2, 0))), (2, .int i_3)] → Wd Γ lo q2.2 X H → va_S (zA Γ) s.heap H locs → (∀ c, zV q2.2 c = zV S c) → lp w4 n7 q2 = some y → W p l e (headSpec wsX9_closeSticking rmX9_closeSticking).room s m ([.ref (lo (8, a_1, 0)), .ref (lo (3, a_2, 0)), .int i_3] : List Value).toArray below meth c H locs 0 0 (MQ below (zQ0 Γ lo S y X none True) ([.ref (lo (8, a_1, 0)), .ref (lo (3, a_2, 0)), .int i_3] : List Value).toArray s 0 0 (zA Γ)) (F0 m 2 ls []) := by
    intro n7
    induction n7 with
    | zero => intro q2 H locs ls hl hW hS hm hf; cases hf
    | succ n7 ih5 =>
      intro q2 H locs ls hl hW hS hm hf
      obtain ⟨n_, r3, hn_, hf, hr6⟩ := op_lq hf
      cases hn_
      rw [ew4] at hf
      refine lv_iload_n hx hb dX9_closeSticking_2 rfl (lv_at hl 0 rfl) ?_
      refine lv_aload_n hx hb dX9_closeSticking_3 rfl (lv_at hl 1 rfl) ?_
      refine va_get hx hb hts ni_X9_closeSticking_X7 hown hKK.1 (wd_1 hW ((hm _).trans v_1)) 0 rfl rfl 2 (by decide) (hts (.fieldLink RX9 87 "TiltRoute$Table" "bumpers" "Ljava/util/ArrayList;") (List.mem_of_getElem? (i := 1) rfl)) (fun _ h => h) rfl dX9_closeSticking_4 ?_
      have v8 : zV S (0, (a_1 + 2), 0) = true := (hm _).symm.trans (vf_8_2 hW ((hm _).trans v_1))
      obtain ⟨r9, hc10, hf⟩ := op_cl hf
      refine z_callV (As := []) (rest := [.int q2.1]) ⟨hx, hb, hml, hown, hts⟩ (tJ_size l Γ lo q2.2 X ((hm _).trans v8) hc10) (cwV 0 hts gX9_closeSticking_Jx4a65c_size_8abf5 rfl rfl rfl (by decide +kernel) ⟨Nat.le_of_ble_eq_true rfl, Nat.le_of_ble_eq_true rfl⟩) (wd_1 hW ((hm _).trans v8)) rfl hKK hW hS rfl hl.1 rfl (Nat.le_of_ble_eq_true rfl) dX9_closeSticking_7 ⟨Nat.zero_le _, Nat.zero_le _⟩ (fun H locs hW hS hm1 hE => ?_)
      refine lv_icmp_ge (tgt := 49) hx hb dX9_closeSticking_10 (by decide) (fun k10 => ?_) (fun k10 => ?_)
      · have hf := (op_if hf).1 k10
        have hf := zr_r hf hr6
        rw [← hf]
        exact z_vret hx hb hr hlocks hW hS hm trivial dX9_closeSticking_49
      · have hf := (op_if hf).2 k10
        refine lv_aload_n hx hb dX9_closeSticking_13 rfl (lv_at hl 1 rfl) ?_
        refine va_get hx hb hts ni_X9_closeSticking_X7 hown hKK.1 (wd_1 hW ((hm _).trans v_1)) 0 rfl rfl 2 (by decide) (hts (.fieldLink RX9 87 "TiltRoute$Table" "bumpers" "Ljava/util/ArrayList;") (List.mem_of_getElem? (i := 1) rfl)) (fun _ h => h) rfl dX9_closeSticking_14 ?_
        have v11 : zV S (0, (a_1 + 2), 0) = true := (hm _).symm.trans (vf_8_2 hW ((hm _).trans v_1))
        refine lv_iload_n hx hb dX9_closeSticking_17 rfl (lv_at hl 0 rfl) ?_
        obtain ⟨r12, hc13, hf⟩ := op_cl hf
        refine z_callV (As := [.int q2.1]) (rest := []) ⟨hx, hb, hml, hown, hts⟩ (tJ_get l Γ lo q2.2 X ((hm _).trans v11) hc13) (cwV 1 hts gX9_closeSticking_Jx4a65c_get_915e3 rfl rfl rfl (by decide +kernel) ⟨Nat.le_of_ble_eq_true rfl, Nat.le_of_ble_eq_true rfl⟩) (wd_1 hW ((hm _).trans v11)) rfl hKK hW hS rfl hl.1 rfl (Nat.le_of_ble_eq_true rfl) dX9_closeSticking_18 ⟨Nat.zero_le _, Nat.zero_le _⟩ (fun H locs hW hS hm1 hE => ?_)
        have v14 : zV S (2, a_1, r12) = true := (hm _).symm.trans hE
        refine va_castE hx hb hown (hts (.classLink RX9 92 "TiltRoute$Bumper") (List.mem_of_getElem? (i := 2) rfl)) (va_recv (q0 := 0) hKK.1 (wd_1 hW ((hm _).trans v14)) (ci := 2) rfl rfl) dX9_closeSticking_21 ?_
        refine va_get hx hb hts ni_X9_closeSticking_X1 hown hKK.1 (wd_1 hW ((hm _).trans v14)) 0 rfl rfl 6 (by decide) (hts (.fieldLink RX9 131 "TiltRoute$Bumper" "sticking" "I") (List.mem_of_getElem? (i := 3) rfl)) (fun _ h => h) rfl dX9_closeSticking_24 ?_
        obtain ⟨x15, ex15, hf⟩ := op_st hf
        refine z_ist (lv' := [(4, .int x15), (3, .int q2.1), (0, .ref (lo (8, a_1, 0))), (1, .ref (lo (3, a_2, 0))), (2, .int i_3)]) ex15 hx hb dX9_closeSticking_27 hl (by decide) rfl (fun ls hl => ?_)
        refine lv_iload hx hb dX9_closeSticking_29 (lv_at hl 0 rfl) ?_
        refine lv_iconst (v := (-1)) hx hb dX9_closeSticking_31 (by decide) ?_
        obtain ⟨j17, ej17, hf⟩ := op_st hf
        have hj17 : ∀ (S16 : zSt) (H : Heap) (locs : List Loc) (ls : Array Slot), lv_has ls 5 [(3, .int q2.1), (0, .ref (lo (8, a_1, 0))), (1, .ref (lo (3, a_2, 0))), (2, .int i_3)] → Wd Γ lo S16 X H → va_S (zA Γ) s.heap H locs → (∀ c, zV S16 c = zV S c) → j17 S16 = some r3 → W p l e (headSpec wsX9_closeSticking rmX9_closeSticking).room s m ([.ref (lo (8, a_1, 0)), .ref (lo (3, a_2, 0)), .int i_3] : List Value).toArray below meth c H locs 0 0 (MQ below (zQ0 Γ lo S y X none True) ([.ref (lo (8, a_1, 0)), .ref (lo (3, a_2, 0)), .int i_3] : List Value).toArray s 0 0 (zA Γ)) (F0 m 43 ls []) := by
          intro S16 H locs ls  hl hW hS hm hf
          rw [ej17] at hf
          obtain ⟨x18, ex18, hf⟩ := op_st hf
          refine lv_iinc (v := x18) (lv' := [(3, .int x18), (0, .ref (lo (8, a_1, 0))), (1, .ref (lo (3, a_2, 0))), (2, .int i_3)]) hx hb dX9_closeSticking_43 hl (k := 0) rfl (by rw [ex18]; rfl) (by decide) rfl (fun ls hl => ?_)
          refine lv_goto (tgt := 2) hx hb dX9_closeSticking_46 (by decide) ?_
          have hf := zr_l hf hr6
          exact ih5 (x18, S16) H locs ls (lv_sub hl [0, 1, 2, 3] rfl) hW hS hm hf
        refine lv_icmp_eq (tgt := 43) hx hb dX9_closeSticking_32 (by decide) (fun k32 => ?_) (fun k32 => ?_)
        · have hf := (op_if hf).1 k32
          exact hj17 q2.2 H locs ls  (lv_sub hl [1, 2, 3, 4] rfl) hW hS hm hf
        · have hf := (op_if hf).2 k32
          refine lv_aload_n hx hb dX9_closeSticking_35 rfl (lv_at hl 3 rfl) ?_
          refine lv_iload_n hx hb dX9_closeSticking_36 rfl (lv_at hl 1 rfl) ?_
          refine lv_iload_n hx hb dX9_closeSticking_37 rfl (lv_at hl 4 rfl) ?_
          refine lv_iload hx hb dX9_closeSticking_38 (lv_at hl 0 rfl) ?_
          obtain ⟨S21, hc20, hf⟩ := op_cl hf
          refine z_callV (As := [.int q2.1, .int i_3, .int x15]) (rest := []) ⟨hx, hb, hml, hown, hts⟩ (tX2_closeSwitch l Γ lo q2.2 X ((hm _).trans v_2) hc20) (cwV 3 hts gX9_closeSticking_X2_closeSwitch rfl rfl rfl (by decide +kernel) ⟨Nat.le_of_ble_eq_true rfl, Nat.le_of_ble_eq_true rfl⟩) (wd_1 hW ((hm _).trans v_2)) rfl hKK hW hS rfl hl.1 rfl (Nat.le_of_ble_eq_true rfl) dX9_closeSticking_40 ⟨Nat.zero_le _, Nat.zero_le _⟩ (fun H locs hW hS hm1 hE => ?_)
          have hm : ∀ c, zV S21 c = zV S c := fun c => (hm1 c).trans (hm c)
          exact hj17 S21 H locs ls  (lv_sub hl [1, 2, 3, 4] rfl) hW hS hm hf
  rw [eq20] at hf
  exact hw4 _ (x1, S) H locs ls (lv_sub hl [0, 1, 2, 3] rfl) hW hS hm hf

def fX9_runBall (S : zSt) (a_1 : Nat) (a_2 : Nat) : Option zSt :=
st (1 : Int32) fun x1 =>
lp (fun (q2 : (Int32 × zSt)) => (if (300 : Int32) < q2.1 then
some (.inr (q2.2))
else
cl (fX0_isOut q2.2) fun r8 =>
if r8 = 0 then
cl (fX0_fall q2.2) fun S13 =>
cl2 (fX0_moveAcross S13 a_1) fun r14 S16 =>
st r14 fun x17 =>
cl2 (fX0_moveDownwards S16 a_1) fun r18 S20 =>
st r18 fun x21 =>
cl (fX9_hitBumper S20 a_1 a_2 x17 q2.1) fun S24 =>
cl (fX9_hitBumper S24 a_1 a_2 x21 q2.1) fun S27 =>
st (fun (S28 : zSt) => (st (q2.1 + (1 : Int32)) fun x30 =>
some (.inl (x30, S28)) : Option ((Int32 × zSt) ⊕ zSt))) fun j29 =>
if (q2.1 - q2.1 / (10 : Int32) * (10 : Int32)) = 0 then
cl (fX9_closeSticking S27 a_1 a_2 q2.1) fun S33 =>
j29 S33
else
j29 S27
else
some (.inr (q2.2)) : Option ((Int32 × zSt) ⊕ zSt))) 40000 (x1, S)
abbrev rmX9_runBall : Room := { frames := 5, cells := 0, slots := 0, locals := 117 }
set_option maxHeartbeats 4000000 in
set_option maxRecDepth 100000 in
theorem tX9_runBall (l : Launch) (Γ : zG) (lo : zId → Nat) (S : zSt) (X : va_W) {a_1 : Nat} {a_2 : Nat} (v_1 : zV S (8, a_1, 0) = true) (v_2 : zV S (3, a_2, 0) = true) (v_3 : zV S (1, 0, 0) = true) {y : zSt} (hf : fX9_runBall S a_1 a_2 = some y) : Met l yX9_runBall wsX9_runBall rmX9_runBall (zP0 Γ lo S X [.ref (lo (8, a_1, 0)), .ref (lo (3, a_2, 0)), .ref (lo (1, 0, 0))]) (zQ0 Γ lo S y X none True) 0 0 (zA Γ) := by
  refine Met.ofW (cc := cX9_runBall) (maxL := 6) (ret := none) (by decide) rfl ?_
  intro p e s m args below meth c s₁ B hml hv
  obtain ⟨rfl, hW, hKK⟩ := hv
  have hx := B.exec
  have hb := B.bytes
  have hr := B.returns
  have hts := atoms_spec (ws := wsX9_runBall) B.pre
  have hown : s.vm.findClass RX9 = some m.cls := findClass_of_methodNamed B.named
  have hlocks := B.notSynchronized
  have hS : va_S (zA Γ) s.heap s.heap [] := va_S.rf
  have hm : ∀ c, zV S c = zV S c := fun _ => rfl
  have hl := lv_entry ([.ref (lo (8, a_1, 0)), .ref (lo (3, a_2, 0)), .ref (lo (1, 0, 0))]) (n := 6) (Nat.le_of_ble_eq_true rfl)
  rw [lg_entry_eq]
  generalize (lg_sl ([.ref (lo (8, a_1, 0)), .ref (lo (3, a_2, 0)), .ref (lo (1, 0, 0))]) ++ List.replicate (6 - (lg_sl ([.ref (lo (8, a_1, 0)), .ref (lo (3, a_2, 0)), .ref (lo (1, 0, 0))])).length) Slot.unset).toArray = ls at hl ⊢
  have hl : lv_has ls 6 [(0, .ref (lo (8, a_1, 0))), (1, .ref (lo (3, a_2, 0))), (2, .ref (lo (1, 0, 0)))] := hl
  obtain ⟨H, hH0⟩ : ∃ H, H = s.heap := ⟨_, rfl⟩
  obtain ⟨locs, hlo0⟩ : ∃ L : List Loc, L = [] := ⟨_, rfl⟩
  have hS : va_S (zA Γ) s.heap H locs := by rw [hH0, hlo0]; exact hS
  have hW : Wd Γ lo S X H := by rw [hH0]; exact hW
  rw [← hH0, ← hlo0]
  unfold fX9_runBall at hf
  refine lv_iconst (v := (1)) hx hb dX9_runBall_0 (by decide) ?_
  obtain ⟨x1, ex1, hf⟩ := op_st hf
  have bx1 : x1 = 0 ∨ x1 = 1 := Or.inr ex1
  refine z_istn (lv' := [(3, .int x1), (0, .ref (lo (8, a_1, 0))), (1, .ref (lo (3, a_2, 0))), (2, .ref (lo (1, 0, 0)))]) ex1 hx hb dX9_runBall_1 rfl hl (by decide) rfl (fun ls hl => ?_)
  obtain ⟨w4, q20, ew4, eq20, hf⟩ := op_lb hf
  have hw4 : ∀ n7 : Nat, ∀ (q2 : (Int32 × zSt)) (H : Heap) (locs : List Loc) (ls : Array Slot), lv_has ls 6 [(3, .int q2.1), (0, .ref (lo (8, a_1, 0))), (1, .ref (lo (3, a_2, 0))), (2, .ref (lo (1, 0, 0)))] → Wd Γ lo q2.2 X H → va_S (zA Γ) s.heap H locs → (∀ c, zV q2.2 c = zV S c) → lp w4 n7 q2 = some y → W p l e (headSpec wsX9_runBall rmX9_runBall).room s m ([.ref (lo (8, a_1, 0)), .ref (lo (3, a_2, 0)), .ref (lo (1, 0, 0))] : List Value).toArray below meth c H locs 0 0 (MQ below (zQ0 Γ lo S y X none True) ([.ref (lo (8, a_1, 0)), .ref (lo (3, a_2, 0)), .ref (lo (1, 0, 0))] : List Value).toArray s 0 0 (zA Γ)) (F0 m 2 ls []) := by
    intro n7
    induction n7 with
    | zero => intro q2 H locs ls hl hW hS hm hf; cases hf
    | succ n7 ih5 =>
      intro q2 H locs ls hl hW hS hm hf
      obtain ⟨n_, r3, hn_, hf, hr6⟩ := op_lq hf
      cases hn_
      rw [ew4] at hf
      refine lv_iload_n hx hb dX9_runBall_2 rfl (lv_at hl 0 rfl) ?_
      refine lv_sipush (v := (300)) hx hb dX9_runBall_3 (by decide) ?_
      refine lv_icmp_gt (tgt := 69) hx hb dX9_runBall_6 (by decide) (fun k6 => ?_) (fun k6 => ?_)
      · have hf := (op_if hf).1 k6
        have hf := zr_r hf hr6
        rw [← hf]
        exact z_vret hx hb hr hlocks hW hS hm trivial dX9_runBall_69
      · have hf := (op_if hf).2 k6
        refine lv_aload_n hx hb dX9_runBall_9 rfl (lv_at hl 3 rfl) ?_
        obtain ⟨r8, hc9, hf⟩ := op_cl hf
        refine z_callV (As := []) (rest := []) ⟨hx, hb, hml, hown, hts⟩ (tX0_isOut l Γ lo q2.2 X ((hm _).trans v_3) hc9) (cwV 0 hts gX9_runBall_X0_isOut rfl rfl rfl (by decide +kernel) ⟨Nat.le_of_ble_eq_true rfl, Nat.le_of_ble_eq_true rfl⟩) (wd_1 hW ((hm _).trans v_3)) rfl hKK hW hS rfl hl.1 rfl (Nat.le_of_ble_eq_true rfl) dX9_runBall_10 ⟨Nat.zero_le _, Nat.zero_le _⟩ (fun H locs hW hS hm1 hE => ?_)
        have b10 := hE
        refine lv_if_ne (tgt := 69) hx hb dX9_runBall_13 (by decide) (fun k13 => ?_) (fun k13 => ?_)
        · have hf := (op_if hf).2 k13
          have hf := zr_r hf hr6
          rw [← hf]
          exact z_vret hx hb hr hlocks hW hS hm trivial dX9_runBall_69
        · have hf := (op_if hf).1 k13
          refine lv_aload_n hx hb dX9_runBall_16 rfl (lv_at hl 3 rfl) ?_
          obtain ⟨S13, hc12, hf⟩ := op_cl hf
          refine z_callV (As := []) (rest := []) ⟨hx, hb, hml, hown, hts⟩ (tX0_fall l Γ lo q2.2 X ((hm _).trans v_3) hc12) (cwV 0 hts gX9_runBall_X0_fall rfl rfl rfl (by decide +kernel) ⟨Nat.le_of_ble_eq_true rfl, Nat.le_of_ble_eq_true rfl⟩) (wd_1 hW ((hm _).trans v_3)) rfl hKK hW hS rfl hl.1 rfl (Nat.le_of_ble_eq_true rfl) dX9_runBall_17 ⟨Nat.zero_le _, Nat.zero_le _⟩ (fun H locs hW hS hm1 hE => ?_)
          have hm : ∀ c, zV S13 c = zV S c := fun c => (hm1 c).trans (hm c)
          refine lv_aload_n hx hb dX9_runBall_20 rfl (lv_at hl 3 rfl) ?_
          refine lv_aload_n hx hb dX9_runBall_21 rfl (lv_at hl 1 rfl) ?_
          obtain ⟨r14, S16, hc15, hf⟩ := op_cl2 hf
          refine z_callV (As := [.ref (lo (8, a_1, 0))]) (rest := []) ⟨hx, hb, hml, hown, hts⟩ (tX0_moveAcross l Γ lo S13 X ((hm _).trans v_3) ((hm _).trans v_1) hc15) (cwV 1 hts gX9_runBall_X0_moveAcross rfl rfl rfl (by decide +kernel) ⟨Nat.le_of_ble_eq_true rfl, Nat.le_of_ble_eq_true rfl⟩) (wd_1 hW ((hm _).trans v_3)) rfl hKK hW hS rfl hl.1 rfl (Nat.le_of_ble_eq_true rfl) dX9_runBall_22 ⟨Nat.zero_le _, Nat.zero_le _⟩ (fun H locs hW hS hm1 hE => ?_)
          have hm : ∀ c, zV S16 c = zV S c := fun c => (hm1 c).trans (hm c)
          obtain ⟨x17, ex17, hf⟩ := op_st hf
          refine z_ist (lv' := [(4, .int x17), (3, .int q2.1), (0, .ref (lo (8, a_1, 0))), (1, .ref (lo (3, a_2, 0))), (2, .ref (lo (1, 0, 0)))]) ex17 hx hb dX9_runBall_25 hl (by decide) rfl (fun ls hl => ?_)
          refine lv_aload_n hx hb dX9_runBall_27 rfl (lv_at hl 4 rfl) ?_
          refine lv_aload_n hx hb dX9_runBall_28 rfl (lv_at hl 2 rfl) ?_
          obtain ⟨r18, S20, hc19, hf⟩ := op_cl2 hf
          refine z_callV (As := [.ref (lo (8, a_1, 0))]) (rest := []) ⟨hx, hb, hml, hown, hts⟩ (tX0_moveDownwards l Γ lo S16 X ((hm _).trans v_3) ((hm _).trans v_1) hc19) (cwV 1 hts gX9_runBall_X0_moveDownwards rfl rfl rfl (by decide +kernel) ⟨Nat.le_of_ble_eq_true rfl, Nat.le_of_ble_eq_true rfl⟩) (wd_1 hW ((hm _).trans v_3)) rfl hKK hW hS rfl hl.1 rfl (Nat.le_of_ble_eq_true rfl) dX9_runBall_29 ⟨Nat.zero_le _, Nat.zero_le _⟩ (fun H locs hW hS hm1 hE => ?_)
          have hm : ∀ c, zV S20 c = zV S c := fun c => (hm1 c).trans (hm c)
          obtain ⟨x21, ex21, hf⟩ := op_st hf
          refine z_ist (lv' := [(5, .int x21), (4, .int x17), (3, .int q2.1), (0, .ref (lo (8, a_1, 0))), (1, .ref (lo (3, a_2, 0))), (2, .ref (lo (1, 0, 0)))]) ex21 hx hb dX9_runBall_32 hl (by decide) rfl (fun ls hl => ?_)
          refine lv_aload_n hx hb dX9_runBall_34 rfl (lv_at hl 3 rfl) ?_
          refine lv_aload_n hx hb dX9_runBall_35 rfl (lv_at hl 4 rfl) ?_
          refine lv_iload hx hb dX9_runBall_36 (lv_at hl 1 rfl) ?_
          refine lv_iload_n hx hb dX9_runBall_38 rfl (lv_at hl 2 rfl) ?_
          obtain ⟨S24, hc23, hf⟩ := op_cl hf
          refine z_callS (As := [.ref (lo (8, a_1, 0)), .ref (lo (3, a_2, 0)), .int x17, .int q2.1]) (rest := []) ⟨hx, hb, hml, hown, hts⟩ (tX9_hitBumper l Γ lo S20 X ((hm _).trans v_1) ((hm _).trans v_2) hc23) (va_cwS 4 hts gX9_runBall_X9_hitBumper rfl rfl rfl (by decide +kernel) ⟨Nat.le_of_ble_eq_true rfl, Nat.le_of_ble_eq_true rfl⟩) hKK hW hS rfl hl.1 rfl (Nat.le_of_ble_eq_true rfl) dX9_runBall_39 ⟨Nat.zero_le _, Nat.zero_le _⟩ (fun H locs hW hS hm1 hE => ?_)
          have hm : ∀ c, zV S24 c = zV S c := fun c => (hm1 c).trans (hm c)
          refine lv_aload_n hx hb dX9_runBall_42 rfl (lv_at hl 3 rfl) ?_
          refine lv_aload_n hx hb dX9_runBall_43 rfl (lv_at hl 4 rfl) ?_
          refine lv_iload hx hb dX9_runBall_44 (lv_at hl 0 rfl) ?_
          refine lv_iload_n hx hb dX9_runBall_46 rfl (lv_at hl 2 rfl) ?_
          obtain ⟨S27, hc26, hf⟩ := op_cl hf
          refine z_callS (As := [.ref (lo (8, a_1, 0)), .ref (lo (3, a_2, 0)), .int x21, .int q2.1]) (rest := []) ⟨hx, hb, hml, hown, hts⟩ (tX9_hitBumper l Γ lo S24 X ((hm _).trans v_1) ((hm _).trans v_2) hc26) (va_cwS 4 hts gX9_runBall_X9_hitBumper rfl rfl rfl (by decide +kernel) ⟨Nat.le_of_ble_eq_true rfl, Nat.le_of_ble_eq_true rfl⟩) hKK hW hS rfl hl.1 rfl (Nat.le_of_ble_eq_true rfl) dX9_runBall_47 ⟨Nat.zero_le _, Nat.zero_le _⟩ (fun H locs hW hS hm1 hE => ?_)
          have hm : ∀ c, zV S27 c = zV S c := fun c => (hm1 c).trans (hm c)
          refine lv_iload_n hx hb dX9_runBall_50 rfl (lv_at hl 2 rfl) ?_
          refine lv_bipush (v := (10)) hx hb dX9_runBall_51 (by decide) ?_
          refine lv_irem hx hb dX9_runBall_53 (by decide) ?_
          obtain ⟨j29, ej29, hf⟩ := op_st hf
          have hj29 : ∀ (S28 : zSt) (H : Heap) (locs : List Loc) (ls : Array Slot), lv_has ls 6 [(3, .int q2.1), (0, .ref (lo (8, a_1, 0))), (1, .ref (lo (3, a_2, 0))), (2, .ref (lo (1, 0, 0)))] → Wd Γ lo S28 X H → va_S (zA Γ) s.heap H locs → (∀ c, zV S28 c = zV S c) → j29 S28 = some r3 → W p l e (headSpec wsX9_runBall rmX9_runBall).room s m ([.ref (lo (8, a_1, 0)), .ref (lo (3, a_2, 0)), .ref (lo (1, 0, 0))] : List Value).toArray below meth c H locs 0 0 (MQ below (zQ0 Γ lo S y X none True) ([.ref (lo (8, a_1, 0)), .ref (lo (3, a_2, 0)), .ref (lo (1, 0, 0))] : List Value).toArray s 0 0 (zA Γ)) (F0 m 63 ls []) := by
            intro S28 H locs ls  hl hW hS hm hf
            rw [ej29] at hf
            obtain ⟨x30, ex30, hf⟩ := op_st hf
            refine lv_iinc (v := x30) (lv' := [(3, .int x30), (0, .ref (lo (8, a_1, 0))), (1, .ref (lo (3, a_2, 0))), (2, .ref (lo (1, 0, 0)))]) hx hb dX9_runBall_63 hl (k := 0) rfl (by rw [ex30]; rfl) (by decide) rfl (fun ls hl => ?_)
            refine lv_goto (tgt := 2) hx hb dX9_runBall_66 (by decide) ?_
            have hf := zr_l hf hr6
            exact ih5 (x30, S28) H locs ls (lv_sub hl [0, 1, 2, 3] rfl) hW hS hm hf
          refine lv_if_ne (tgt := 63) hx hb dX9_runBall_54 (by decide) (fun k54 => ?_) (fun k54 => ?_)
          · have hf := (op_if hf).2 k54
            exact hj29 S27 H locs ls  (lv_sub hl [2, 3, 4, 5] rfl) hW hS hm hf
          · have hf := (op_if hf).1 k54
            refine lv_aload_n hx hb dX9_runBall_57 rfl (lv_at hl 3 rfl) ?_
            refine lv_aload_n hx hb dX9_runBall_58 rfl (lv_at hl 4 rfl) ?_
            refine lv_iload_n hx hb dX9_runBall_59 rfl (lv_at hl 2 rfl) ?_
            obtain ⟨S33, hc32, hf⟩ := op_cl hf
            refine z_callS (As := [.ref (lo (8, a_1, 0)), .ref (lo (3, a_2, 0)), .int q2.1]) (rest := []) ⟨hx, hb, hml, hown, hts⟩ (tX9_closeSticking l Γ lo S27 X ((hm _).trans v_1) ((hm _).trans v_2) hc32) (va_cwS 3 hts gX9_runBall_X9_closeSticking rfl rfl rfl (by decide +kernel) ⟨Nat.le_of_ble_eq_true rfl, Nat.le_of_ble_eq_true rfl⟩) hKK hW hS rfl hl.1 rfl (Nat.le_of_ble_eq_true rfl) dX9_runBall_60 ⟨Nat.zero_le _, Nat.zero_le _⟩ (fun H locs hW hS hm1 hE => ?_)
            have hm : ∀ c, zV S33 c = zV S c := fun c => (hm1 c).trans (hm c)
            exact hj29 S33 H locs ls  (lv_sub hl [2, 3, 4, 5] rfl) hW hS hm hf
  rw [eq20] at hf
  exact hw4 _ (x1, S) H locs ls (lv_sub hl [0, 1, 2, 3] rfl) hW hS hm hf

theorem ni_X9_isMended_X9 : ∀ w ∈ wsX90, w ∈ wsX9_isMended := by decide +kernel
def fX9_isMended (S : zSt) (i_1 : Int32) : Option Int32 :=
st (fun (u_ : Unit) => (some ((0 : Int32)) : Option Int32)) fun j1 =>
if i_1 < 0 then
j1 ()
else
if (60 : Int32) ≤ i_1 then
j1 ()
else
gd (¬ (i_1 < 0 ∨ 60 ≤ i_1.toNatClampNeg)) (
if (zI S (21, 0, 0) i_1.toNatClampNeg) = 0 then
j1 ()
else
some ((1 : Int32)))
abbrev rmX9_isMended : Room := { frames := 0, cells := 0, slots := 0, locals := 0 }
set_option maxHeartbeats 4000000 in
set_option maxRecDepth 100000 in
theorem tX9_isMended (l : Launch) (Γ : zG) (lo : zId → Nat) (S : zSt) (X : va_W) {i_1 : Int32} (v_z : zV S (10, 0, 0) = true) {y : Int32} (hf : fX9_isMended S i_1 = some y) : Met l yX9_isMended wsX9_isMended rmX9_isMended (zP0 Γ lo S X [.ref (lo (10, 0, 0)), .int i_1]) (zQ0 Γ lo S S X (some (.int y)) (y = 0 ∨ y = 1)) 0 0 (zA Γ) := by
  refine Met.ofW (cc := cX9_isMended) (maxL := 2) (ret := (some .boolean)) (by decide) rfl ?_
  intro p e s m args below meth c s₁ B hml hv
  obtain ⟨rfl, hW, hKK⟩ := hv
  have hx := B.exec
  have hb := B.bytes
  have hr := B.returns
  have hts := atoms_spec (ws := wsX9_isMended) B.pre
  have hown : s.vm.findClass RX9 = some m.cls := findClass_of_methodNamed B.named
  have hlocks := B.notSynchronized
  have hS : va_S (zA Γ) s.heap s.heap [] := va_S.rf
  have hm : ∀ c, zV S c = zV S c := fun _ => rfl
  have hl := lv_entry ([.ref (lo (10, 0, 0)), .int i_1]) (n := 2) (Nat.le_of_ble_eq_true rfl)
  rw [lg_entry_eq]
  generalize (lg_sl ([.ref (lo (10, 0, 0)), .int i_1]) ++ List.replicate (2 - (lg_sl ([.ref (lo (10, 0, 0)), .int i_1])).length) Slot.unset).toArray = ls at hl ⊢
  have hl : lv_has ls 2 [(0, .ref (lo (10, 0, 0))), (1, .int i_1)] := hl
  obtain ⟨H, hH0⟩ : ∃ H, H = s.heap := ⟨_, rfl⟩
  obtain ⟨locs, hlo0⟩ : ∃ L : List Loc, L = [] := ⟨_, rfl⟩
  have hS : va_S (zA Γ) s.heap H locs := by rw [hH0, hlo0]; exact hS
  have hW : Wd Γ lo S X H := by rw [hH0]; exact hW
  rw [← hH0, ← hlo0]
  unfold fX9_isMended at hf
  refine lv_iload_n hx hb dX9_isMended_0 rfl (lv_at hl 1 rfl) ?_
  obtain ⟨j1, ej1, hf⟩ := op_st hf
  have hj1 : ∀ (u_ : Unit) (H : Heap) (locs : List Loc) (ls : Array Slot), lv_has ls 2 [] → Wd Γ lo S X H → va_S (zA Γ) s.heap H locs → (∀ c, zV S c = zV S c) → j1 () = some y → W p l e (headSpec wsX9_isMended rmX9_isMended).room s m ([.ref (lo (10, 0, 0)), .int i_1] : List Value).toArray below meth c H locs 0 0 (MQ below (zQ0 Γ lo S S X (some (.int y)) (y = 0 ∨ y = 1)) ([.ref (lo (10, 0, 0)), .int i_1] : List Value).toArray s 0 0 (zA Γ)) (F0 m 26 ls []) := by
    intro u_ H locs ls  hl hW hS hm hf
    rw [ej1] at hf
    refine lv_iconst (v := (0)) hx hb dX9_isMended_26 (by decide) ?_
    have hf := Option.some.inj hf
    rw [← hf]
    exact z_iret hx hb hr hlocks (z_bb (Or.inl rfl)) hW hS hm (Or.inl rfl) dX9_isMended_27
  refine lv_if_lt (tgt := 26) hx hb dX9_isMended_1 (by decide) (fun k1 => ?_) (fun k1 => ?_)
  · have hf := (op_if hf).1 k1
    exact hj1 () H locs ls  (lv_sub hl [] rfl) hW hS hm hf
  · have hf := (op_if hf).2 k1
    refine lv_iload_n hx hb dX9_isMended_4 rfl (lv_at hl 1 rfl) ?_
    refine lv_aload_n hx hb dX9_isMended_5 rfl (lv_at hl 0 rfl) ?_
    refine va_get hx hb hts ni_X9_isMended_X9 hown hKK.1 (wd_1 hW v_z) 0 rfl rfl 4 (by decide) (hts (.fieldLink RX9 29 "TiltRoute" "mended" "[Z") (List.mem_of_getElem? (i := 1) rfl)) (fun _ h => h) rfl dX9_isMended_6 ?_
    have v2 : zV S (21, 0, 0) = true := vf_10_4 hW v_z
    refine va_alen (v := 60) hx hb hKK.1 (wd_1 hW v2) 0 2 rfl rfl (show Int32.ofNat 60 = 60 by decide) dX9_isMended_9 ?_
    refine lv_icmp_ge (tgt := 26) hx hb dX9_isMended_10 (by decide) (fun k10 => ?_) (fun k10 => ?_)
    · have hf := (op_if hf).1 k10
      exact hj1 () H locs ls  (lv_sub hl [] rfl) hW hS hm hf
    · have hf := (op_if hf).2 k10
      refine lv_aload_n hx hb dX9_isMended_13 rfl (lv_at hl 0 rfl) ?_
      refine va_get hx hb hts ni_X9_isMended_X9 hown hKK.1 (wd_1 hW v_z) 0 rfl rfl 4 (by decide) (hts (.fieldLink RX9 29 "TiltRoute" "mended" "[Z") (List.mem_of_getElem? (i := 1) rfl)) (fun _ h => h) rfl dX9_isMended_14 ?_
      have v3 : zV S (21, 0, 0) = true := vf_10_4 hW v_z
      refine lv_iload_n hx hb dX9_isMended_17 rfl (lv_at hl 1 rfl) ?_
      obtain ⟨h18, hf⟩ := op_gd hf
      refine va_zald hx hb hKK.1 (wd_1 hW v3) 0 2 (n := 60) rfl rfl h18 dX9_isMended_18 ?_
      refine lv_if_eq (tgt := 26) hx hb dX9_isMended_19 (by decide) (fun k19 => ?_) (fun k19 => ?_)
      · have hf := (op_if hf).1 k19
        exact hj1 () H locs ls  (lv_sub hl [] rfl) hW hS hm hf
      · have hf := (op_if hf).2 k19
        refine lv_iconst (v := (1)) hx hb dX9_isMended_22 (by decide) ?_
        refine lv_goto (tgt := 27) hx hb dX9_isMended_23 (by decide) ?_
        have hf := Option.some.inj hf
        rw [← hf]
        exact z_iret hx hb hr hlocks (z_bb (Or.inr rfl)) hW hS hm (Or.inr rfl) dX9_isMended_27

theorem ni_X9_replayedScore_X2 : ∀ w ∈ wsX20, w ∈ wsX9_replayedScore := by decide +kernel
theorem ni_X9_replayedScore_X5 : ∀ w ∈ wsX50, w ∈ wsX9_replayedScore := by decide +kernel
theorem ni_X9_replayedScore_X9 : ∀ w ∈ wsX90, w ∈ wsX9_replayedScore := by decide +kernel
def fX9_replayedScore (S : zSt) (a_1 : Nat) (i_2 : Int32) : Option (Int32 × zSt) :=
cl (fX5_restart S 1 0) fun S4 =>
st (0 : Int32) fun x5 =>
lp (fun (q6 : (Int32 × zSt)) => (if (zI q6.2 (3, a_1, 0) 4) ≤ q6.1 then
some (.inr (((zI q6.2 (6, 1, 0) 3), q6.2)))
else
cl (fX2_entryOf q6.2 a_1 q6.1) fun r13 =>
st r13 fun x15 =>
st (fun (S16 : zSt) => (st (q6.1 + (1 : Int32)) fun x18 =>
some (.inl (x18, S16)) : Option ((Int32 × zSt) ⊕ (Int32 × zSt)))) fun j17 =>
st (fun (u_ : Unit) => (cl (fX2_switchIn q6.2 x15) fun r22 =>
cl (fX5_takeSwitch q6.2 1 0 1 a_1 r22) fun S26 =>
j17 S26 : Option ((Int32 × zSt) ⊕ (Int32 × zSt)))) fun j19 =>
if i_2 = 0 then
j19 ()
else
cl (fX2_stickingIn q6.2 x15) fun r27 =>
cl (fX9_isMended q6.2 r27) fun r29 =>
if r29 = 0 then
j19 ()
else
j17 q6.2 : Option ((Int32 × zSt) ⊕ (Int32 × zSt)))) 40000 (x5, S4)
abbrev rmX9_replayedScore : Room := { frames := 3, cells := 0, slots := 0, locals := 70 }
set_option maxHeartbeats 4000000 in
set_option maxRecDepth 100000 in
theorem tX9_replayedScore (l : Launch) (Γ : zG) (lo : zId → Nat) (S : zSt) (X : va_W) {a_1 : Nat} {i_2 : Int32} (v_z : zV S (10, 0, 0) = true) (v_1 : zV S (3, a_1, 0) = true) (u_2 : i_2 = 0 ∨ i_2 = 1) {y : (Int32 × zSt)} (hf : fX9_replayedScore S a_1 i_2 = some y) : Met l yX9_replayedScore wsX9_replayedScore rmX9_replayedScore (zP0 Γ lo S X [.ref (lo (10, 0, 0)), .ref (lo (3, a_1, 0)), .int i_2]) (zQ0 Γ lo S y.2 X (some (.int y.1)) True) 0 0 (zA Γ) := by
  refine Met.ofW (cc := cX9_replayedScore) (maxL := 6) (ret := (some .int)) (by decide) rfl ?_
  intro p e s m args below meth c s₁ B hml hv
  obtain ⟨rfl, hW, hKK⟩ := hv
  have hx := B.exec
  have hb := B.bytes
  have hr := B.returns
  have hts := atoms_spec (ws := wsX9_replayedScore) B.pre
  have hown : s.vm.findClass RX9 = some m.cls := findClass_of_methodNamed B.named
  have hlocks := B.notSynchronized
  have hS : va_S (zA Γ) s.heap s.heap [] := va_S.rf
  have hm : ∀ c, zV S c = zV S c := fun _ => rfl
  have hl := lv_entry ([.ref (lo (10, 0, 0)), .ref (lo (3, a_1, 0)), .int i_2]) (n := 6) (Nat.le_of_ble_eq_true rfl)
  rw [lg_entry_eq]
  generalize (lg_sl ([.ref (lo (10, 0, 0)), .ref (lo (3, a_1, 0)), .int i_2]) ++ List.replicate (6 - (lg_sl ([.ref (lo (10, 0, 0)), .ref (lo (3, a_1, 0)), .int i_2])).length) Slot.unset).toArray = ls at hl ⊢
  have hl : lv_has ls 6 [(0, .ref (lo (10, 0, 0))), (1, .ref (lo (3, a_1, 0))), (2, .int i_2)] := hl
  obtain ⟨H, hH0⟩ : ∃ H, H = s.heap := ⟨_, rfl⟩
  obtain ⟨locs, hlo0⟩ : ∃ L : List Loc, L = [] := ⟨_, rfl⟩
  have hS : va_S (zA Γ) s.heap H locs := by rw [hH0, hlo0]; exact hS
  have hW : Wd Γ lo S X H := by rw [hH0]; exact hW
  rw [← hH0, ← hlo0]
  unfold fX9_replayedScore at hf
  refine lv_aload_n hx hb dX9_replayedScore_0 rfl (lv_at hl 0 rfl) ?_
  refine va_get hx hb hts ni_X9_replayedScore_X9 hown hKK.1 (wd_1 hW v_z) 0 rfl rfl 5 (by decide) (hts (.fieldLink RX9 36 "TiltRoute" "replay" "LTiltRoute$Play;") (List.mem_of_getElem? (i := 1) rfl)) (fun _ h => h) rfl dX9_replayedScore_1 ?_
  have v1 : zV S (6, 1, 0) = true := vf_10_5 hW v_z
  obtain ⟨S4, hc3, hf⟩ := op_cl hf
  refine z_callV (As := []) (rest := []) ⟨hx, hb, hml, hown, hts⟩ (tX5_restart l Γ lo S X v1 hc3) (cwV 0 hts gX9_replayedScore_X5_restart rfl rfl rfl (by decide +kernel) ⟨Nat.le_of_ble_eq_true rfl, Nat.le_of_ble_eq_true rfl⟩) (wd_1 hW v1) rfl hKK hW hS rfl hl.1 rfl (Nat.le_of_ble_eq_true rfl) dX9_replayedScore_4 ⟨Nat.zero_le _, Nat.zero_le _⟩ (fun H locs hW hS hm1 hE => ?_)
  have hm : ∀ c, zV S4 c = zV S c := hm1
  refine lv_iconst (v := (0)) hx hb dX9_replayedScore_7 (by decide) ?_
  obtain ⟨x5, ex5, hf⟩ := op_st hf
  have bx5 : x5 = 0 ∨ x5 = 1 := Or.inl ex5
  refine z_istn (lv' := [(3, .int x5), (0, .ref (lo (10, 0, 0))), (1, .ref (lo (3, a_1, 0))), (2, .int i_2)]) ex5 hx hb dX9_replayedScore_8 rfl hl (by decide) rfl (fun ls hl => ?_)
  obtain ⟨w8, q60, ew8, eq60, hf⟩ := op_lb hf
  have hw8 : ∀ n11 : Nat, ∀ (q6 : (Int32 × zSt)) (H : Heap) (locs : List Loc) (ls : Array Slot), lv_has ls 6 [(3, .int q6.1), (0, .ref (lo (10, 0, 0))), (1, .ref (lo (3, a_1, 0))), (2, .int i_2)] → Wd Γ lo q6.2 X H → va_S (zA Γ) s.heap H locs → (∀ c, zV q6.2 c = zV S c) → lp w8 n11 q6 = some y → W p l e (headSpec wsX9_replayedScore rmX9_replayedScore).room s m ([.ref (lo (10, 0, 0)), .ref (lo (3, a_1, 0)), .int i_2] : List Value).toArray below meth c H locs 0 0 (MQ below (zQ0 Γ lo S y.2 X (some (.int y.1)) True) ([.ref (lo (10, 0, 0)), .ref (lo (3, a_1, 0)), .int i_2] : List Value).toArray s 0 0 (zA Γ)) (F0 m 9 ls []) := by
    intro n11
    induction n11 with
    | zero => intro q6 H locs ls hl hW hS hm hf; cases hf
    | succ n11 ih9 =>
      intro q6 H locs ls hl hW hS hm hf
      obtain ⟨n_, r7, hn_, hf, hr10⟩ := op_lq hf
      cases hn_
      rw [ew8] at hf
      refine lv_iload_n hx hb dX9_replayedScore_9 rfl (lv_at hl 0 rfl) ?_
      refine lv_aload_n hx hb dX9_replayedScore_10 rfl (lv_at hl 2 rfl) ?_
      refine va_get hx hb hts ni_X9_replayedScore_X2 hown hKK.1 (wd_1 hW ((hm _).trans v_1)) 0 rfl rfl 4 (by decide) (hts (.fieldLink RX9 202 "TiltRoute$Game" "logged" "I") (List.mem_of_getElem? (i := 2) rfl)) (fun _ h => h) rfl dX9_replayedScore_11 ?_
      refine lv_icmp_ge (tgt := 62) hx hb dX9_replayedScore_14 (by decide) (fun k14 => ?_) (fun k14 => ?_)
      · have hf := (op_if hf).1 k14
        refine lv_aload_n hx hb dX9_replayedScore_62 rfl (lv_at hl 1 rfl) ?_
        refine va_get hx hb hts ni_X9_replayedScore_X9 hown hKK.1 (wd_1 hW ((hm _).trans v_z)) 0 rfl rfl 5 (by decide) (hts (.fieldLink RX9 36 "TiltRoute" "replay" "LTiltRoute$Play;") (List.mem_of_getElem? (i := 1) rfl)) (fun _ h => h) rfl dX9_replayedScore_63 ?_
        have v12 : zV S (6, 1, 0) = true := (hm _).symm.trans (vf_10_5 hW ((hm _).trans v_z))
        refine va_get hx hb hts ni_X9_replayedScore_X5 hown hKK.1 (wd_1 hW ((hm _).trans v12)) 0 rfl rfl 3 (by decide) (hts (.fieldLink RX9 173 "TiltRoute$Play" "score" "I") (List.mem_of_getElem? (i := 4) rfl)) (fun _ h => h) rfl dX9_replayedScore_66 ?_
        have hf := zr_r hf hr10
        rw [← hf]
        exact z_iret hx hb hr hlocks rfl hW hS hm trivial dX9_replayedScore_69
      · have hf := (op_if hf).2 k14
        refine lv_aload_n hx hb dX9_replayedScore_17 rfl (lv_at hl 2 rfl) ?_
        refine lv_iload_n hx hb dX9_replayedScore_18 rfl (lv_at hl 0 rfl) ?_
        obtain ⟨r13, hc14, hf⟩ := op_cl hf
        refine z_callV (As := [.int q6.1]) (rest := []) ⟨hx, hb, hml, hown, hts⟩ (tX2_entryOf l Γ lo q6.2 X ((hm _).trans v_1) hc14) (cwV 1 hts gX9_replayedScore_X2_entryOf rfl rfl rfl (by decide +kernel) ⟨Nat.le_of_ble_eq_true rfl, Nat.le_of_ble_eq_true rfl⟩) (wd_1 hW ((hm _).trans v_1)) rfl hKK hW hS rfl hl.1 rfl (Nat.le_of_ble_eq_true rfl) dX9_replayedScore_19 ⟨Nat.zero_le _, Nat.zero_le _⟩ (fun H locs hW hS hm1 hE => ?_)
        obtain ⟨x15, ex15, hf⟩ := op_st hf
        refine z_lst (lv' := [(4, .long x15), (3, .int q6.1), (0, .ref (lo (10, 0, 0))), (1, .ref (lo (3, a_1, 0))), (2, .int i_2)]) ex15 hx hb dX9_replayedScore_22 hl (by decide) rfl (fun ls hl => ?_)
        refine lv_iload_n hx hb dX9_replayedScore_24 rfl (lv_at hl 4 rfl) ?_
        obtain ⟨j17, ej17, hf⟩ := op_st hf
        have hj17 : ∀ (S16 : zSt) (H : Heap) (locs : List Loc) (ls : Array Slot), lv_has ls 6 [(3, .int q6.1), (0, .ref (lo (10, 0, 0))), (1, .ref (lo (3, a_1, 0))), (2, .int i_2)] → Wd Γ lo S16 X H → va_S (zA Γ) s.heap H locs → (∀ c, zV S16 c = zV S c) → j17 S16 = some r7 → W p l e (headSpec wsX9_replayedScore rmX9_replayedScore).room s m ([.ref (lo (10, 0, 0)), .ref (lo (3, a_1, 0)), .int i_2] : List Value).toArray below meth c H locs 0 0 (MQ below (zQ0 Γ lo S y.2 X (some (.int y.1)) True) ([.ref (lo (10, 0, 0)), .ref (lo (3, a_1, 0)), .int i_2] : List Value).toArray s 0 0 (zA Γ)) (F0 m 56 ls []) := by
          intro S16 H locs ls  hl hW hS hm hf
          rw [ej17] at hf
          obtain ⟨x18, ex18, hf⟩ := op_st hf
          refine lv_iinc (v := x18) (lv' := [(3, .int x18), (0, .ref (lo (10, 0, 0))), (1, .ref (lo (3, a_1, 0))), (2, .int i_2)]) hx hb dX9_replayedScore_56 hl (k := 0) rfl (by rw [ex18]; rfl) (by decide) rfl (fun ls hl => ?_)
          refine lv_goto (tgt := 9) hx hb dX9_replayedScore_59 (by decide) ?_
          have hf := zr_l hf hr10
          exact ih9 (x18, S16) H locs ls (lv_sub hl [0, 1, 2, 3] rfl) hW hS hm hf
        obtain ⟨j19, ej19, hf⟩ := op_st hf
        have hj19 : ∀ (u_ : Unit) (H : Heap) (locs : List Loc) (ls : Array Slot), lv_has ls 6 [(4, .long x15), (3, .int q6.1), (0, .ref (lo (10, 0, 0))), (1, .ref (lo (3, a_1, 0))), (2, .int i_2)] → Wd Γ lo q6.2 X H → va_S (zA Γ) s.heap H locs → (∀ c, zV q6.2 c = zV S c) → j19 () = some r7 → W p l e (headSpec wsX9_replayedScore rmX9_replayedScore).room s m ([.ref (lo (10, 0, 0)), .ref (lo (3, a_1, 0)), .int i_2] : List Value).toArray below meth c H locs 0 0 (MQ below (zQ0 Γ lo S y.2 X (some (.int y.1)) True) ([.ref (lo (10, 0, 0)), .ref (lo (3, a_1, 0)), .int i_2] : List Value).toArray s 0 0 (zA Γ)) (F0 m 40 ls []) := by
          intro u_ H locs ls  hl hW hS hm hf
          rw [ej19] at hf
          refine lv_aload_n hx hb dX9_replayedScore_40 rfl (lv_at hl 2 rfl) ?_
          refine va_get hx hb hts ni_X9_replayedScore_X9 hown hKK.1 (wd_1 hW ((hm _).trans v_z)) 0 rfl rfl 5 (by decide) (hts (.fieldLink RX9 36 "TiltRoute" "replay" "LTiltRoute$Play;") (List.mem_of_getElem? (i := 1) rfl)) (fun _ h => h) rfl dX9_replayedScore_41 ?_
          have v20 : zV S (6, 1, 0) = true := (hm _).symm.trans (vf_10_5 hW ((hm _).trans v_z))
          refine lv_aload_n hx hb dX9_replayedScore_44 rfl (lv_at hl 3 rfl) ?_
          refine va_get hx hb hts ni_X9_replayedScore_X2 hown hKK.1 (wd_1 hW ((hm _).trans v_1)) 0 rfl rfl 1 (by decide) (hts (.fieldLink RX9 332 "TiltRoute$Game" "rules" "LTiltRoute$Rules;") (List.mem_of_getElem? (i := 3) rfl)) (fun _ h => h) rfl dX9_replayedScore_45 ?_
          have v21 : zV S (7, 1, a_1) = true := (hm _).symm.trans (vf_3_1 hW ((hm _).trans v_1))
          refine lv_lload hx hb dX9_replayedScore_48 (lv_at hl 0 rfl) ?_
          obtain ⟨r22, hc23, hf⟩ := op_cl hf
          refine z_callS (As := [.long x15]) (rest := [.ref (lo (7, 1, a_1)), .ref (lo (6, 1, 0))]) ⟨hx, hb, hml, hown, hts⟩ (tX2_switchIn l Γ lo q6.2 X  hc23) (va_cwS 1 hts gX9_replayedScore_X2_switchIn rfl rfl rfl (by decide +kernel) ⟨Nat.le_of_ble_eq_true rfl, Nat.le_of_ble_eq_true rfl⟩) hKK hW hS rfl hl.1 rfl (Nat.le_of_ble_eq_true rfl) dX9_replayedScore_50 ⟨Nat.zero_le _, Nat.zero_le _⟩ (fun H locs hW hS hm1 hE => ?_)
          obtain ⟨S26, hc25, hf⟩ := op_cl hf
          refine z_callV (As := [.ref (lo (7, 1, a_1)), .int r22]) (rest := []) ⟨hx, hb, hml, hown, hts⟩ (tX5_takeSwitch l Γ lo q6.2 X ((hm _).trans v20) ((hm _).trans v21) hc25) (cwV 2 hts gX9_replayedScore_X5_takeSwitch rfl rfl rfl (by decide +kernel) ⟨Nat.le_of_ble_eq_true rfl, Nat.le_of_ble_eq_true rfl⟩) (wd_1 hW ((hm _).trans v20)) rfl hKK hW hS rfl hl.1 rfl (Nat.le_of_ble_eq_true rfl) dX9_replayedScore_53 ⟨Nat.zero_le _, Nat.zero_le _⟩ (fun H locs hW hS hm1 hE => ?_)
          have hm : ∀ c, zV S26 c = zV S c := fun c => (hm1 c).trans (hm c)
          exact hj17 S26 H locs ls  (lv_sub hl [1, 2, 3, 4] rfl) hW hS hm hf
        refine lv_if_eq (tgt := 40) hx hb dX9_replayedScore_25 (by decide) (fun k25 => ?_) (fun k25 => ?_)
        · have hf := (op_if hf).1 k25
          exact hj19 () H locs ls  (lv_sub hl [0, 1, 2, 3, 4] rfl) hW hS hm hf
        · have hf := (op_if hf).2 k25
          refine lv_aload_n hx hb dX9_replayedScore_28 rfl (lv_at hl 2 rfl) ?_
          refine lv_lload hx hb dX9_replayedScore_29 (lv_at hl 0 rfl) ?_
          obtain ⟨r27, hc28, hf⟩ := op_cl hf
          refine z_callS (As := [.long x15]) (rest := [.ref (lo (10, 0, 0))]) ⟨hx, hb, hml, hown, hts⟩ (tX2_stickingIn l Γ lo q6.2 X  hc28) (va_cwS 1 hts gX9_replayedScore_X2_stickingIn rfl rfl rfl (by decide +kernel) ⟨Nat.le_of_ble_eq_true rfl, Nat.le_of_ble_eq_true rfl⟩) hKK hW hS rfl hl.1 rfl (Nat.le_of_ble_eq_true rfl) dX9_replayedScore_31 ⟨Nat.zero_le _, Nat.zero_le _⟩ (fun H locs hW hS hm1 hE => ?_)
          obtain ⟨r29, hc30, hf⟩ := op_cl hf
          refine z_callV (As := [.int r27]) (rest := []) ⟨hx, hb, hml, hown, hts⟩ (tX9_isMended l Γ lo q6.2 X ((hm _).trans v_z) hc30) (cwV 1 hts gX9_replayedScore_X9_isMended rfl rfl rfl (by decide +kernel) ⟨Nat.le_of_ble_eq_true rfl, Nat.le_of_ble_eq_true rfl⟩) (wd_1 hW ((hm _).trans v_z)) rfl hKK hW hS rfl hl.1 rfl (Nat.le_of_ble_eq_true rfl) dX9_replayedScore_34 ⟨Nat.zero_le _, Nat.zero_le _⟩ (fun H locs hW hS hm1 hE => ?_)
          have b31 := hE
          refine lv_if_ne (tgt := 56) hx hb dX9_replayedScore_37 (by decide) (fun k37 => ?_) (fun k37 => ?_)
          · have hf := (op_if hf).2 k37
            exact hj17 q6.2 H locs ls  (lv_sub hl [1, 2, 3, 4] rfl) hW hS hm hf
          · have hf := (op_if hf).1 k37
            exact hj19 () H locs ls  (lv_sub hl [0, 1, 2, 3, 4] rfl) hW hS hm hf
  rw [eq60] at hf
  exact hw8 _ (x5, S4) H locs ls (lv_sub hl [0, 1, 2, 3] rfl) hW hS hm hf

theorem ni_X9_ranksAt_X2 : ∀ w ∈ wsX20, w ∈ wsX9_ranksAt := by decide +kernel
theorem ni_X9_ranksAt_X9 : ∀ w ∈ wsX90, w ∈ wsX9_ranksAt := by decide +kernel
def fX9_ranksAt (S : zSt) (i_1 : Int32) (i_2 : Int32) : Option Int32 :=
st (fun (u_ : Unit) => (some ((0 : Int32)) : Option Int32)) fun j1 =>
if i_1 < 0 then
j1 ()
else
cl (fJ_size S 1) fun r3 =>
if r3 ≤ i_1 then
j1 ()
else
cl (fJ_get S 1 i_1) fun r6 =>
if (zI S (3, r6, 0) 0) = i_2 then
cl (fJ_get S 1 i_1) fun r10 =>
cl (fX2_isOver S r10) fun r13 =>
if r13 = 0 then
j1 ()
else
some ((1 : Int32))
else
j1 ()
abbrev rmX9_ranksAt : Room := { frames := 3, cells := 0, slots := 0, locals := 64 }
set_option maxHeartbeats 4000000 in
set_option maxRecDepth 100000 in
theorem tX9_ranksAt (l : Launch) (Γ : zG) (lo : zId → Nat) (S : zSt) (X : va_W) {i_1 : Int32} {i_2 : Int32} (v_z : zV S (10, 0, 0) = true) {y : Int32} (hf : fX9_ranksAt S i_1 i_2 = some y) : Met l yX9_ranksAt wsX9_ranksAt rmX9_ranksAt (zP0 Γ lo S X [.ref (lo (10, 0, 0)), .int i_1, .int i_2]) (zQ0 Γ lo S S X (some (.int y)) (y = 0 ∨ y = 1)) 0 0 (zA Γ) := by
  refine Met.ofW (cc := cX9_ranksAt) (maxL := 3) (ret := (some .boolean)) (by decide) rfl ?_
  intro p e s m args below meth c s₁ B hml hv
  obtain ⟨rfl, hW, hKK⟩ := hv
  have hx := B.exec
  have hb := B.bytes
  have hr := B.returns
  have hts := atoms_spec (ws := wsX9_ranksAt) B.pre
  have hown : s.vm.findClass RX9 = some m.cls := findClass_of_methodNamed B.named
  have hlocks := B.notSynchronized
  have hS : va_S (zA Γ) s.heap s.heap [] := va_S.rf
  have hm : ∀ c, zV S c = zV S c := fun _ => rfl
  have hl := lv_entry ([.ref (lo (10, 0, 0)), .int i_1, .int i_2]) (n := 3) (Nat.le_of_ble_eq_true rfl)
  rw [lg_entry_eq]
  generalize (lg_sl ([.ref (lo (10, 0, 0)), .int i_1, .int i_2]) ++ List.replicate (3 - (lg_sl ([.ref (lo (10, 0, 0)), .int i_1, .int i_2])).length) Slot.unset).toArray = ls at hl ⊢
  have hl : lv_has ls 3 [(0, .ref (lo (10, 0, 0))), (1, .int i_1), (2, .int i_2)] := hl
  obtain ⟨H, hH0⟩ : ∃ H, H = s.heap := ⟨_, rfl⟩
  obtain ⟨locs, hlo0⟩ : ∃ L : List Loc, L = [] := ⟨_, rfl⟩
  have hS : va_S (zA Γ) s.heap H locs := by rw [hH0, hlo0]; exact hS
  have hW : Wd Γ lo S X H := by rw [hH0]; exact hW
  rw [← hH0, ← hlo0]
  unfold fX9_ranksAt at hf
  refine lv_iload_n hx hb dX9_ranksAt_0 rfl (lv_at hl 1 rfl) ?_
  obtain ⟨j1, ej1, hf⟩ := op_st hf
  have hj1 : ∀ (u_ : Unit) (H : Heap) (locs : List Loc) (ls : Array Slot), lv_has ls 3 [] → Wd Γ lo S X H → va_S (zA Γ) s.heap H locs → (∀ c, zV S c = zV S c) → j1 () = some y → W p l e (headSpec wsX9_ranksAt rmX9_ranksAt).room s m ([.ref (lo (10, 0, 0)), .int i_1, .int i_2] : List Value).toArray below meth c H locs 0 0 (MQ below (zQ0 Γ lo S S X (some (.int y)) (y = 0 ∨ y = 1)) ([.ref (lo (10, 0, 0)), .int i_1, .int i_2] : List Value).toArray s 0 0 (zA Γ)) (F0 m 54 ls []) := by
    intro u_ H locs ls  hl hW hS hm hf
    rw [ej1] at hf
    refine lv_iconst (v := (0)) hx hb dX9_ranksAt_54 (by decide) ?_
    have hf := Option.some.inj hf
    rw [← hf]
    exact z_iret hx hb hr hlocks (z_bb (Or.inl rfl)) hW hS hm (Or.inl rfl) dX9_ranksAt_55
  refine lv_if_lt (tgt := 54) hx hb dX9_ranksAt_1 (by decide) (fun k1 => ?_) (fun k1 => ?_)
  · have hf := (op_if hf).1 k1
    exact hj1 () H locs ls  (lv_sub hl [] rfl) hW hS hm hf
  · have hf := (op_if hf).2 k1
    refine lv_iload_n hx hb dX9_ranksAt_4 rfl (lv_at hl 1 rfl) ?_
    refine lv_aload_n hx hb dX9_ranksAt_5 rfl (lv_at hl 0 rfl) ?_
    refine va_get hx hb hts ni_X9_ranksAt_X9 hown hKK.1 (wd_1 hW v_z) 0 rfl rfl 1 (by decide) (hts (.fieldLink RX9 16 "TiltRoute" "games" "Ljava/util/ArrayList;") (List.mem_of_getElem? (i := 1) rfl)) (fun _ h => h) rfl dX9_ranksAt_6 ?_
    have v2 : zV S (0, 1, 0) = true := vf_10_1 hW v_z
    obtain ⟨r3, hc4, hf⟩ := op_cl hf
    refine z_callV (As := []) (rest := [.int i_1]) ⟨hx, hb, hml, hown, hts⟩ (tJ_size l Γ lo S X v2 hc4) (cwV 0 hts gX9_ranksAt_Jx4a65c_size_8abf5 rfl rfl rfl (by decide +kernel) ⟨Nat.le_of_ble_eq_true rfl, Nat.le_of_ble_eq_true rfl⟩) (wd_1 hW v2) rfl hKK hW hS rfl hl.1 rfl (Nat.le_of_ble_eq_true rfl) dX9_ranksAt_9 ⟨Nat.zero_le _, Nat.zero_le _⟩ (fun H locs hW hS hm1 hE => ?_)
    refine lv_icmp_ge (tgt := 54) hx hb dX9_ranksAt_12 (by decide) (fun k12 => ?_) (fun k12 => ?_)
    · have hf := (op_if hf).1 k12
      exact hj1 () H locs ls  (lv_sub hl [] rfl) hW hS hm hf
    · have hf := (op_if hf).2 k12
      refine lv_aload_n hx hb dX9_ranksAt_15 rfl (lv_at hl 0 rfl) ?_
      refine va_get hx hb hts ni_X9_ranksAt_X9 hown hKK.1 (wd_1 hW v_z) 0 rfl rfl 1 (by decide) (hts (.fieldLink RX9 16 "TiltRoute" "games" "Ljava/util/ArrayList;") (List.mem_of_getElem? (i := 1) rfl)) (fun _ h => h) rfl dX9_ranksAt_16 ?_
      have v5 : zV S (0, 1, 0) = true := vf_10_1 hW v_z
      refine lv_iload_n hx hb dX9_ranksAt_19 rfl (lv_at hl 1 rfl) ?_
      obtain ⟨r6, hc7, hf⟩ := op_cl hf
      refine z_callV (As := [.int i_1]) (rest := []) ⟨hx, hb, hml, hown, hts⟩ (tJ_get l Γ lo S X v5 hc7) (cwV 1 hts gX9_ranksAt_Jx4a65c_get_915e3 rfl rfl rfl (by decide +kernel) ⟨Nat.le_of_ble_eq_true rfl, Nat.le_of_ble_eq_true rfl⟩) (wd_1 hW v5) rfl hKK hW hS rfl hl.1 rfl (Nat.le_of_ble_eq_true rfl) dX9_ranksAt_20 ⟨Nat.zero_le _, Nat.zero_le _⟩ (fun H locs hW hS hm1 hE => ?_)
      have v8 : zV S (3, r6, 0) = true := hE
      refine va_castE hx hb hown (hts (.classLink RX9 143 "TiltRoute$Game") (List.mem_of_getElem? (i := 2) rfl)) (va_recv (q0 := 0) hKK.1 (wd_1 hW v8) (ci := 3) rfl rfl) dX9_ranksAt_23 ?_
      refine va_get hx hb hts ni_X9_ranksAt_X2 hown hKK.1 (wd_1 hW v8) 0 rfl rfl 0 (by decide) (hts (.fieldLink RX9 340 "TiltRoute$Game" "table" "I") (List.mem_of_getElem? (i := 3) rfl)) (fun _ h => h) rfl dX9_ranksAt_26 ?_
      refine lv_iload_n hx hb dX9_ranksAt_29 rfl (lv_at hl 2 rfl) ?_
      refine lv_icmp_ne (tgt := 54) hx hb dX9_ranksAt_30 (by decide) (fun k30 => ?_) (fun k30 => ?_)
      · have hf := (op_if hf).2 k30
        exact hj1 () H locs ls  (lv_sub hl [] rfl) hW hS hm hf
      · have hf := (op_if hf).1 k30
        refine lv_aload_n hx hb dX9_ranksAt_33 rfl (lv_at hl 0 rfl) ?_
        refine va_get hx hb hts ni_X9_ranksAt_X9 hown hKK.1 (wd_1 hW v_z) 0 rfl rfl 1 (by decide) (hts (.fieldLink RX9 16 "TiltRoute" "games" "Ljava/util/ArrayList;") (List.mem_of_getElem? (i := 1) rfl)) (fun _ h => h) rfl dX9_ranksAt_34 ?_
        have v9 : zV S (0, 1, 0) = true := vf_10_1 hW v_z
        refine lv_iload_n hx hb dX9_ranksAt_37 rfl (lv_at hl 1 rfl) ?_
        obtain ⟨r10, hc11, hf⟩ := op_cl hf
        refine z_callV (As := [.int i_1]) (rest := []) ⟨hx, hb, hml, hown, hts⟩ (tJ_get l Γ lo S X v9 hc11) (cwV 1 hts gX9_ranksAt_Jx4a65c_get_915e3 rfl rfl rfl (by decide +kernel) ⟨Nat.le_of_ble_eq_true rfl, Nat.le_of_ble_eq_true rfl⟩) (wd_1 hW v9) rfl hKK hW hS rfl hl.1 rfl (Nat.le_of_ble_eq_true rfl) dX9_ranksAt_38 ⟨Nat.zero_le _, Nat.zero_le _⟩ (fun H locs hW hS hm1 hE => ?_)
        have v12 : zV S (3, r10, 0) = true := hE
        refine va_castE hx hb hown (hts (.classLink RX9 143 "TiltRoute$Game") (List.mem_of_getElem? (i := 2) rfl)) (va_recv (q0 := 0) hKK.1 (wd_1 hW v12) (ci := 3) rfl rfl) dX9_ranksAt_41 ?_
        obtain ⟨r13, hc14, hf⟩ := op_cl hf
        refine z_callV (As := []) (rest := []) ⟨hx, hb, hml, hown, hts⟩ (tX2_isOver l Γ lo S X v12 hc14) (cwV 0 hts gX9_ranksAt_X2_isOver rfl rfl rfl (by decide +kernel) ⟨Nat.le_of_ble_eq_true rfl, Nat.le_of_ble_eq_true rfl⟩) (wd_1 hW v12) rfl hKK hW hS rfl hl.1 rfl (Nat.le_of_ble_eq_true rfl) dX9_ranksAt_44 ⟨Nat.zero_le _, Nat.zero_le _⟩ (fun H locs hW hS hm1 hE => ?_)
        have b15 := hE
        refine lv_if_eq (tgt := 54) hx hb dX9_ranksAt_47 (by decide) (fun k47 => ?_) (fun k47 => ?_)
        · have hf := (op_if hf).1 k47
          exact hj1 () H locs ls  (lv_sub hl [] rfl) hW hS hm hf
        · have hf := (op_if hf).2 k47
          refine lv_iconst (v := (1)) hx hb dX9_ranksAt_50 (by decide) ?_
          refine lv_goto (tgt := 55) hx hb dX9_ranksAt_51 (by decide) ?_
          have hf := Option.some.inj hf
          rw [← hf]
          exact z_iret hx hb hr hlocks (z_bb (Or.inr rfl)) hW hS hm (Or.inr rfl) dX9_ranksAt_55

theorem ni_X9_countAhead_X9 : ∀ w ∈ wsX90, w ∈ wsX9_countAhead := by decide +kernel
def fX9_countAhead (S : zSt) (i_1 : Int32) : Option Int32 :=
st (fun (u_ : Unit) => (some ((-1 : Int32)) : Option Int32)) fun j1 =>
if i_1 < 0 then
j1 ()
else
if i_1 < (40 : Int32) then
st (0 : Int32) fun x3 =>
st (0 : Int32) fun x4 =>
lp (fun (q5 : (Int32 × Int32)) => (cl (fJ_size S 1) fun r12 =>
if r12 ≤ q5.2 then
some (.inr (q5.1))
else
if (40 : Int32) ≤ q5.2 then
some (.inr (q5.1))
else
gd (¬ (q5.2 < 0 ∨ 40 ≤ q5.2.toNatClampNeg)) (
gd (¬ (i_1 < 0 ∨ 40 ≤ i_1.toNatClampNeg)) (
st (fun (y17 : Int32) => (st (q5.2 + (1 : Int32)) fun x19 =>
some (.inl (y17, x19)) : Option ((Int32 × Int32) ⊕ Int32))) fun j18 =>
st (fun (u_ : Unit) => (st (q5.1 + (1 : Int32)) fun x21 =>
j18 x21 : Option ((Int32 × Int32) ⊕ Int32))) fun j20 =>
if (zI S (22, 0, 0) i_1.toNatClampNeg) < (zI S (22, 0, 0) q5.2.toNatClampNeg) then
j20 ()
else
gd (¬ (q5.2 < 0 ∨ 40 ≤ q5.2.toNatClampNeg)) (
gd (¬ (i_1 < 0 ∨ 40 ≤ i_1.toNatClampNeg)) (
if (zI S (22, 0, 0) q5.2.toNatClampNeg) = (zI S (22, 0, 0) i_1.toNatClampNeg) then
if i_1 ≤ q5.2 then
j18 q5.1
else
j20 ()
else
j18 q5.1)))) : Option ((Int32 × Int32) ⊕ Int32))) 40000 (x3, x4)
else
j1 ()
abbrev rmX9_countAhead : Room := { frames := 1, cells := 0, slots := 0, locals := 20 }
set_option maxHeartbeats 4000000 in
set_option maxRecDepth 100000 in
theorem tX9_countAhead (l : Launch) (Γ : zG) (lo : zId → Nat) (S : zSt) (X : va_W) {i_1 : Int32} (v_z : zV S (10, 0, 0) = true) {y : Int32} (hf : fX9_countAhead S i_1 = some y) : Met l yX9_countAhead wsX9_countAhead rmX9_countAhead (zP0 Γ lo S X [.ref (lo (10, 0, 0)), .int i_1]) (zQ0 Γ lo S S X (some (.int y)) True) 0 0 (zA Γ) := by
  refine Met.ofW (cc := cX9_countAhead) (maxL := 4) (ret := (some .int)) (by decide) rfl ?_
  intro p e s m args below meth c s₁ B hml hv
  obtain ⟨rfl, hW, hKK⟩ := hv
  have hx := B.exec
  have hb := B.bytes
  have hr := B.returns
  have hts := atoms_spec (ws := wsX9_countAhead) B.pre
  have hown : s.vm.findClass RX9 = some m.cls := findClass_of_methodNamed B.named
  have hlocks := B.notSynchronized
  have hS : va_S (zA Γ) s.heap s.heap [] := va_S.rf
  have hm : ∀ c, zV S c = zV S c := fun _ => rfl
  have hl := lv_entry ([.ref (lo (10, 0, 0)), .int i_1]) (n := 4) (Nat.le_of_ble_eq_true rfl)
  rw [lg_entry_eq]
  generalize (lg_sl ([.ref (lo (10, 0, 0)), .int i_1]) ++ List.replicate (4 - (lg_sl ([.ref (lo (10, 0, 0)), .int i_1])).length) Slot.unset).toArray = ls at hl ⊢
  have hl : lv_has ls 4 [(0, .ref (lo (10, 0, 0))), (1, .int i_1)] := hl
  obtain ⟨H, hH0⟩ : ∃ H, H = s.heap := ⟨_, rfl⟩
  obtain ⟨locs, hlo0⟩ : ∃ L : List Loc, L = [] := ⟨_, rfl⟩
  have hS : va_S (zA Γ) s.heap H locs := by rw [hH0, hlo0]; exact hS
  have hW : Wd Γ lo S X H := by rw [hH0]; exact hW
  rw [← hH0, ← hlo0]
  unfold fX9_countAhead at hf
  refine lv_iload_n hx hb dX9_countAhead_0 rfl (lv_at hl 1 rfl) ?_
  obtain ⟨j1, ej1, hf⟩ := op_st hf
  have hj1 : ∀ (u_ : Unit) (H : Heap) (locs : List Loc) (ls : Array Slot), lv_has ls 4 [] → Wd Γ lo S X H → va_S (zA Γ) s.heap H locs → (∀ c, zV S c = zV S c) → j1 () = some y → W p l e (headSpec wsX9_countAhead rmX9_countAhead).room s m ([.ref (lo (10, 0, 0)), .int i_1] : List Value).toArray below meth c H locs 0 0 (MQ below (zQ0 Γ lo S S X (some (.int y)) True) ([.ref (lo (10, 0, 0)), .int i_1] : List Value).toArray s 0 0 (zA Γ)) (F0 m 13 ls []) := by
    intro u_ H locs ls  hl hW hS hm hf
    rw [ej1] at hf
    refine lv_iconst (v := (-1)) hx hb dX9_countAhead_13 (by decide) ?_
    have hf := Option.some.inj hf
    rw [← hf]
    exact z_iret hx hb hr hlocks rfl hW hS hm trivial dX9_countAhead_14
  refine lv_if_lt (tgt := 13) hx hb dX9_countAhead_1 (by decide) (fun k1 => ?_) (fun k1 => ?_)
  · have hf := (op_if hf).1 k1
    exact hj1 () H locs ls  (lv_sub hl [] rfl) hW hS hm hf
  · have hf := (op_if hf).2 k1
    refine lv_iload_n hx hb dX9_countAhead_4 rfl (lv_at hl 1 rfl) ?_
    refine lv_aload_n hx hb dX9_countAhead_5 rfl (lv_at hl 0 rfl) ?_
    refine va_get hx hb hts ni_X9_countAhead_X9 hown hKK.1 (wd_1 hW v_z) 0 rfl rfl 7 (by decide) (hts (.fieldLink RX9 47 "TiltRoute" "validScores" "[I") (List.mem_of_getElem? (i := 1) rfl)) (fun _ h => h) rfl dX9_countAhead_6 ?_
    have v2 : zV S (22, 0, 0) = true := vf_10_7 hW v_z
    refine va_alen (v := 40) hx hb hKK.1 (wd_1 hW v2) 0 0 rfl rfl (show Int32.ofNat 40 = 40 by decide) dX9_countAhead_9 ?_
    refine lv_icmp_lt (tgt := 15) hx hb dX9_countAhead_10 (by decide) (fun k10 => ?_) (fun k10 => ?_)
    · have hf := (op_if hf).1 k10
      refine lv_iconst (v := (0)) hx hb dX9_countAhead_15 (by decide) ?_
      obtain ⟨x3, ex3, hf⟩ := op_st hf
      have bx3 : x3 = 0 ∨ x3 = 1 := Or.inl ex3
      refine z_istn (lv' := [(2, .int x3), (0, .ref (lo (10, 0, 0))), (1, .int i_1)]) ex3 hx hb dX9_countAhead_16 rfl hl (by decide) rfl (fun ls hl => ?_)
      refine lv_iconst (v := (0)) hx hb dX9_countAhead_17 (by decide) ?_
      obtain ⟨x4, ex4, hf⟩ := op_st hf
      have bx4 : x4 = 0 ∨ x4 = 1 := Or.inl ex4
      refine z_istn (lv' := [(3, .int x4), (2, .int x3), (0, .ref (lo (10, 0, 0))), (1, .int i_1)]) ex4 hx hb dX9_countAhead_18 rfl hl (by decide) rfl (fun ls hl => ?_)
      obtain ⟨w7, q50, ew7, eq50, hf⟩ := op_lb hf
      have hw7 : ∀ n10 : Nat, ∀ (q5 : (Int32 × Int32)) (H : Heap) (locs : List Loc) (ls : Array Slot), lv_has ls 4 [(3, .int q5.2), (2, .int q5.1), (0, .ref (lo (10, 0, 0))), (1, .int i_1)] → Wd Γ lo S X H → va_S (zA Γ) s.heap H locs → (∀ c, zV S c = zV S c) → lp w7 n10 q5 = some y → W p l e (headSpec wsX9_countAhead rmX9_countAhead).room s m ([.ref (lo (10, 0, 0)), .int i_1] : List Value).toArray below meth c H locs 0 0 (MQ below (zQ0 Γ lo S S X (some (.int y)) True) ([.ref (lo (10, 0, 0)), .int i_1] : List Value).toArray s 0 0 (zA Γ)) (F0 m 19 ls []) := by
        intro n10
        induction n10 with
        | zero => intro q5 H locs ls hl hW hS hm hf; cases hf
        | succ n10 ih8 =>
          intro q5 H locs ls hl hW hS hm hf
          obtain ⟨n_, r6, hn_, hf, hr9⟩ := op_lq hf
          cases hn_
          rw [ew7] at hf
          refine lv_iload_n hx hb dX9_countAhead_19 rfl (lv_at hl 0 rfl) ?_
          refine lv_aload_n hx hb dX9_countAhead_20 rfl (lv_at hl 2 rfl) ?_
          refine va_get hx hb hts ni_X9_countAhead_X9 hown hKK.1 (wd_1 hW v_z) 0 rfl rfl 1 (by decide) (hts (.fieldLink RX9 16 "TiltRoute" "games" "Ljava/util/ArrayList;") (List.mem_of_getElem? (i := 2) rfl)) (fun _ h => h) rfl dX9_countAhead_21 ?_
          have v11 : zV S (0, 1, 0) = true := vf_10_1 hW v_z
          obtain ⟨r12, hc13, hf⟩ := op_cl hf
          refine z_callV (As := []) (rest := [.int q5.2]) ⟨hx, hb, hml, hown, hts⟩ (tJ_size l Γ lo S X v11 hc13) (cwV 0 hts gX9_countAhead_Jx4a65c_size_8abf5 rfl rfl rfl (by decide +kernel) ⟨Nat.le_of_ble_eq_true rfl, Nat.le_of_ble_eq_true rfl⟩) (wd_1 hW v11) rfl hKK hW hS rfl hl.1 rfl (Nat.le_of_ble_eq_true rfl) dX9_countAhead_24 ⟨Nat.zero_le _, Nat.zero_le _⟩ (fun H locs hW hS hm1 hE => ?_)
          refine lv_icmp_ge (tgt := 83) hx hb dX9_countAhead_27 (by decide) (fun k27 => ?_) (fun k27 => ?_)
          · have hf := (op_if hf).1 k27
            refine lv_iload_n hx hb dX9_countAhead_83 rfl (lv_at hl 1 rfl) ?_
            have hf := zr_r hf hr9
            rw [← hf]
            exact z_iret hx hb hr hlocks rfl hW hS hm trivial dX9_countAhead_84
          · have hf := (op_if hf).2 k27
            refine lv_iload_n hx hb dX9_countAhead_30 rfl (lv_at hl 0 rfl) ?_
            refine lv_aload_n hx hb dX9_countAhead_31 rfl (lv_at hl 2 rfl) ?_
            refine va_get hx hb hts ni_X9_countAhead_X9 hown hKK.1 (wd_1 hW v_z) 0 rfl rfl 7 (by decide) (hts (.fieldLink RX9 47 "TiltRoute" "validScores" "[I") (List.mem_of_getElem? (i := 1) rfl)) (fun _ h => h) rfl dX9_countAhead_32 ?_
            have v14 : zV S (22, 0, 0) = true := vf_10_7 hW v_z
            refine va_alen (v := 40) hx hb hKK.1 (wd_1 hW v14) 0 0 rfl rfl (show Int32.ofNat 40 = 40 by decide) dX9_countAhead_35 ?_
            refine lv_icmp_ge (tgt := 83) hx hb dX9_countAhead_36 (by decide) (fun k36 => ?_) (fun k36 => ?_)
            · have hf := (op_if hf).1 k36
              refine lv_iload_n hx hb dX9_countAhead_83 rfl (lv_at hl 1 rfl) ?_
              have hf := zr_r hf hr9
              rw [← hf]
              exact z_iret hx hb hr hlocks rfl hW hS hm trivial dX9_countAhead_84
            · have hf := (op_if hf).2 k36
              refine lv_aload_n hx hb dX9_countAhead_39 rfl (lv_at hl 2 rfl) ?_
              refine va_get hx hb hts ni_X9_countAhead_X9 hown hKK.1 (wd_1 hW v_z) 0 rfl rfl 7 (by decide) (hts (.fieldLink RX9 47 "TiltRoute" "validScores" "[I") (List.mem_of_getElem? (i := 1) rfl)) (fun _ h => h) rfl dX9_countAhead_40 ?_
              have v15 : zV S (22, 0, 0) = true := vf_10_7 hW v_z
              refine lv_iload_n hx hb dX9_countAhead_43 rfl (lv_at hl 0 rfl) ?_
              obtain ⟨h44, hf⟩ := op_gd hf
              refine va_iald hx hb hKK.1 (wd_1 hW v15) 0 0 (n := 40) rfl rfl h44 dX9_countAhead_44 ?_
              refine lv_aload_n hx hb dX9_countAhead_45 rfl (lv_at hl 2 rfl) ?_
              refine va_get hx hb hts ni_X9_countAhead_X9 hown hKK.1 (wd_1 hW v_z) 0 rfl rfl 7 (by decide) (hts (.fieldLink RX9 47 "TiltRoute" "validScores" "[I") (List.mem_of_getElem? (i := 1) rfl)) (fun _ h => h) rfl dX9_countAhead_46 ?_
              have v16 : zV S (22, 0, 0) = true := vf_10_7 hW v_z
              refine lv_iload_n hx hb dX9_countAhead_49 rfl (lv_at hl 3 rfl) ?_
              obtain ⟨h50, hf⟩ := op_gd hf
              refine va_iald hx hb hKK.1 (wd_1 hW v16) 0 0 (n := 40) rfl rfl h50 dX9_countAhead_50 ?_
              obtain ⟨j18, ej18, hf⟩ := op_st hf
              have hj18 : ∀ (y17 : Int32) (H : Heap) (locs : List Loc) (ls : Array Slot), lv_has ls 4 [(3, .int q5.2), (0, .ref (lo (10, 0, 0))), (1, .int i_1), (2, .int y17)] → Wd Γ lo S X H → va_S (zA Γ) s.heap H locs → (∀ c, zV S c = zV S c) → j18 y17 = some r6 → W p l e (headSpec wsX9_countAhead rmX9_countAhead).room s m ([.ref (lo (10, 0, 0)), .int i_1] : List Value).toArray below meth c H locs 0 0 (MQ below (zQ0 Γ lo S S X (some (.int y)) True) ([.ref (lo (10, 0, 0)), .int i_1] : List Value).toArray s 0 0 (zA Γ)) (F0 m 77 ls []) := by
                intro y17 H locs ls  hl hW hS hm hf
                rw [ej18] at hf
                obtain ⟨x19, ex19, hf⟩ := op_st hf
                refine lv_iinc (v := x19) (lv' := [(3, .int x19), (0, .ref (lo (10, 0, 0))), (1, .int i_1), (2, .int y17)]) hx hb dX9_countAhead_77 hl (k := 0) rfl (by rw [ex19]; rfl) (by decide) rfl (fun ls hl => ?_)
                refine lv_goto (tgt := 19) hx hb dX9_countAhead_80 (by decide) ?_
                have hf := zr_l hf hr9
                exact ih8 (y17, x19) H locs ls (lv_sub hl [0, 3, 1, 2] rfl) hW hS hm hf
              obtain ⟨j20, ej20, hf⟩ := op_st hf
              have hj20 : ∀ (u_ : Unit) (H : Heap) (locs : List Loc) (ls : Array Slot), lv_has ls 4 [(3, .int q5.2), (2, .int q5.1), (0, .ref (lo (10, 0, 0))), (1, .int i_1)] → Wd Γ lo S X H → va_S (zA Γ) s.heap H locs → (∀ c, zV S c = zV S c) → j20 () = some r6 → W p l e (headSpec wsX9_countAhead rmX9_countAhead).room s m ([.ref (lo (10, 0, 0)), .int i_1] : List Value).toArray below meth c H locs 0 0 (MQ below (zQ0 Γ lo S S X (some (.int y)) True) ([.ref (lo (10, 0, 0)), .int i_1] : List Value).toArray s 0 0 (zA Γ)) (F0 m 74 ls []) := by
                intro u_ H locs ls  hl hW hS hm hf
                rw [ej20] at hf
                obtain ⟨x21, ex21, hf⟩ := op_st hf
                refine lv_iinc (v := x21) (lv' := [(2, .int x21), (3, .int q5.2), (0, .ref (lo (10, 0, 0))), (1, .int i_1)]) hx hb dX9_countAhead_74 hl (k := 1) rfl (by rw [ex21]; rfl) (by decide) rfl (fun ls hl => ?_)
                exact hj18 x21 H locs ls  (lv_sub hl [1, 2, 3, 0] rfl) hW hS hm hf
              refine lv_icmp_gt (tgt := 74) hx hb dX9_countAhead_51 (by decide) (fun k51 => ?_) (fun k51 => ?_)
              · have hf := (op_if hf).1 k51
                exact hj20 () H locs ls  (lv_sub hl [0, 1, 2, 3] rfl) hW hS hm hf
              · have hf := (op_if hf).2 k51
                refine lv_aload_n hx hb dX9_countAhead_54 rfl (lv_at hl 2 rfl) ?_
                refine va_get hx hb hts ni_X9_countAhead_X9 hown hKK.1 (wd_1 hW v_z) 0 rfl rfl 7 (by decide) (hts (.fieldLink RX9 47 "TiltRoute" "validScores" "[I") (List.mem_of_getElem? (i := 1) rfl)) (fun _ h => h) rfl dX9_countAhead_55 ?_
                have v22 : zV S (22, 0, 0) = true := vf_10_7 hW v_z
                refine lv_iload_n hx hb dX9_countAhead_58 rfl (lv_at hl 0 rfl) ?_
                obtain ⟨h59, hf⟩ := op_gd hf
                refine va_iald hx hb hKK.1 (wd_1 hW v22) 0 0 (n := 40) rfl rfl h59 dX9_countAhead_59 ?_
                refine lv_aload_n hx hb dX9_countAhead_60 rfl (lv_at hl 2 rfl) ?_
                refine va_get hx hb hts ni_X9_countAhead_X9 hown hKK.1 (wd_1 hW v_z) 0 rfl rfl 7 (by decide) (hts (.fieldLink RX9 47 "TiltRoute" "validScores" "[I") (List.mem_of_getElem? (i := 1) rfl)) (fun _ h => h) rfl dX9_countAhead_61 ?_
                have v23 : zV S (22, 0, 0) = true := vf_10_7 hW v_z
                refine lv_iload_n hx hb dX9_countAhead_64 rfl (lv_at hl 3 rfl) ?_
                obtain ⟨h65, hf⟩ := op_gd hf
                refine va_iald hx hb hKK.1 (wd_1 hW v23) 0 0 (n := 40) rfl rfl h65 dX9_countAhead_65 ?_
                refine lv_icmp_ne (tgt := 77) hx hb dX9_countAhead_66 (by decide) (fun k66 => ?_) (fun k66 => ?_)
                · have hf := (op_if hf).2 k66
                  exact hj18 q5.1 H locs ls  (lv_sub hl [0, 2, 3, 1] rfl) hW hS hm hf
                · have hf := (op_if hf).1 k66
                  refine lv_iload_n hx hb dX9_countAhead_69 rfl (lv_at hl 0 rfl) ?_
                  refine lv_iload_n hx hb dX9_countAhead_70 rfl (lv_at hl 3 rfl) ?_
                  refine lv_icmp_ge (tgt := 77) hx hb dX9_countAhead_71 (by decide) (fun k71 => ?_) (fun k71 => ?_)
                  · have hf := (op_if hf).1 k71
                    exact hj18 q5.1 H locs ls  (lv_sub hl [0, 2, 3, 1] rfl) hW hS hm hf
                  · have hf := (op_if hf).2 k71
                    exact hj20 () H locs ls  (lv_sub hl [0, 1, 2, 3] rfl) hW hS hm hf
      rw [eq50] at hf
      exact hw7 _ (x3, x4) H locs ls (lv_sub hl [0, 1, 2, 3] rfl) hW hS hm hf
    · have hf := (op_if hf).2 k10
      exact hj1 () H locs ls  (lv_sub hl [] rfl) hW hS hm hf

theorem ni_X9_mendSwitches_X1 : ∀ w ∈ wsX10, w ∈ wsX9_mendSwitches := by decide +kernel
theorem ni_X9_mendSwitches_X7 : ∀ w ∈ wsX70, w ∈ wsX9_mendSwitches := by decide +kernel
theorem ni_X9_mendSwitches_X9 : ∀ w ∈ wsX90, w ∈ wsX9_mendSwitches := by decide +kernel
def fX9_mendSwitches (S : zSt) (a_1 : Nat) (a_2 : Nat) : Option zSt :=
st (0 : Int32) fun x1 =>
lp (fun (q2 : (Int32 × zSt)) => (cl (fJ_size q2.2 (a_1 + 2)) fun r9 =>
if r9 ≤ q2.1 then
some (.inr (q2.2))
else
cl (fJ_get q2.2 (a_1 + 2) q2.1) fun r12 =>
st (zI q2.2 (2, a_1, r12) 6) fun x15 =>
st (fun (S16 : zSt) => (st (q2.1 + (1 : Int32)) fun x18 =>
some (.inl (x18, S16)) : Option ((Int32 × zSt) ⊕ zSt))) fun j17 =>
if x15 < 0 then
j17 q2.2
else
if (60 : Int32) ≤ x15 then
j17 q2.2
else
cl2 (fX8_takeSpare q2.2 a_2 (0 : Int32)) fun r20 S22 =>
if r20 = 0 then
j17 S22
else
gd (¬ (x15 < 0 ∨ 60 ≤ x15.toNatClampNeg)) (
st (pI S22 (21, 0, 0) x15.toNatClampNeg (vp_nar .boolean (1 : Int32))) fun S25 =>
st (pI S25 (2, a_1, r12) 6 (-1 : Int32)) fun S26 =>
j17 S26) : Option ((Int32 × zSt) ⊕ zSt))) 40000 (x1, S)
abbrev rmX9_mendSwitches : Room := { frames := 3, cells := 0, slots := 0, locals := 64 }
set_option maxHeartbeats 4000000 in
set_option maxRecDepth 100000 in
theorem tX9_mendSwitches (l : Launch) (Γ : zG) (lo : zId → Nat) (S : zSt) (X : va_W) {a_1 : Nat} {a_2 : Nat} (v_z : zV S (10, 0, 0) = true) (v_1 : zV S (8, a_1, 0) = true) (v_2 : zV S (9, a_2, 0) = true) {y : zSt} (hf : fX9_mendSwitches S a_1 a_2 = some y) : Met l yX9_mendSwitches wsX9_mendSwitches rmX9_mendSwitches (zP0 Γ lo S X [.ref (lo (10, 0, 0)), .ref (lo (8, a_1, 0)), .ref (lo (9, a_2, 0))]) (zQ0 Γ lo S y X none True) 0 0 (zA Γ) := by
  refine Met.ofW (cc := cX9_mendSwitches) (maxL := 6) (ret := none) (by decide) rfl ?_
  intro p e s m args below meth c s₁ B hml hv
  obtain ⟨rfl, hW, hKK⟩ := hv
  have hx := B.exec
  have hb := B.bytes
  have hr := B.returns
  have hts := atoms_spec (ws := wsX9_mendSwitches) B.pre
  have hown : s.vm.findClass RX9 = some m.cls := findClass_of_methodNamed B.named
  have hlocks := B.notSynchronized
  have hS : va_S (zA Γ) s.heap s.heap [] := va_S.rf
  have hm : ∀ c, zV S c = zV S c := fun _ => rfl
  have hl := lv_entry ([.ref (lo (10, 0, 0)), .ref (lo (8, a_1, 0)), .ref (lo (9, a_2, 0))]) (n := 6) (Nat.le_of_ble_eq_true rfl)
  rw [lg_entry_eq]
  generalize (lg_sl ([.ref (lo (10, 0, 0)), .ref (lo (8, a_1, 0)), .ref (lo (9, a_2, 0))]) ++ List.replicate (6 - (lg_sl ([.ref (lo (10, 0, 0)), .ref (lo (8, a_1, 0)), .ref (lo (9, a_2, 0))])).length) Slot.unset).toArray = ls at hl ⊢
  have hl : lv_has ls 6 [(0, .ref (lo (10, 0, 0))), (1, .ref (lo (8, a_1, 0))), (2, .ref (lo (9, a_2, 0)))] := hl
  obtain ⟨H, hH0⟩ : ∃ H, H = s.heap := ⟨_, rfl⟩
  obtain ⟨locs, hlo0⟩ : ∃ L : List Loc, L = [] := ⟨_, rfl⟩
  have hS : va_S (zA Γ) s.heap H locs := by rw [hH0, hlo0]; exact hS
  have hW : Wd Γ lo S X H := by rw [hH0]; exact hW
  rw [← hH0, ← hlo0]
  unfold fX9_mendSwitches at hf
  refine lv_iconst (v := (0)) hx hb dX9_mendSwitches_0 (by decide) ?_
  obtain ⟨x1, ex1, hf⟩ := op_st hf
  have bx1 : x1 = 0 ∨ x1 = 1 := Or.inl ex1
  refine z_istn (lv' := [(3, .int x1), (0, .ref (lo (10, 0, 0))), (1, .ref (lo (8, a_1, 0))), (2, .ref (lo (9, a_2, 0)))]) ex1 hx hb dX9_mendSwitches_1 rfl hl (by decide) rfl (fun ls hl => ?_)
  obtain ⟨w4, q20, ew4, eq20, hf⟩ := op_lb hf
  have hw4 : ∀ n7 : Nat, ∀ (q2 : (Int32 × zSt)) (H : Heap) (locs : List Loc) (ls : Array Slot), lv_has ls 6 [(3, .int q2.1), (0, .ref (lo (10, 0, 0))), (1, .ref (lo (8, a_1, 0))), (2, .ref (lo (9, a_2, 0)))] → Wd Γ lo q2.2 X H → va_S (zA Γ) s.heap H locs → (∀ c, zV q2.2 c = zV S c) → lp w4 n7 q2 = some y → W p l e (headSpec wsX9_mendSwitches rmX9_mendSwitches).room s m ([.ref (lo (10, 0, 0)), .ref (lo (8, a_1, 0)), .ref (lo (9, a_2, 0))] : List Value).toArray below meth c H locs 0 0 (MQ below (zQ0 Γ lo S y X none True) ([.ref (lo (10, 0, 0)), .ref (lo (8, a_1, 0)), .ref (lo (9, a_2, 0))] : List Value).toArray s 0 0 (zA Γ)) (F0 m 2 ls []) := by
    intro n7
    induction n7 with
    | zero => intro q2 H locs ls hl hW hS hm hf; cases hf
    | succ n7 ih5 =>
      intro q2 H locs ls hl hW hS hm hf
      obtain ⟨n_, r3, hn_, hf, hr6⟩ := op_lq hf
      cases hn_
      rw [ew4] at hf
      refine lv_iload_n hx hb dX9_mendSwitches_2 rfl (lv_at hl 0 rfl) ?_
      refine lv_aload_n hx hb dX9_mendSwitches_3 rfl (lv_at hl 2 rfl) ?_
      refine va_get hx hb hts ni_X9_mendSwitches_X7 hown hKK.1 (wd_1 hW ((hm _).trans v_1)) 0 rfl rfl 2 (by decide) (hts (.fieldLink RX9 87 "TiltRoute$Table" "bumpers" "Ljava/util/ArrayList;") (List.mem_of_getElem? (i := 1) rfl)) (fun _ h => h) rfl dX9_mendSwitches_4 ?_
      have v8 : zV S (0, (a_1 + 2), 0) = true := (hm _).symm.trans (vf_8_2 hW ((hm _).trans v_1))
      obtain ⟨r9, hc10, hf⟩ := op_cl hf
      refine z_callV (As := []) (rest := [.int q2.1]) ⟨hx, hb, hml, hown, hts⟩ (tJ_size l Γ lo q2.2 X ((hm _).trans v8) hc10) (cwV 0 hts gX9_mendSwitches_Jx4a65c_size_8abf5 rfl rfl rfl (by decide +kernel) ⟨Nat.le_of_ble_eq_true rfl, Nat.le_of_ble_eq_true rfl⟩) (wd_1 hW ((hm _).trans v8)) rfl hKK hW hS rfl hl.1 rfl (Nat.le_of_ble_eq_true rfl) dX9_mendSwitches_7 ⟨Nat.zero_le _, Nat.zero_le _⟩ (fun H locs hW hS hm1 hE => ?_)
      refine lv_icmp_ge (tgt := 76) hx hb dX9_mendSwitches_10 (by decide) (fun k10 => ?_) (fun k10 => ?_)
      · have hf := (op_if hf).1 k10
        have hf := zr_r hf hr6
        rw [← hf]
        exact z_vret hx hb hr hlocks hW hS hm trivial dX9_mendSwitches_76
      · have hf := (op_if hf).2 k10
        refine lv_aload_n hx hb dX9_mendSwitches_13 rfl (lv_at hl 2 rfl) ?_
        refine va_get hx hb hts ni_X9_mendSwitches_X7 hown hKK.1 (wd_1 hW ((hm _).trans v_1)) 0 rfl rfl 2 (by decide) (hts (.fieldLink RX9 87 "TiltRoute$Table" "bumpers" "Ljava/util/ArrayList;") (List.mem_of_getElem? (i := 1) rfl)) (fun _ h => h) rfl dX9_mendSwitches_14 ?_
        have v11 : zV S (0, (a_1 + 2), 0) = true := (hm _).symm.trans (vf_8_2 hW ((hm _).trans v_1))
        refine lv_iload_n hx hb dX9_mendSwitches_17 rfl (lv_at hl 0 rfl) ?_
        obtain ⟨r12, hc13, hf⟩ := op_cl hf
        refine z_callV (As := [.int q2.1]) (rest := []) ⟨hx, hb, hml, hown, hts⟩ (tJ_get l Γ lo q2.2 X ((hm _).trans v11) hc13) (cwV 1 hts gX9_mendSwitches_Jx4a65c_get_915e3 rfl rfl rfl (by decide +kernel) ⟨Nat.le_of_ble_eq_true rfl, Nat.le_of_ble_eq_true rfl⟩) (wd_1 hW ((hm _).trans v11)) rfl hKK hW hS rfl hl.1 rfl (Nat.le_of_ble_eq_true rfl) dX9_mendSwitches_18 ⟨Nat.zero_le _, Nat.zero_le _⟩ (fun H locs hW hS hm1 hE => ?_)
        have v14 : zV S (2, a_1, r12) = true := (hm _).symm.trans hE
        refine va_castE hx hb hown (hts (.classLink RX9 92 "TiltRoute$Bumper") (List.mem_of_getElem? (i := 2) rfl)) (va_recv (q0 := 0) hKK.1 (wd_1 hW ((hm _).trans v14)) (ci := 2) rfl rfl) dX9_mendSwitches_21 ?_
        refine lv_astore (lv' := [(4, .ref (lo (2, a_1, r12))), (3, .int q2.1), (0, .ref (lo (10, 0, 0))), (1, .ref (lo (8, a_1, 0))), (2, .ref (lo (9, a_2, 0)))]) hx hb dX9_mendSwitches_24 hl (by decide) rfl (fun ls hl => ?_)
        refine lv_aload hx hb dX9_mendSwitches_26 (lv_at hl 0 rfl) ?_
        refine va_get hx hb hts ni_X9_mendSwitches_X1 hown hKK.1 (wd_1 hW ((hm _).trans v14)) 0 rfl rfl 6 (by decide) (hts (.fieldLink RX9 131 "TiltRoute$Bumper" "sticking" "I") (List.mem_of_getElem? (i := 3) rfl)) (fun _ h => h) rfl dX9_mendSwitches_28 ?_
        obtain ⟨x15, ex15, hf⟩ := op_st hf
        refine z_ist (lv' := [(5, .int x15), (4, .ref (lo (2, a_1, r12))), (3, .int q2.1), (0, .ref (lo (10, 0, 0))), (1, .ref (lo (8, a_1, 0))), (2, .ref (lo (9, a_2, 0)))]) ex15 hx hb dX9_mendSwitches_31 hl (by decide) rfl (fun ls hl => ?_)
        refine lv_iload hx hb dX9_mendSwitches_33 (lv_at hl 0 rfl) ?_
        obtain ⟨j17, ej17, hf⟩ := op_st hf
        have hj17 : ∀ (S16 : zSt) (H : Heap) (locs : List Loc) (ls : Array Slot), lv_has ls 6 [(3, .int q2.1), (0, .ref (lo (10, 0, 0))), (1, .ref (lo (8, a_1, 0))), (2, .ref (lo (9, a_2, 0)))] → Wd Γ lo S16 X H → va_S (zA Γ) s.heap H locs → (∀ c, zV S16 c = zV S c) → j17 S16 = some r3 → W p l e (headSpec wsX9_mendSwitches rmX9_mendSwitches).room s m ([.ref (lo (10, 0, 0)), .ref (lo (8, a_1, 0)), .ref (lo (9, a_2, 0))] : List Value).toArray below meth c H locs 0 0 (MQ below (zQ0 Γ lo S y X none True) ([.ref (lo (10, 0, 0)), .ref (lo (8, a_1, 0)), .ref (lo (9, a_2, 0))] : List Value).toArray s 0 0 (zA Γ)) (F0 m 70 ls []) := by
          intro S16 H locs ls  hl hW hS hm hf
          rw [ej17] at hf
          obtain ⟨x18, ex18, hf⟩ := op_st hf
          refine lv_iinc (v := x18) (lv' := [(3, .int x18), (0, .ref (lo (10, 0, 0))), (1, .ref (lo (8, a_1, 0))), (2, .ref (lo (9, a_2, 0)))]) hx hb dX9_mendSwitches_70 hl (k := 0) rfl (by rw [ex18]; rfl) (by decide) rfl (fun ls hl => ?_)
          refine lv_goto (tgt := 2) hx hb dX9_mendSwitches_73 (by decide) ?_
          have hf := zr_l hf hr6
          exact ih5 (x18, S16) H locs ls (lv_sub hl [0, 1, 2, 3] rfl) hW hS hm hf
        refine lv_if_lt (tgt := 70) hx hb dX9_mendSwitches_35 (by decide) (fun k35 => ?_) (fun k35 => ?_)
        · have hf := (op_if hf).1 k35
          exact hj17 q2.2 H locs ls  (lv_sub hl [2, 3, 4, 5] rfl) hW hS hm hf
        · have hf := (op_if hf).2 k35
          refine lv_iload hx hb dX9_mendSwitches_38 (lv_at hl 0 rfl) ?_
          refine lv_aload_n hx hb dX9_mendSwitches_40 rfl (lv_at hl 3 rfl) ?_
          refine va_get hx hb hts ni_X9_mendSwitches_X9 hown hKK.1 (wd_1 hW ((hm _).trans v_z)) 0 rfl rfl 4 (by decide) (hts (.fieldLink RX9 29 "TiltRoute" "mended" "[Z") (List.mem_of_getElem? (i := 4) rfl)) (fun _ h => h) rfl dX9_mendSwitches_41 ?_
          have v19 : zV S (21, 0, 0) = true := (hm _).symm.trans (vf_10_4 hW ((hm _).trans v_z))
          refine va_alen (v := 60) hx hb hKK.1 (wd_1 hW ((hm _).trans v19)) 0 2 rfl rfl (show Int32.ofNat 60 = 60 by decide) dX9_mendSwitches_44 ?_
          refine lv_icmp_ge (tgt := 70) hx hb dX9_mendSwitches_45 (by decide) (fun k45 => ?_) (fun k45 => ?_)
          · have hf := (op_if hf).1 k45
            exact hj17 q2.2 H locs ls  (lv_sub hl [2, 3, 4, 5] rfl) hW hS hm hf
          · have hf := (op_if hf).2 k45
            refine lv_aload_n hx hb dX9_mendSwitches_48 rfl (lv_at hl 5 rfl) ?_
            refine lv_iconst (v := (0)) hx hb dX9_mendSwitches_49 (by decide) ?_
            obtain ⟨r20, S22, hc21, hf⟩ := op_cl2 hf
            refine z_callV (As := [.int (0 : Int32)]) (rest := []) ⟨hx, hb, hml, hown, hts⟩ (tX8_takeSpare l Γ lo q2.2 X ((hm _).trans v_2) hc21) (cwV 1 hts gX9_mendSwitches_X8_takeSpare rfl rfl rfl (by decide +kernel) ⟨Nat.le_of_ble_eq_true rfl, Nat.le_of_ble_eq_true rfl⟩) (wd_1 hW ((hm _).trans v_2)) rfl hKK hW hS rfl hl.1 rfl (Nat.le_of_ble_eq_true rfl) dX9_mendSwitches_50 ⟨Nat.zero_le _, Nat.zero_le _⟩ (fun H locs hW hS hm1 hE => ?_)
            have hm : ∀ c, zV S22 c = zV S c := fun c => (hm1 c).trans (hm c)
            have b23 := hE
            refine lv_if_eq (tgt := 70) hx hb dX9_mendSwitches_53 (by decide) (fun k53 => ?_) (fun k53 => ?_)
            · have hf := (op_if hf).1 k53
              exact hj17 S22 H locs ls  (lv_sub hl [2, 3, 4, 5] rfl) hW hS hm hf
            · have hf := (op_if hf).2 k53
              refine lv_aload_n hx hb dX9_mendSwitches_56 rfl (lv_at hl 3 rfl) ?_
              refine va_get hx hb hts ni_X9_mendSwitches_X9 hown hKK.1 (wd_1 hW ((hm _).trans v_z)) 0 rfl rfl 4 (by decide) (hts (.fieldLink RX9 29 "TiltRoute" "mended" "[Z") (List.mem_of_getElem? (i := 4) rfl)) (fun _ h => h) rfl dX9_mendSwitches_57 ?_
              have v24 : zV S (21, 0, 0) = true := (hm _).symm.trans (vf_10_4 hW ((hm _).trans v_z))
              refine lv_iload hx hb dX9_mendSwitches_60 (lv_at hl 0 rfl) ?_
              refine lv_iconst (v := (1)) hx hb dX9_mendSwitches_62 (by decide) ?_
              obtain ⟨h63, hf⟩ := op_gd hf
              obtain ⟨S25, eS25, hf⟩ := op_st hf
              refine g_zast (n := 60) hx hb hKK.1 hW hS ((hm _).trans v24) (fun _ _ _ _ => rfl) h63 dX9_mendSwitches_63 eS25 (fun H locs hW hS => ?_)
              have hm : ∀ c, zV S25 c = zV S c := fun c => by rw [eS25]; exact hm c
              refine lv_aload hx hb dX9_mendSwitches_64 (lv_at hl 1 rfl) ?_
              refine lv_iconst (v := (-1)) hx hb dX9_mendSwitches_66 (by decide) ?_
              obtain ⟨S26, eS26, hf⟩ := op_st hf
              refine g_put hx hb hts ni_X9_mendSwitches_X1 tyX1 tyX1_ok nmX1 hown hKK.1 hW hS ((hm _).trans v14) rfl rfl 6 (by decide) (hts (.fieldLink RX9 131 "TiltRoute$Bumper" "sticking" "I") (List.mem_of_getElem? (i := 3) rfl)) rfl rfl rfl (show 6 < 7 by decide) rfl dX9_mendSwitches_67 eS26 (fun H locs hW hS => ?_)
              have hm : ∀ c, zV S26 c = zV S c := fun c => by rw [eS26]; exact hm c
              exact hj17 S26 H locs ls  (lv_sub hl [2, 3, 4, 5] rfl) hW hS hm hf
  rw [eq20] at hf
  exact hw4 _ (x1, S) H locs ls (lv_sub hl [0, 1, 2, 3] rfl) hW hS hm hf

theorem ni_X9_mendCoils_X1 : ∀ w ∈ wsX10, w ∈ wsX9_mendCoils := by decide +kernel
theorem ni_X9_mendCoils_X7 : ∀ w ∈ wsX70, w ∈ wsX9_mendCoils := by decide +kernel
def fX9_mendCoils (S : zSt) (a_1 : Nat) (a_2 : Nat) : Option zSt :=
st (0 : Int32) fun x1 =>
lp (fun (q2 : (Int32 × zSt)) => (cl (fJ_size q2.2 (a_1 + 2)) fun r9 =>
if r9 ≤ q2.1 then
some (.inr (q2.2))
else
cl (fJ_get q2.2 (a_1 + 2) q2.1) fun r12 =>
cl (fX1_isBroken q2.2 a_1 r12) fun r15 =>
st (fun (S18 : zSt) => (st (q2.1 + (1 : Int32)) fun x20 =>
some (.inl (x20, S18)) : Option ((Int32 × zSt) ⊕ zSt))) fun j19 =>
if r15 = 0 then
j19 q2.2
else
cl2 (fX8_takeSpare q2.2 a_2 (1 : Int32)) fun r21 S23 =>
if r21 = 0 then
j19 S23
else
st (pI S23 (2, a_1, r12) 5 (0 : Int32)) fun S25 =>
j19 S25 : Option ((Int32 × zSt) ⊕ zSt))) 40000 (x1, S)
abbrev rmX9_mendCoils : Room := { frames := 3, cells := 0, slots := 0, locals := 64 }
set_option maxHeartbeats 4000000 in
set_option maxRecDepth 100000 in
theorem tX9_mendCoils (l : Launch) (Γ : zG) (lo : zId → Nat) (S : zSt) (X : va_W) {a_1 : Nat} {a_2 : Nat} (v_1 : zV S (8, a_1, 0) = true) (v_2 : zV S (9, a_2, 0) = true) {y : zSt} (hf : fX9_mendCoils S a_1 a_2 = some y) : Met l yX9_mendCoils wsX9_mendCoils rmX9_mendCoils (zP0 Γ lo S X [.ref (lo (8, a_1, 0)), .ref (lo (9, a_2, 0))]) (zQ0 Γ lo S y X none True) 0 0 (zA Γ) := by
  refine Met.ofW (cc := cX9_mendCoils) (maxL := 4) (ret := none) (by decide) rfl ?_
  intro p e s m args below meth c s₁ B hml hv
  obtain ⟨rfl, hW, hKK⟩ := hv
  have hx := B.exec
  have hb := B.bytes
  have hr := B.returns
  have hts := atoms_spec (ws := wsX9_mendCoils) B.pre
  have hown : s.vm.findClass RX9 = some m.cls := findClass_of_methodNamed B.named
  have hlocks := B.notSynchronized
  have hS : va_S (zA Γ) s.heap s.heap [] := va_S.rf
  have hm : ∀ c, zV S c = zV S c := fun _ => rfl
  have hl := lv_entry ([.ref (lo (8, a_1, 0)), .ref (lo (9, a_2, 0))]) (n := 4) (Nat.le_of_ble_eq_true rfl)
  rw [lg_entry_eq]
  generalize (lg_sl ([.ref (lo (8, a_1, 0)), .ref (lo (9, a_2, 0))]) ++ List.replicate (4 - (lg_sl ([.ref (lo (8, a_1, 0)), .ref (lo (9, a_2, 0))])).length) Slot.unset).toArray = ls at hl ⊢
  have hl : lv_has ls 4 [(0, .ref (lo (8, a_1, 0))), (1, .ref (lo (9, a_2, 0)))] := hl
  obtain ⟨H, hH0⟩ : ∃ H, H = s.heap := ⟨_, rfl⟩
  obtain ⟨locs, hlo0⟩ : ∃ L : List Loc, L = [] := ⟨_, rfl⟩
  have hS : va_S (zA Γ) s.heap H locs := by rw [hH0, hlo0]; exact hS
  have hW : Wd Γ lo S X H := by rw [hH0]; exact hW
  rw [← hH0, ← hlo0]
  unfold fX9_mendCoils at hf
  refine lv_iconst (v := (0)) hx hb dX9_mendCoils_0 (by decide) ?_
  obtain ⟨x1, ex1, hf⟩ := op_st hf
  have bx1 : x1 = 0 ∨ x1 = 1 := Or.inl ex1
  refine z_istn (lv' := [(2, .int x1), (0, .ref (lo (8, a_1, 0))), (1, .ref (lo (9, a_2, 0)))]) ex1 hx hb dX9_mendCoils_1 rfl hl (by decide) rfl (fun ls hl => ?_)
  obtain ⟨w4, q20, ew4, eq20, hf⟩ := op_lb hf
  have hw4 : ∀ n7 : Nat, ∀ (q2 : (Int32 × zSt)) (H : Heap) (locs : List Loc) (ls : Array Slot), lv_has ls 4 [(2, .int q2.1), (0, .ref (lo (8, a_1, 0))), (1, .ref (lo (9, a_2, 0)))] → Wd Γ lo q2.2 X H → va_S (zA Γ) s.heap H locs → (∀ c, zV q2.2 c = zV S c) → lp w4 n7 q2 = some y → W p l e (headSpec wsX9_mendCoils rmX9_mendCoils).room s m ([.ref (lo (8, a_1, 0)), .ref (lo (9, a_2, 0))] : List Value).toArray below meth c H locs 0 0 (MQ below (zQ0 Γ lo S y X none True) ([.ref (lo (8, a_1, 0)), .ref (lo (9, a_2, 0))] : List Value).toArray s 0 0 (zA Γ)) (F0 m 2 ls []) := by
    intro n7
    induction n7 with
    | zero => intro q2 H locs ls hl hW hS hm hf; cases hf
    | succ n7 ih5 =>
      intro q2 H locs ls hl hW hS hm hf
      obtain ⟨n_, r3, hn_, hf, hr6⟩ := op_lq hf
      cases hn_
      rw [ew4] at hf
      refine lv_iload_n hx hb dX9_mendCoils_2 rfl (lv_at hl 0 rfl) ?_
      refine lv_aload_n hx hb dX9_mendCoils_3 rfl (lv_at hl 1 rfl) ?_
      refine va_get hx hb hts ni_X9_mendCoils_X7 hown hKK.1 (wd_1 hW ((hm _).trans v_1)) 0 rfl rfl 2 (by decide) (hts (.fieldLink RX9 87 "TiltRoute$Table" "bumpers" "Ljava/util/ArrayList;") (List.mem_of_getElem? (i := 1) rfl)) (fun _ h => h) rfl dX9_mendCoils_4 ?_
      have v8 : zV S (0, (a_1 + 2), 0) = true := (hm _).symm.trans (vf_8_2 hW ((hm _).trans v_1))
      obtain ⟨r9, hc10, hf⟩ := op_cl hf
      refine z_callV (As := []) (rest := [.int q2.1]) ⟨hx, hb, hml, hown, hts⟩ (tJ_size l Γ lo q2.2 X ((hm _).trans v8) hc10) (cwV 0 hts gX9_mendCoils_Jx4a65c_size_8abf5 rfl rfl rfl (by decide +kernel) ⟨Nat.le_of_ble_eq_true rfl, Nat.le_of_ble_eq_true rfl⟩) (wd_1 hW ((hm _).trans v8)) rfl hKK hW hS rfl hl.1 rfl (Nat.le_of_ble_eq_true rfl) dX9_mendCoils_7 ⟨Nat.zero_le _, Nat.zero_le _⟩ (fun H locs hW hS hm1 hE => ?_)
      refine lv_icmp_ge (tgt := 51) hx hb dX9_mendCoils_10 (by decide) (fun k10 => ?_) (fun k10 => ?_)
      · have hf := (op_if hf).1 k10
        have hf := zr_r hf hr6
        rw [← hf]
        exact z_vret hx hb hr hlocks hW hS hm trivial dX9_mendCoils_51
      · have hf := (op_if hf).2 k10
        refine lv_aload_n hx hb dX9_mendCoils_13 rfl (lv_at hl 1 rfl) ?_
        refine va_get hx hb hts ni_X9_mendCoils_X7 hown hKK.1 (wd_1 hW ((hm _).trans v_1)) 0 rfl rfl 2 (by decide) (hts (.fieldLink RX9 87 "TiltRoute$Table" "bumpers" "Ljava/util/ArrayList;") (List.mem_of_getElem? (i := 1) rfl)) (fun _ h => h) rfl dX9_mendCoils_14 ?_
        have v11 : zV S (0, (a_1 + 2), 0) = true := (hm _).symm.trans (vf_8_2 hW ((hm _).trans v_1))
        refine lv_iload_n hx hb dX9_mendCoils_17 rfl (lv_at hl 0 rfl) ?_
        obtain ⟨r12, hc13, hf⟩ := op_cl hf
        refine z_callV (As := [.int q2.1]) (rest := []) ⟨hx, hb, hml, hown, hts⟩ (tJ_get l Γ lo q2.2 X ((hm _).trans v11) hc13) (cwV 1 hts gX9_mendCoils_Jx4a65c_get_915e3 rfl rfl rfl (by decide +kernel) ⟨Nat.le_of_ble_eq_true rfl, Nat.le_of_ble_eq_true rfl⟩) (wd_1 hW ((hm _).trans v11)) rfl hKK hW hS rfl hl.1 rfl (Nat.le_of_ble_eq_true rfl) dX9_mendCoils_18 ⟨Nat.zero_le _, Nat.zero_le _⟩ (fun H locs hW hS hm1 hE => ?_)
        have v14 : zV S (2, a_1, r12) = true := (hm _).symm.trans hE
        refine va_castE hx hb hown (hts (.classLink RX9 92 "TiltRoute$Bumper") (List.mem_of_getElem? (i := 2) rfl)) (va_recv (q0 := 0) hKK.1 (wd_1 hW ((hm _).trans v14)) (ci := 2) rfl rfl) dX9_mendCoils_21 ?_
        refine lv_astore_n (lv' := [(3, .ref (lo (2, a_1, r12))), (2, .int q2.1), (0, .ref (lo (8, a_1, 0))), (1, .ref (lo (9, a_2, 0)))]) hx hb dX9_mendCoils_24 rfl hl (by decide) rfl (fun ls hl => ?_)
        refine lv_aload_n hx hb dX9_mendCoils_25 rfl (lv_at hl 0 rfl) ?_
        obtain ⟨r15, hc16, hf⟩ := op_cl hf
        refine z_callV (As := []) (rest := []) ⟨hx, hb, hml, hown, hts⟩ (tX1_isBroken l Γ lo q2.2 X ((hm _).trans v14) hc16) (cwV 0 hts gX9_mendCoils_X1_isBroken rfl rfl rfl (by decide +kernel) ⟨Nat.le_of_ble_eq_true rfl, Nat.le_of_ble_eq_true rfl⟩) (wd_1 hW ((hm _).trans v14)) rfl hKK hW hS rfl hl.1 rfl (Nat.le_of_ble_eq_true rfl) dX9_mendCoils_26 ⟨Nat.zero_le _, Nat.zero_le _⟩ (fun H locs hW hS hm1 hE => ?_)
        have b17 := hE
        obtain ⟨j19, ej19, hf⟩ := op_st hf
        have hj19 : ∀ (S18 : zSt) (H : Heap) (locs : List Loc) (ls : Array Slot), lv_has ls 4 [(2, .int q2.1), (0, .ref (lo (8, a_1, 0))), (1, .ref (lo (9, a_2, 0)))] → Wd Γ lo S18 X H → va_S (zA Γ) s.heap H locs → (∀ c, zV S18 c = zV S c) → j19 S18 = some r3 → W p l e (headSpec wsX9_mendCoils rmX9_mendCoils).room s m ([.ref (lo (8, a_1, 0)), .ref (lo (9, a_2, 0))] : List Value).toArray below meth c H locs 0 0 (MQ below (zQ0 Γ lo S y X none True) ([.ref (lo (8, a_1, 0)), .ref (lo (9, a_2, 0))] : List Value).toArray s 0 0 (zA Γ)) (F0 m 45 ls []) := by
          intro S18 H locs ls  hl hW hS hm hf
          rw [ej19] at hf
          obtain ⟨x20, ex20, hf⟩ := op_st hf
          refine lv_iinc (v := x20) (lv' := [(2, .int x20), (0, .ref (lo (8, a_1, 0))), (1, .ref (lo (9, a_2, 0)))]) hx hb dX9_mendCoils_45 hl (k := 0) rfl (by rw [ex20]; rfl) (by decide) rfl (fun ls hl => ?_)
          refine lv_goto (tgt := 2) hx hb dX9_mendCoils_48 (by decide) ?_
          have hf := zr_l hf hr6
          exact ih5 (x20, S18) H locs ls (lv_sub hl [0, 1, 2] rfl) hW hS hm hf
        refine lv_if_eq (tgt := 45) hx hb dX9_mendCoils_29 (by decide) (fun k29 => ?_) (fun k29 => ?_)
        · have hf := (op_if hf).1 k29
          exact hj19 q2.2 H locs ls  (lv_sub hl [1, 2, 3] rfl) hW hS hm hf
        · have hf := (op_if hf).2 k29
          refine lv_aload_n hx hb dX9_mendCoils_32 rfl (lv_at hl 3 rfl) ?_
          refine lv_iconst (v := (1)) hx hb dX9_mendCoils_33 (by decide) ?_
          obtain ⟨r21, S23, hc22, hf⟩ := op_cl2 hf
          refine z_callV (As := [.int (1 : Int32)]) (rest := []) ⟨hx, hb, hml, hown, hts⟩ (tX8_takeSpare l Γ lo q2.2 X ((hm _).trans v_2) hc22) (cwV 1 hts gX9_mendCoils_X8_takeSpare rfl rfl rfl (by decide +kernel) ⟨Nat.le_of_ble_eq_true rfl, Nat.le_of_ble_eq_true rfl⟩) (wd_1 hW ((hm _).trans v_2)) rfl hKK hW hS rfl hl.1 rfl (Nat.le_of_ble_eq_true rfl) dX9_mendCoils_34 ⟨Nat.zero_le _, Nat.zero_le _⟩ (fun H locs hW hS hm1 hE => ?_)
          have hm : ∀ c, zV S23 c = zV S c := fun c => (hm1 c).trans (hm c)
          have b24 := hE
          refine lv_if_eq (tgt := 45) hx hb dX9_mendCoils_37 (by decide) (fun k37 => ?_) (fun k37 => ?_)
          · have hf := (op_if hf).1 k37
            exact hj19 S23 H locs ls  (lv_sub hl [1, 2, 3] rfl) hW hS hm hf
          · have hf := (op_if hf).2 k37
            refine lv_aload_n hx hb dX9_mendCoils_40 rfl (lv_at hl 0 rfl) ?_
            refine lv_iconst (v := (0)) hx hb dX9_mendCoils_41 (by decide) ?_
            obtain ⟨S25, eS25, hf⟩ := op_st hf
            refine g_put hx hb hts ni_X9_mendCoils_X1 tyX1 tyX1_ok nmX1 hown hKK.1 hW hS ((hm _).trans v14) rfl rfl 5 (by decide) (hts (.fieldLink RX9 138 "TiltRoute$Bumper" "wear" "I") (List.mem_of_getElem? (i := 3) rfl)) rfl rfl rfl (show 5 < 7 by decide) rfl dX9_mendCoils_42 eS25 (fun H locs hW hS => ?_)
            have hm : ∀ c, zV S25 c = zV S c := fun c => by rw [eS25]; exact hm c
            exact hj19 S25 H locs ls  (lv_sub hl [1, 2, 3] rfl) hW hS hm hf
  rw [eq20] at hf
  exact hw4 _ (x1, S) H locs ls (lv_sub hl [0, 1, 2] rfl) hW hS hm hf

