theorem ni_X10_partOf_X10 : ∀ w ∈ wsX100, w ∈ wsX10_partOf := by decide +kernel
def fX10_partOf (M : zMs) (i_1 : Int32) (i_2 : Int32) (i_3 : Int32) : Option Int32 :=
gd (¬ (((((300 : Int32) * i_1) + i_2) - (1 : Int32)) < 0 ∨ 36000 ≤ ((((300 : Int32) * i_1) + i_2) - (1 : Int32)).toNatClampNeg)) (
st (M 38 ((((300 : Int32) * i_1) + i_2) - (1 : Int32)).toNatClampNeg) fun x1 =>
if (2 : Int32) ≤ i_3 then
st (fun (y2 : Int32) => (st y2 fun x4 =>
if x4 = 0 then
some ((0 : Int32))
else
some (((i_3 - (1 : Int32)) + ((16 : Int32) * x4))) : Option Int32)) fun j3 =>
if (i_2 - i_2 / (10 : Int32) * (10 : Int32)) = 0 then
gd (¬ (((((8 : Int32) * i_1) + i_3) - (2 : Int32)) < 0 ∨ 960 ≤ ((((8 : Int32) * i_1) + i_3) - (2 : Int32)).toNatClampNeg)) (
j3 (M 39 ((((8 : Int32) * i_1) + i_3) - (2 : Int32)).toNatClampNeg))
else
j3 (0 : Int32)
else
if i_3 = 0 then
some ((x1 - x1 / (9 : Int32) * (9 : Int32)))
else
some ((x1 / (9 : Int32))))
abbrev rmX10_partOf : Room := { frames := 0, cells := 0, slots := 0, locals := 0 }
set_option maxHeartbeats 4000000 in
set_option maxRecDepth 100000 in
theorem tX10_partOf (l : Launch) (Γ : zG) (lo : zId → Nat) (S : zSt) (q : Nat → Nat) (M : zMs) (Y : va_W) {i_1 : Int32} {i_2 : Int32} {i_3 : Int32}  {y : Int32} (hf : fX10_partOf M i_1 i_2 i_3 = some y) : Met l yX10_partOf wsX10_partOf rmX10_partOf (zP0 Γ lo S (mcl Γ q M ++ Y) [.ref (q 0), .int i_1, .int i_2, .int i_3]) (zQ0 Γ lo S S (mcl Γ q M ++ Y) (some (.int y)) True) 0 0 (zA Γ) := by
  refine Met.ofW (cc := cX10_partOf) (maxL := 6) (ret := (some .int)) (by decide) rfl ?_
  intro p e s m args below meth c s₁ B hml hv
  obtain ⟨rfl, hW, hKK⟩ := hv
  have hx := B.exec
  have hb := B.bytes
  have hr := B.returns
  have hts := atoms_spec (ws := wsX10_partOf) B.pre
  have hown : s.vm.findClass RX10 = some m.cls := findClass_of_methodNamed B.named
  have hlocks := B.notSynchronized
  have hS : va_S (zA Γ) s.heap s.heap [] := va_S.rf
  have hm : ∀ c, zV S c = zV S c := fun _ => rfl
  have hl := lv_entry ([.ref (q 0), .int i_1, .int i_2, .int i_3]) (n := 6) (Nat.le_of_ble_eq_true rfl)
  rw [lg_entry_eq]
  generalize (lg_sl ([.ref (q 0), .int i_1, .int i_2, .int i_3]) ++ List.replicate (6 - (lg_sl ([.ref (q 0), .int i_1, .int i_2, .int i_3])).length) Slot.unset).toArray = ls at hl ⊢
  have hl : lv_has ls 6 [(0, .ref (q 0)), (1, .int i_1), (2, .int i_2), (3, .int i_3)] := hl
  obtain ⟨H, hH0⟩ : ∃ H, H = s.heap := ⟨_, rfl⟩
  obtain ⟨locs, hlo0⟩ : ∃ L : List Loc, L = [] := ⟨_, rfl⟩
  have hS : va_S (zA Γ) s.heap H locs := by rw [hH0, hlo0]; exact hS
  have hW : Wd Γ lo S (mcl Γ q M ++ Y) H := by rw [hH0]; exact hW
  rw [← hH0, ← hlo0]
  unfold fX10_partOf at hf
  refine lv_aload_n hx hb dX10_partOf_0 rfl (lv_at hl 0 rfl) ?_
  refine va_get hx hb hts ni_X10_partOf_X10 hown hKK.1 (wd_x hW (k := 0) rfl) 0 rfl rfl 38 (by decide) (hts (.fieldLink RX10 114 "TiltRouteModel" "closed" "[I") (List.mem_of_getElem? (i := 1) rfl)) (fun _ h => h) rfl dX10_partOf_1 ?_
  refine lv_sipush (v := (300)) hx hb dX10_partOf_4 (by decide) ?_
  refine lv_iload_n hx hb dX10_partOf_7 rfl (lv_at hl 1 rfl) ?_
  refine lv_imul hx hb dX10_partOf_8 ?_
  refine lv_iload_n hx hb dX10_partOf_9 rfl (lv_at hl 2 rfl) ?_
  refine lv_iadd hx hb dX10_partOf_10 ?_
  refine lv_iconst (v := (1)) hx hb dX10_partOf_11 (by decide) ?_
  refine lv_isub hx hb dX10_partOf_12 ?_
  obtain ⟨h13, hf⟩ := op_gd hf
  refine va_iald hx hb hKK.1 (wd_x hW (k := 35) rfl) 0 0 (n := 36000) rfl rfl h13 dX10_partOf_13 ?_
  obtain ⟨x1, ex1, hf⟩ := op_st hf
  refine z_ist (lv' := [(4, .int x1), (0, .ref (q 0)), (1, .int i_1), (2, .int i_2), (3, .int i_3)]) ex1 hx hb dX10_partOf_14 hl (by decide) rfl (fun ls hl => ?_)
  refine lv_iload_n hx hb dX10_partOf_16 rfl (lv_at hl 4 rfl) ?_
  refine lv_iconst (v := (2)) hx hb dX10_partOf_17 (by decide) ?_
  refine lv_icmp_ge (tgt := 39) hx hb dX10_partOf_18 (by decide) (fun k18 => ?_) (fun k18 => ?_)
  · have hf := (op_if hf).1 k18
    refine lv_iload_n hx hb dX10_partOf_39 rfl (lv_at hl 3 rfl) ?_
    refine lv_bipush (v := (10)) hx hb dX10_partOf_40 (by decide) ?_
    refine lv_irem hx hb dX10_partOf_42 (by decide) ?_
    obtain ⟨j3, ej3, hf⟩ := op_st hf
    have hj3 : ∀ (y2 : Int32) (H : Heap) (locs : List Loc) (ls : Array Slot), lv_has ls 6 [(3, .int i_3)] → Wd Γ lo S (mcl Γ q M ++ Y) H → va_S (zA Γ) s.heap H locs → (∀ c, zV S c = zV S c) → j3 y2 = some y → W p l e (headSpec wsX10_partOf rmX10_partOf).room s m ([.ref (q 0), .int i_1, .int i_2, .int i_3] : List Value).toArray below meth c H locs 0 0 (MQ below (zQ0 Γ lo S S (mcl Γ q M ++ Y) (some (.int y)) True) ([.ref (q 0), .int i_1, .int i_2, .int i_3] : List Value).toArray s 0 0 (zA Γ)) (F0 m 63 ls [.int y2]) := by
      intro y2 H locs ls  hl hW hS hm hf
      rw [ej3] at hf
      obtain ⟨x4, ex4, hf⟩ := op_st hf
      refine z_ist (lv' := [(5, .int x4), (3, .int i_3)]) ex4 hx hb dX10_partOf_63 hl (by decide) rfl (fun ls hl => ?_)
      refine lv_iload hx hb dX10_partOf_65 (lv_at hl 0 rfl) ?_
      refine lv_if_ne (tgt := 74) hx hb dX10_partOf_67 (by decide) (fun k67 => ?_) (fun k67 => ?_)
      · have hf := (op_if hf).2 k67
        refine lv_iload_n hx hb dX10_partOf_74 rfl (lv_at hl 1 rfl) ?_
        refine lv_iconst (v := (1)) hx hb dX10_partOf_75 (by decide) ?_
        refine lv_isub hx hb dX10_partOf_76 ?_
        refine lv_bipush (v := (16)) hx hb dX10_partOf_77 (by decide) ?_
        refine lv_iload hx hb dX10_partOf_79 (lv_at hl 0 rfl) ?_
        refine lv_imul hx hb dX10_partOf_81 ?_
        refine lv_iadd hx hb dX10_partOf_82 ?_
        have hf := Option.some.inj hf
        rw [← hf]
        exact z_iret hx hb hr hlocks rfl hW hS hm trivial dX10_partOf_83
      · have hf := (op_if hf).1 k67
        refine lv_iconst (v := (0)) hx hb dX10_partOf_70 (by decide) ?_
        refine lv_goto (tgt := 83) hx hb dX10_partOf_71 (by decide) ?_
        have hf := Option.some.inj hf
        rw [← hf]
        exact z_iret hx hb hr hlocks rfl hW hS hm trivial dX10_partOf_83
    refine lv_if_ne (tgt := 62) hx hb dX10_partOf_43 (by decide) (fun k43 => ?_) (fun k43 => ?_)
    · have hf := (op_if hf).2 k43
      refine lv_iconst (v := (0)) hx hb dX10_partOf_62 (by decide) ?_
      exact hj3 (0 : Int32) H locs ls  (lv_sub hl [4] rfl) hW hS hm hf
    · have hf := (op_if hf).1 k43
      refine lv_aload_n hx hb dX10_partOf_46 rfl (lv_at hl 1 rfl) ?_
      refine va_get hx hb hts ni_X10_partOf_X10 hown hKK.1 (wd_x hW (k := 0) rfl) 0 rfl rfl 39 (by decide) (hts (.fieldLink RX10 117 "TiltRouteModel" "stickingOf" "[I") (List.mem_of_getElem? (i := 2) rfl)) (fun _ h => h) rfl dX10_partOf_47 ?_
      refine lv_bipush (v := (8)) hx hb dX10_partOf_50 (by decide) ?_
      refine lv_iload_n hx hb dX10_partOf_52 rfl (lv_at hl 2 rfl) ?_
      refine lv_imul hx hb dX10_partOf_53 ?_
      refine lv_iload_n hx hb dX10_partOf_54 rfl (lv_at hl 4 rfl) ?_
      refine lv_iadd hx hb dX10_partOf_55 ?_
      refine lv_iconst (v := (2)) hx hb dX10_partOf_56 (by decide) ?_
      refine lv_isub hx hb dX10_partOf_57 ?_
      obtain ⟨h58, hf⟩ := op_gd hf
      refine va_iald hx hb hKK.1 (wd_x hW (k := 36) rfl) 0 0 (n := 960) rfl rfl h58 dX10_partOf_58 ?_
      refine lv_goto (tgt := 63) hx hb dX10_partOf_59 (by decide) ?_
      exact hj3 (M 39 ((((8 : Int32) * i_1) + i_3) - (2 : Int32)).toNatClampNeg) H locs ls  (lv_sub hl [4] rfl) hW hS hm hf
  · have hf := (op_if hf).2 k18
    refine lv_iload_n hx hb dX10_partOf_21 rfl (lv_at hl 4 rfl) ?_
    refine lv_if_ne (tgt := 33) hx hb dX10_partOf_22 (by decide) (fun k22 => ?_) (fun k22 => ?_)
    · have hf := (op_if hf).2 k22
      refine lv_iload hx hb dX10_partOf_33 (lv_at hl 0 rfl) ?_
      refine lv_bipush (v := (9)) hx hb dX10_partOf_35 (by decide) ?_
      refine lv_idiv hx hb dX10_partOf_37 (by decide) ?_
      have hf := Option.some.inj hf
      rw [← hf]
      exact z_iret hx hb hr hlocks rfl hW hS hm trivial dX10_partOf_38
    · have hf := (op_if hf).1 k22
      refine lv_iload hx hb dX10_partOf_25 (lv_at hl 0 rfl) ?_
      refine lv_bipush (v := (9)) hx hb dX10_partOf_27 (by decide) ?_
      refine lv_irem hx hb dX10_partOf_29 (by decide) ?_
      refine lv_goto (tgt := 38) hx hb dX10_partOf_30 (by decide) ?_
      have hf := Option.some.inj hf
      rw [← hf]
      exact z_iret hx hb hr hlocks rfl hW hS hm trivial dX10_partOf_38

theorem ni_X10_next_X10 : ∀ w ∈ wsX100, w ∈ wsX10_next := by decide +kernel
def fX10_next (M : zMs) (i_1 : Int32) (i_2 : Int32) : Option (Int32 × zMs) :=
lp (fun (q1 : (zMs)) => (gd (¬ (i_1 < 0 ∨ 2 ≤ i_1.toNatClampNeg)) (
gd (¬ (i_2 < 0 ∨ 40 ≤ i_2.toNatClampNeg)) (
if ((3 : Int32) - (q1 26 i_2.toNatClampNeg)) ≤ (q1 45 i_1.toNatClampNeg) then
some (.inr (((-1 : Int32), q1)))
else
gd (¬ (i_1 < 0 ∨ 2 ≤ i_1.toNatClampNeg)) (
st (((3 : Int32) * i_2) + (q1 45 i_1.toNatClampNeg)) fun x7 =>
gd (¬ (i_1 < 0 ∨ 2 ≤ i_1.toNatClampNeg)) (
gd (¬ (i_1 < 0 ∨ 2 ≤ i_1.toNatClampNeg)) (
cl (fX10_partOf q1 x7 (q1 46 i_1.toNatClampNeg) (q1 47 i_1.toNatClampNeg)) fun r8 =>
st r8 fun x10 =>
st (fun (y11 : Int32) => (st y11 fun x13 =>
gd (¬ (i_1 < 0 ∨ 2 ≤ i_1.toNatClampNeg)) (
gd (¬ (i_1 < 0 ∨ 2 ≤ i_1.toNatClampNeg)) (
st (pM q1 47 i_1.toNatClampNeg ((q1 47 i_1.toNatClampNeg) + (1 : Int32))) fun M14 =>
gd (¬ (i_1 < 0 ∨ 2 ≤ i_1.toNatClampNeg)) (
st (fun (S15 : zMs) => (gd (¬ (i_1 < 0 ∨ 2 ≤ i_1.toNatClampNeg)) (
gd (¬ (x7 < 0 ∨ 120 ≤ x7.toNatClampNeg)) (
st (fun (S17 : zMs) => (if x13 = (-1 : Int32) then
some (.inl (S17))
else
some (.inr ((x13, S17))) : Option ((zMs) ⊕ (Int32 × zMs)))) fun j18 =>
if (S15 46 i_1.toNatClampNeg) ≤ (S15 37 x7.toNatClampNeg) then
j18 S15
else
gd (¬ (i_1 < 0 ∨ 2 ≤ i_1.toNatClampNeg)) (
st (pM S15 46 i_1.toNatClampNeg (1 : Int32)) fun M19 =>
gd (¬ (i_1 < 0 ∨ 2 ≤ i_1.toNatClampNeg)) (
gd (¬ (i_1 < 0 ∨ 2 ≤ i_1.toNatClampNeg)) (
st (pM M19 45 i_1.toNatClampNeg ((M19 45 i_1.toNatClampNeg) + (1 : Int32))) fun M20 =>
j18 M20))))) : Option ((zMs) ⊕ (Int32 × zMs)))) fun j16 =>
if (M14 47 i_1.toNatClampNeg) = (10 : Int32) then
gd (¬ (i_1 < 0 ∨ 2 ≤ i_1.toNatClampNeg)) (
st (pM M14 47 i_1.toNatClampNeg (0 : Int32)) fun M21 =>
gd (¬ (i_1 < 0 ∨ 2 ≤ i_1.toNatClampNeg)) (
gd (¬ (i_1 < 0 ∨ 2 ≤ i_1.toNatClampNeg)) (
st (pM M21 46 i_1.toNatClampNeg ((M21 46 i_1.toNatClampNeg) + (1 : Int32))) fun M22 =>
j16 M22)))
else
j16 M14))) : Option ((zMs) ⊕ (Int32 × zMs)))) fun j12 =>
if x10 = 0 then
j12 (-1 : Int32)
else
gd (¬ (i_1 < 0 ∨ 2 ≤ i_1.toNatClampNeg)) (
gd (¬ (i_1 < 0 ∨ 2 ≤ i_1.toNatClampNeg)) (
j12 (((((x10 - x10 / (16 : Int32) * (16 : Int32)) - (1 : Int32)) + ((16 : Int32) * (q1 45 i_1.toNatClampNeg))) + ((256 : Int32) * (q1 46 i_1.toNatClampNeg))) + ((1048576 : Int32) * (x10 / (16 : Int32))))))))))) : Option ((zMs) ⊕ (Int32 × zMs)))) 40000 (M)
abbrev rmX10_next : Room := { frames := 1, cells := 0, slots := 0, locals := 25 }
set_option maxHeartbeats 4000000 in
set_option maxRecDepth 100000 in
theorem tX10_next (l : Launch) (Γ : zG) (lo : zId → Nat) (S : zSt) (q : Nat → Nat) (M : zMs) (Y : va_W) {i_1 : Int32} {i_2 : Int32}  {y : (Int32 × zMs)} (hf : fX10_next M i_1 i_2 = some y) : Met l yX10_next wsX10_next rmX10_next (zP0 Γ lo S (mcl Γ q M ++ Y) [.ref (q 0), .int i_1, .int i_2]) (zQ0 Γ lo S S (mcl Γ q y.2 ++ Y) (some (.int y.1)) True) 0 0 (zA Γ) := by
  refine Met.ofW (cc := cX10_next) (maxL := 6) (ret := (some .int)) (by decide) rfl ?_
  intro p e s m args below meth c s₁ B hml hv
  obtain ⟨rfl, hW, hKK⟩ := hv
  have hx := B.exec
  have hb := B.bytes
  have hr := B.returns
  have hts := atoms_spec (ws := wsX10_next) B.pre
  have hown : s.vm.findClass RX10 = some m.cls := findClass_of_methodNamed B.named
  have hlocks := B.notSynchronized
  have hS : va_S (zA Γ) s.heap s.heap [] := va_S.rf
  have hm : ∀ c, zV S c = zV S c := fun _ => rfl
  have hl := lv_entry ([.ref (q 0), .int i_1, .int i_2]) (n := 6) (Nat.le_of_ble_eq_true rfl)
  rw [lg_entry_eq]
  generalize (lg_sl ([.ref (q 0), .int i_1, .int i_2]) ++ List.replicate (6 - (lg_sl ([.ref (q 0), .int i_1, .int i_2])).length) Slot.unset).toArray = ls at hl ⊢
  have hl : lv_has ls 6 [(0, .ref (q 0)), (1, .int i_1), (2, .int i_2)] := hl
  obtain ⟨H, hH0⟩ : ∃ H, H = s.heap := ⟨_, rfl⟩
  obtain ⟨locs, hlo0⟩ : ∃ L : List Loc, L = [] := ⟨_, rfl⟩
  have hS : va_S (zA Γ) s.heap H locs := by rw [hH0, hlo0]; exact hS
  have hW : Wd Γ lo S (mcl Γ q M ++ Y) H := by rw [hH0]; exact hW
  rw [← hH0, ← hlo0]
  unfold fX10_next at hf
  obtain ⟨w3, q10, ew3, eq10, hf⟩ := op_lb hf
  have hw3 : ∀ n6 : Nat, ∀ (q1 : (zMs)) (H : Heap) (locs : List Loc) (ls : Array Slot), lv_has ls 6 [(0, .ref (q 0)), (1, .int i_1), (2, .int i_2)] → Wd Γ lo S (mcl Γ q q1 ++ Y) H → va_S (zA Γ) s.heap H locs → (∀ c, zV S c = zV S c) → lp w3 n6 q1 = some y → W p l e (headSpec wsX10_next rmX10_next).room s m ([.ref (q 0), .int i_1, .int i_2] : List Value).toArray below meth c H locs 0 0 (MQ below (zQ0 Γ lo S S (mcl Γ q y.2 ++ Y) (some (.int y.1)) True) ([.ref (q 0), .int i_1, .int i_2] : List Value).toArray s 0 0 (zA Γ)) (F0 m 0 ls []) := by
    intro n6
    induction n6 with
    | zero => intro q1 H locs ls hl hW hS hm hf; cases hf
    | succ n6 ih4 =>
      intro q1 H locs ls hl hW hS hm hf
      obtain ⟨n_, r2, hn_, hf, hr5⟩ := op_lq hf
      cases hn_
      rw [ew3] at hf
      refine lv_aload_n hx hb dX10_next_0 rfl (lv_at hl 0 rfl) ?_
      refine va_get hx hb hts ni_X10_next_X10 hown hKK.1 (wd_x hW (k := 0) rfl) 0 rfl rfl 45 (by decide) (hts (.fieldLink RX10 126 "TiltRouteModel" "balls" "[I") (List.mem_of_getElem? (i := 1) rfl)) (fun _ h => h) rfl dX10_next_1 ?_
      refine lv_iload_n hx hb dX10_next_4 rfl (lv_at hl 1 rfl) ?_
      obtain ⟨h5, hf⟩ := op_gd hf
      refine va_iald hx hb hKK.1 (wd_x hW (k := 39) rfl) 0 0 (n := 2) rfl rfl h5 dX10_next_5 ?_
      refine lv_iconst (v := (3)) hx hb dX10_next_6 (by decide) ?_
      refine lv_aload_n hx hb dX10_next_7 rfl (lv_at hl 0 rfl) ?_
      refine va_get hx hb hts ni_X10_next_X10 hown hKK.1 (wd_x hW (k := 0) rfl) 0 rfl rfl 26 (by decide) (hts (.fieldLink RX10 77 "TiltRouteModel" "left" "[I") (List.mem_of_getElem? (i := 2) rfl)) (fun _ h => h) rfl dX10_next_8 ?_
      refine lv_iload_n hx hb dX10_next_11 rfl (lv_at hl 2 rfl) ?_
      obtain ⟨h12, hf⟩ := op_gd hf
      refine va_iald hx hb hKK.1 (wd_x hW (k := 23) rfl) 0 0 (n := 40) rfl rfl h12 dX10_next_12 ?_
      refine lv_isub hx hb dX10_next_13 ?_
      refine lv_icmp_ge (tgt := 177) hx hb dX10_next_14 (by decide) (fun k14 => ?_) (fun k14 => ?_)
      · have hf := (op_if hf).1 k14
        refine lv_iconst (v := (-1)) hx hb dX10_next_177 (by decide) ?_
        have hf := zr_r hf hr5
        rw [← hf]
        exact z_iret hx hb hr hlocks rfl hW hS hm trivial dX10_next_178
      · have hf := (op_if hf).2 k14
        refine lv_iconst (v := (3)) hx hb dX10_next_17 (by decide) ?_
        refine lv_iload_n hx hb dX10_next_18 rfl (lv_at hl 2 rfl) ?_
        refine lv_imul hx hb dX10_next_19 ?_
        refine lv_aload_n hx hb dX10_next_20 rfl (lv_at hl 0 rfl) ?_
        refine va_get hx hb hts ni_X10_next_X10 hown hKK.1 (wd_x hW (k := 0) rfl) 0 rfl rfl 45 (by decide) (hts (.fieldLink RX10 126 "TiltRouteModel" "balls" "[I") (List.mem_of_getElem? (i := 1) rfl)) (fun _ h => h) rfl dX10_next_21 ?_
        refine lv_iload_n hx hb dX10_next_24 rfl (lv_at hl 1 rfl) ?_
        obtain ⟨h25, hf⟩ := op_gd hf
        refine va_iald hx hb hKK.1 (wd_x hW (k := 39) rfl) 0 0 (n := 2) rfl rfl h25 dX10_next_25 ?_
        refine lv_iadd hx hb dX10_next_26 ?_
        obtain ⟨x7, ex7, hf⟩ := op_st hf
        refine z_istn (lv' := [(3, .int x7), (0, .ref (q 0)), (1, .int i_1), (2, .int i_2)]) ex7 hx hb dX10_next_27 rfl hl (by decide) rfl (fun ls hl => ?_)
        refine lv_aload_n hx hb dX10_next_28 rfl (lv_at hl 1 rfl) ?_
        refine lv_iload_n hx hb dX10_next_29 rfl (lv_at hl 0 rfl) ?_
        refine lv_aload_n hx hb dX10_next_30 rfl (lv_at hl 1 rfl) ?_
        refine va_get hx hb hts ni_X10_next_X10 hown hKK.1 (wd_x hW (k := 0) rfl) 0 rfl rfl 46 (by decide) (hts (.fieldLink RX10 129 "TiltRouteModel" "step" "[I") (List.mem_of_getElem? (i := 3) rfl)) (fun _ h => h) rfl dX10_next_31 ?_
        refine lv_iload_n hx hb dX10_next_34 rfl (lv_at hl 2 rfl) ?_
        obtain ⟨h35, hf⟩ := op_gd hf
        refine va_iald hx hb hKK.1 (wd_x hW (k := 40) rfl) 0 0 (n := 2) rfl rfl h35 dX10_next_35 ?_
        refine lv_aload_n hx hb dX10_next_36 rfl (lv_at hl 1 rfl) ?_
        refine va_get hx hb hts ni_X10_next_X10 hown hKK.1 (wd_x hW (k := 0) rfl) 0 rfl rfl 47 (by decide) (hts (.fieldLink RX10 132 "TiltRouteModel" "part" "[I") (List.mem_of_getElem? (i := 4) rfl)) (fun _ h => h) rfl dX10_next_37 ?_
        refine lv_iload_n hx hb dX10_next_40 rfl (lv_at hl 2 rfl) ?_
        obtain ⟨h41, hf⟩ := op_gd hf
        refine va_iald hx hb hKK.1 (wd_x hW (k := 41) rfl) 0 0 (n := 2) rfl rfl h41 dX10_next_41 ?_
        obtain ⟨r8, hc9, hf⟩ := op_cl hf
        refine z_callV (As := [.int x7, .int (q1 46 i_1.toNatClampNeg), .int (q1 47 i_1.toNatClampNeg)]) (rest := []) ⟨hx, hb, hml, hown, hts⟩ (tX10_partOf l Γ lo S q q1 Y  hc9) (cwV 3 hts gX10_next_X10_partOf rfl rfl rfl (by decide +kernel) ⟨Nat.le_of_ble_eq_true rfl, Nat.le_of_ble_eq_true rfl⟩) (wd_x hW (k := 0) rfl) rfl hKK hW hS rfl hl.1 rfl (Nat.le_of_ble_eq_true rfl) dX10_next_42 ⟨Nat.zero_le _, Nat.zero_le _⟩ (fun H locs hW hS hm1 hE => ?_)
        obtain ⟨x10, ex10, hf⟩ := op_st hf
        refine z_ist (lv' := [(4, .int x10), (3, .int x7), (0, .ref (q 0)), (1, .int i_1), (2, .int i_2)]) ex10 hx hb dX10_next_45 hl (by decide) rfl (fun ls hl => ?_)
        refine lv_iload hx hb dX10_next_47 (lv_at hl 0 rfl) ?_
        obtain ⟨j12, ej12, hf⟩ := op_st hf
        have hj12 : ∀ (y11 : Int32) (H : Heap) (locs : List Loc) (ls : Array Slot), lv_has ls 6 [(3, .int x7), (0, .ref (q 0)), (1, .int i_1), (2, .int i_2)] → Wd Γ lo S (mcl Γ q q1 ++ Y) H → va_S (zA Γ) s.heap H locs → (∀ c, zV S c = zV S c) → j12 y11 = some r2 → W p l e (headSpec wsX10_next rmX10_next).room s m ([.ref (q 0), .int i_1, .int i_2] : List Value).toArray below meth c H locs 0 0 (MQ below (zQ0 Γ lo S S (mcl Γ q y.2 ++ Y) (some (.int y.1)) True) ([.ref (q 0), .int i_1, .int i_2] : List Value).toArray s 0 0 (zA Γ)) (F0 m 93 ls [.int y11]) := by
          intro y11 H locs ls  hl hW hS hm hf
          rw [ej12] at hf
          obtain ⟨x13, ex13, hf⟩ := op_st hf
          refine z_ist (lv' := [(5, .int x13), (3, .int x7), (0, .ref (q 0)), (1, .int i_1), (2, .int i_2)]) ex13 hx hb dX10_next_93 hl (by decide) rfl (fun ls hl => ?_)
          refine lv_aload_n hx hb dX10_next_95 rfl (lv_at hl 2 rfl) ?_
          refine va_get hx hb hts ni_X10_next_X10 hown hKK.1 (wd_x hW (k := 0) rfl) 0 rfl rfl 47 (by decide) (hts (.fieldLink RX10 132 "TiltRouteModel" "part" "[I") (List.mem_of_getElem? (i := 4) rfl)) (fun _ h => h) rfl dX10_next_96 ?_
          refine lv_iload_n hx hb dX10_next_99 rfl (lv_at hl 3 rfl) ?_
          refine lv_dup2_11 hx hb dX10_next_100 rfl rfl ?_
          obtain ⟨h101, hf⟩ := op_gd hf
          refine va_iald hx hb hKK.1 (wd_x hW (k := 41) rfl) 0 0 (n := 2) rfl rfl h101 dX10_next_101 ?_
          refine lv_iconst (v := (1)) hx hb dX10_next_102 (by decide) ?_
          refine lv_iadd hx hb dX10_next_103 ?_
          obtain ⟨h104, hf⟩ := op_gd hf
          obtain ⟨M14, eM14, hf⟩ := op_st hf
          refine m_iast hx hb hKK.1 hW hS 47 41 2 rfl h104 eM14 (ms_47 Γ q _ Y _ _) dX10_next_104 (fun H locs hW hS => ?_)
          refine lv_aload_n hx hb dX10_next_105 rfl (lv_at hl 2 rfl) ?_
          refine va_get hx hb hts ni_X10_next_X10 hown hKK.1 (wd_x hW (k := 0) rfl) 0 rfl rfl 47 (by decide) (hts (.fieldLink RX10 132 "TiltRouteModel" "part" "[I") (List.mem_of_getElem? (i := 4) rfl)) (fun _ h => h) rfl dX10_next_106 ?_
          refine lv_iload_n hx hb dX10_next_109 rfl (lv_at hl 3 rfl) ?_
          obtain ⟨h110, hf⟩ := op_gd hf
          refine va_iald hx hb hKK.1 (wd_x hW (k := 41) rfl) 0 0 (n := 2) rfl rfl h110 dX10_next_110 ?_
          refine lv_bipush (v := (10)) hx hb dX10_next_111 (by decide) ?_
          obtain ⟨j16, ej16, hf⟩ := op_st hf
          have hj16 : ∀ (S15 : zMs) (H : Heap) (locs : List Loc) (ls : Array Slot), lv_has ls 6 [(5, .int x13), (3, .int x7), (0, .ref (q 0)), (1, .int i_1), (2, .int i_2)] → Wd Γ lo S (mcl Γ q S15 ++ Y) H → va_S (zA Γ) s.heap H locs → (∀ c, zV S c = zV S c) → j16 S15 = some r2 → W p l e (headSpec wsX10_next rmX10_next).room s m ([.ref (q 0), .int i_1, .int i_2] : List Value).toArray below meth c H locs 0 0 (MQ below (zQ0 Γ lo S S (mcl Γ q y.2 ++ Y) (some (.int y.1)) True) ([.ref (q 0), .int i_1, .int i_2] : List Value).toArray s 0 0 (zA Γ)) (F0 m 133 ls []) := by
            intro S15 H locs ls  hl hW hS hm hf
            rw [ej16] at hf
            refine lv_aload_n hx hb dX10_next_133 rfl (lv_at hl 2 rfl) ?_
            refine va_get hx hb hts ni_X10_next_X10 hown hKK.1 (wd_x hW (k := 0) rfl) 0 rfl rfl 46 (by decide) (hts (.fieldLink RX10 129 "TiltRouteModel" "step" "[I") (List.mem_of_getElem? (i := 3) rfl)) (fun _ h => h) rfl dX10_next_134 ?_
            refine lv_iload_n hx hb dX10_next_137 rfl (lv_at hl 3 rfl) ?_
            obtain ⟨h138, hf⟩ := op_gd hf
            refine va_iald hx hb hKK.1 (wd_x hW (k := 40) rfl) 0 0 (n := 2) rfl rfl h138 dX10_next_138 ?_
            refine lv_aload_n hx hb dX10_next_139 rfl (lv_at hl 2 rfl) ?_
            refine va_get hx hb hts ni_X10_next_X10 hown hKK.1 (wd_x hW (k := 0) rfl) 0 rfl rfl 37 (by decide) (hts (.fieldLink RX10 110 "TiltRouteModel" "steps" "[I") (List.mem_of_getElem? (i := 6) rfl)) (fun _ h => h) rfl dX10_next_140 ?_
            refine lv_iload_n hx hb dX10_next_143 rfl (lv_at hl 1 rfl) ?_
            obtain ⟨h144, hf⟩ := op_gd hf
            refine va_iald hx hb hKK.1 (wd_x hW (k := 34) rfl) 0 0 (n := 120) rfl rfl h144 dX10_next_144 ?_
            obtain ⟨j18, ej18, hf⟩ := op_st hf
            have hj18 : ∀ (S17 : zMs) (H : Heap) (locs : List Loc) (ls : Array Slot), lv_has ls 6 [(5, .int x13), (0, .ref (q 0)), (1, .int i_1), (2, .int i_2)] → Wd Γ lo S (mcl Γ q S17 ++ Y) H → va_S (zA Γ) s.heap H locs → (∀ c, zV S c = zV S c) → j18 S17 = some r2 → W p l e (headSpec wsX10_next rmX10_next).room s m ([.ref (q 0), .int i_1, .int i_2] : List Value).toArray below meth c H locs 0 0 (MQ below (zQ0 Γ lo S S (mcl Γ q y.2 ++ Y) (some (.int y.1)) True) ([.ref (q 0), .int i_1, .int i_2] : List Value).toArray s 0 0 (zA Γ)) (F0 m 165 ls []) := by
              intro S17 H locs ls  hl hW hS hm hf
              rw [ej18] at hf
              refine lv_iload hx hb dX10_next_165 (lv_at hl 0 rfl) ?_
              refine lv_iconst (v := (-1)) hx hb dX10_next_167 (by decide) ?_
              refine lv_icmp_eq (tgt := 174) hx hb dX10_next_168 (by decide) (fun k168 => ?_) (fun k168 => ?_)
              · have hf := (op_if hf).1 k168
                refine lv_goto (tgt := 0) hx hb dX10_next_174 (by decide) ?_
                have hf := zr_l hf hr5
                exact ih4 (S17) H locs ls (lv_sub hl [1, 2, 3] rfl) hW hS hm hf
              · have hf := (op_if hf).2 k168
                refine lv_iload hx hb dX10_next_171 (lv_at hl 0 rfl) ?_
                have hf := zr_r hf hr5
                rw [← hf]
                exact z_iret hx hb hr hlocks rfl hW hS hm trivial dX10_next_173
            refine lv_icmp_le (tgt := 165) hx hb dX10_next_145 (by decide) (fun k145 => ?_) (fun k145 => ?_)
            · have hf := (op_if hf).1 k145
              exact hj18 S15 H locs ls  (lv_sub hl [0, 2, 3, 4] rfl) hW hS hm hf
            · have hf := (op_if hf).2 k145
              refine lv_aload_n hx hb dX10_next_148 rfl (lv_at hl 2 rfl) ?_
              refine va_get hx hb hts ni_X10_next_X10 hown hKK.1 (wd_x hW (k := 0) rfl) 0 rfl rfl 46 (by decide) (hts (.fieldLink RX10 129 "TiltRouteModel" "step" "[I") (List.mem_of_getElem? (i := 3) rfl)) (fun _ h => h) rfl dX10_next_149 ?_
              refine lv_iload_n hx hb dX10_next_152 rfl (lv_at hl 3 rfl) ?_
              refine lv_iconst (v := (1)) hx hb dX10_next_153 (by decide) ?_
              obtain ⟨h154, hf⟩ := op_gd hf
              obtain ⟨M19, eM19, hf⟩ := op_st hf
              refine m_iast hx hb hKK.1 hW hS 46 40 2 rfl h154 eM19 (ms_46 Γ q _ Y _ _) dX10_next_154 (fun H locs hW hS => ?_)
              refine lv_aload_n hx hb dX10_next_155 rfl (lv_at hl 2 rfl) ?_
              refine va_get hx hb hts ni_X10_next_X10 hown hKK.1 (wd_x hW (k := 0) rfl) 0 rfl rfl 45 (by decide) (hts (.fieldLink RX10 126 "TiltRouteModel" "balls" "[I") (List.mem_of_getElem? (i := 1) rfl)) (fun _ h => h) rfl dX10_next_156 ?_
              refine lv_iload_n hx hb dX10_next_159 rfl (lv_at hl 3 rfl) ?_
              refine lv_dup2_11 hx hb dX10_next_160 rfl rfl ?_
              obtain ⟨h161, hf⟩ := op_gd hf
              refine va_iald hx hb hKK.1 (wd_x hW (k := 39) rfl) 0 0 (n := 2) rfl rfl h161 dX10_next_161 ?_
              refine lv_iconst (v := (1)) hx hb dX10_next_162 (by decide) ?_
              refine lv_iadd hx hb dX10_next_163 ?_
              obtain ⟨h164, hf⟩ := op_gd hf
              obtain ⟨M20, eM20, hf⟩ := op_st hf
              refine m_iast hx hb hKK.1 hW hS 45 39 2 rfl h164 eM20 (ms_45 Γ q _ Y _ _) dX10_next_164 (fun H locs hW hS => ?_)
              exact hj18 M20 H locs ls  (lv_sub hl [0, 2, 3, 4] rfl) hW hS hm hf
          refine lv_icmp_ne (tgt := 133) hx hb dX10_next_113 (by decide) (fun k113 => ?_) (fun k113 => ?_)
          · have hf := (op_if hf).2 k113
            exact hj16 M14 H locs ls  (lv_sub hl [0, 1, 2, 3, 4] rfl) hW hS hm hf
          · have hf := (op_if hf).1 k113
            refine lv_aload_n hx hb dX10_next_116 rfl (lv_at hl 2 rfl) ?_
            refine va_get hx hb hts ni_X10_next_X10 hown hKK.1 (wd_x hW (k := 0) rfl) 0 rfl rfl 47 (by decide) (hts (.fieldLink RX10 132 "TiltRouteModel" "part" "[I") (List.mem_of_getElem? (i := 4) rfl)) (fun _ h => h) rfl dX10_next_117 ?_
            refine lv_iload_n hx hb dX10_next_120 rfl (lv_at hl 3 rfl) ?_
            refine lv_iconst (v := (0)) hx hb dX10_next_121 (by decide) ?_
            obtain ⟨h122, hf⟩ := op_gd hf
            obtain ⟨M21, eM21, hf⟩ := op_st hf
            refine m_iast hx hb hKK.1 hW hS 47 41 2 rfl h122 eM21 (ms_47 Γ q _ Y _ _) dX10_next_122 (fun H locs hW hS => ?_)
            refine lv_aload_n hx hb dX10_next_123 rfl (lv_at hl 2 rfl) ?_
            refine va_get hx hb hts ni_X10_next_X10 hown hKK.1 (wd_x hW (k := 0) rfl) 0 rfl rfl 46 (by decide) (hts (.fieldLink RX10 129 "TiltRouteModel" "step" "[I") (List.mem_of_getElem? (i := 3) rfl)) (fun _ h => h) rfl dX10_next_124 ?_
            refine lv_iload_n hx hb dX10_next_127 rfl (lv_at hl 3 rfl) ?_
            refine lv_dup2_11 hx hb dX10_next_128 rfl rfl ?_
            obtain ⟨h129, hf⟩ := op_gd hf
            refine va_iald hx hb hKK.1 (wd_x hW (k := 40) rfl) 0 0 (n := 2) rfl rfl h129 dX10_next_129 ?_
            refine lv_iconst (v := (1)) hx hb dX10_next_130 (by decide) ?_
            refine lv_iadd hx hb dX10_next_131 ?_
            obtain ⟨h132, hf⟩ := op_gd hf
            obtain ⟨M22, eM22, hf⟩ := op_st hf
            refine m_iast hx hb hKK.1 hW hS 46 40 2 rfl h132 eM22 (ms_46 Γ q _ Y _ _) dX10_next_132 (fun H locs hW hS => ?_)
            exact hj16 M22 H locs ls  (lv_sub hl [0, 1, 2, 3, 4] rfl) hW hS hm hf
        refine lv_if_ne (tgt := 56) hx hb dX10_next_49 (by decide) (fun k49 => ?_) (fun k49 => ?_)
        · have hf := (op_if hf).2 k49
          refine lv_iload hx hb dX10_next_56 (lv_at hl 0 rfl) ?_
          refine lv_bipush (v := (16)) hx hb dX10_next_58 (by decide) ?_
          refine lv_irem hx hb dX10_next_60 (by decide) ?_
          refine lv_iconst (v := (1)) hx hb dX10_next_61 (by decide) ?_
          refine lv_isub hx hb dX10_next_62 ?_
          refine lv_bipush (v := (16)) hx hb dX10_next_63 (by decide) ?_
          refine lv_aload_n hx hb dX10_next_65 rfl (lv_at hl 2 rfl) ?_
          refine va_get hx hb hts ni_X10_next_X10 hown hKK.1 (wd_x hW (k := 0) rfl) 0 rfl rfl 45 (by decide) (hts (.fieldLink RX10 126 "TiltRouteModel" "balls" "[I") (List.mem_of_getElem? (i := 1) rfl)) (fun _ h => h) rfl dX10_next_66 ?_
          refine lv_iload_n hx hb dX10_next_69 rfl (lv_at hl 3 rfl) ?_
          obtain ⟨h70, hf⟩ := op_gd hf
          refine va_iald hx hb hKK.1 (wd_x hW (k := 39) rfl) 0 0 (n := 2) rfl rfl h70 dX10_next_70 ?_
          refine lv_imul hx hb dX10_next_71 ?_
          refine lv_iadd hx hb dX10_next_72 ?_
          refine lv_sipush (v := (256)) hx hb dX10_next_73 (by decide) ?_
          refine lv_aload_n hx hb dX10_next_76 rfl (lv_at hl 2 rfl) ?_
          refine va_get hx hb hts ni_X10_next_X10 hown hKK.1 (wd_x hW (k := 0) rfl) 0 rfl rfl 46 (by decide) (hts (.fieldLink RX10 129 "TiltRouteModel" "step" "[I") (List.mem_of_getElem? (i := 3) rfl)) (fun _ h => h) rfl dX10_next_77 ?_
          refine lv_iload_n hx hb dX10_next_80 rfl (lv_at hl 3 rfl) ?_
          obtain ⟨h81, hf⟩ := op_gd hf
          refine va_iald hx hb hKK.1 (wd_x hW (k := 40) rfl) 0 0 (n := 2) rfl rfl h81 dX10_next_81 ?_
          refine lv_imul hx hb dX10_next_82 ?_
          refine lv_iadd hx hb dX10_next_83 ?_
          refine lv_ldc hx hb hown (hts (.constant RX10 237 (1048576)) (List.mem_of_getElem? (i := 5) rfl)) dX10_next_84 ?_
          refine lv_iload hx hb dX10_next_86 (lv_at hl 0 rfl) ?_
          refine lv_bipush (v := (16)) hx hb dX10_next_88 (by decide) ?_
          refine lv_idiv hx hb dX10_next_90 (by decide) ?_
          refine lv_imul hx hb dX10_next_91 ?_
          refine lv_iadd hx hb dX10_next_92 ?_
          exact hj12 (((((x10 - x10 / (16 : Int32) * (16 : Int32)) - (1 : Int32)) + ((16 : Int32) * (q1 45 i_1.toNatClampNeg))) + ((256 : Int32) * (q1 46 i_1.toNatClampNeg))) + ((1048576 : Int32) * (x10 / (16 : Int32)))) H locs ls  (lv_sub hl [1, 2, 3, 4] rfl) hW hS hm hf
        · have hf := (op_if hf).1 k49
          refine lv_iconst (v := (-1)) hx hb dX10_next_52 (by decide) ?_
          refine lv_goto (tgt := 93) hx hb dX10_next_53 (by decide) ?_
          exact hj12 (-1 : Int32) H locs ls  (lv_sub hl [1, 2, 3, 4] rfl) hW hS hm hf
  rw [eq10] at hf
  exact hw3 _ (M) H locs ls (lv_sub hl [0, 1, 2] rfl) hW hS hm hf

theorem ni_X10_replayed_X10 : ∀ w ∈ wsX100, w ∈ wsX10_replayed := by decide +kernel
def fX10_replayed (M : zMs) (i_1 : Int32) (i_2 : Int32) : Option (Int32 × zMs) :=
st (pM M 40 0 i_1) fun M1 =>
st (pM M1 41 0 (0 : Int32)) fun M2 =>
st (pM M2 42 0 (0 : Int32)) fun M3 =>
cl (fX10_rewind M3 (0 : Int32)) fun M6 =>
cl2 (fX10_next M6 (0 : Int32) i_1) fun r7 M9 =>
st r7 fun x10 =>
lp (fun (q11 : (Int32 × zMs)) => (if q11.1 = (-1 : Int32) then
some (.inr (((q11.2 41 0), q11.2)))
else
st (q11.1 / (1048576 : Int32)) fun x17 =>
st (fun (S18 : zMs) => (cl2 (fX10_next S18 (0 : Int32) i_1) fun r20 M22 =>
st r20 fun x23 =>
some (.inl (x23, M22)) : Option ((Int32 × zMs) ⊕ (Int32 × zMs)))) fun j19 =>
st (fun (u_ : Unit) => (cl (fX10_close q11.2 (q11.1 - q11.1 / (16 : Int32) * (16 : Int32))) fun M27 =>
j19 M27 : Option ((Int32 × zMs) ⊕ (Int32 × zMs)))) fun j24 =>
if i_2 = 0 then
j24 ()
else
if x17 = 0 then
j24 ()
else
gd (¬ ((x17 - (1 : Int32)) < 0 ∨ 60 ≤ (x17 - (1 : Int32)).toNatClampNeg)) (
if (q11.2 23 (x17 - (1 : Int32)).toNatClampNeg) = 0 then
j24 ()
else
j19 q11.2) : Option ((Int32 × zMs) ⊕ (Int32 × zMs)))) 40000 (x10, M9)
abbrev rmX10_replayed : Room := { frames := 2, cells := 0, slots := 0, locals := 50 }
set_option maxHeartbeats 4000000 in
set_option maxRecDepth 100000 in
theorem tX10_replayed (l : Launch) (Γ : zG) (lo : zId → Nat) (S : zSt) (q : Nat → Nat) (M : zMs) (Y : va_W) {i_1 : Int32} {i_2 : Int32} (u_2 : i_2 = 0 ∨ i_2 = 1) {y : (Int32 × zMs)} (hf : fX10_replayed M i_1 i_2 = some y) : Met l yX10_replayed wsX10_replayed rmX10_replayed (zP0 Γ lo S (mcl Γ q M ++ Y) [.ref (q 0), .int i_1, .int i_2]) (zQ0 Γ lo S S (mcl Γ q y.2 ++ Y) (some (.int y.1)) True) 0 0 (zA Γ) := by
  refine Met.ofW (cc := cX10_replayed) (maxL := 5) (ret := (some .int)) (by decide) rfl ?_
  intro p e s m args below meth c s₁ B hml hv
  obtain ⟨rfl, hW, hKK⟩ := hv
  have hx := B.exec
  have hb := B.bytes
  have hr := B.returns
  have hts := atoms_spec (ws := wsX10_replayed) B.pre
  have hown : s.vm.findClass RX10 = some m.cls := findClass_of_methodNamed B.named
  have hlocks := B.notSynchronized
  have hS : va_S (zA Γ) s.heap s.heap [] := va_S.rf
  have hm : ∀ c, zV S c = zV S c := fun _ => rfl
  have hl := lv_entry ([.ref (q 0), .int i_1, .int i_2]) (n := 5) (Nat.le_of_ble_eq_true rfl)
  rw [lg_entry_eq]
  generalize (lg_sl ([.ref (q 0), .int i_1, .int i_2]) ++ List.replicate (5 - (lg_sl ([.ref (q 0), .int i_1, .int i_2])).length) Slot.unset).toArray = ls at hl ⊢
  have hl : lv_has ls 5 [(0, .ref (q 0)), (1, .int i_1), (2, .int i_2)] := hl
  obtain ⟨H, hH0⟩ : ∃ H, H = s.heap := ⟨_, rfl⟩
  obtain ⟨locs, hlo0⟩ : ∃ L : List Loc, L = [] := ⟨_, rfl⟩
  have hS : va_S (zA Γ) s.heap H locs := by rw [hH0, hlo0]; exact hS
  have hW : Wd Γ lo S (mcl Γ q M ++ Y) H := by rw [hH0]; exact hW
  rw [← hH0, ← hlo0]
  unfold fX10_replayed at hf
  refine lv_aload_n hx hb dX10_replayed_0 rfl (lv_at hl 0 rfl) ?_
  refine lv_iload_n hx hb dX10_replayed_1 rfl (lv_at hl 1 rfl) ?_
  obtain ⟨M1, eM1, hf⟩ := op_st hf
  refine m_put hx hb hts ni_X10_replayed_X10 hown hKK.1 hW hS 40 (by decide) (hts (.fieldLink RX10 191 "TiltRouteModel" "played" "I") (List.mem_of_getElem? (i := 1) rfl)) rfl rfl rfl eM1 (ms_40 Γ q _ Y _) dX10_replayed_2 (fun H locs hW hS => ?_)
  refine lv_aload_n hx hb dX10_replayed_5 rfl (lv_at hl 0 rfl) ?_
  refine lv_iconst (v := (0)) hx hb dX10_replayed_6 (by decide) ?_
  obtain ⟨M2, eM2, hf⟩ := op_st hf
  refine m_put hx hb hts ni_X10_replayed_X10 hown hKK.1 hW hS 41 (by decide) (hts (.fieldLink RX10 194 "TiltRouteModel" "score" "I") (List.mem_of_getElem? (i := 2) rfl)) rfl rfl rfl eM2 (ms_41 Γ q _ Y _) dX10_replayed_7 (fun H locs hW hS => ?_)
  refine lv_aload_n hx hb dX10_replayed_10 rfl (lv_at hl 0 rfl) ?_
  refine lv_iconst (v := (0)) hx hb dX10_replayed_11 (by decide) ?_
  obtain ⟨M3, eM3, hf⟩ := op_st hf
  refine m_put hx hb hts ni_X10_replayed_X10 hown hKK.1 hW hS 42 (by decide) (hts (.fieldLink RX10 188 "TiltRouteModel" "depth" "I") (List.mem_of_getElem? (i := 3) rfl)) rfl rfl rfl eM3 (ms_42 Γ q _ Y _) dX10_replayed_12 (fun H locs hW hS => ?_)
  refine lv_aload_n hx hb dX10_replayed_15 rfl (lv_at hl 0 rfl) ?_
  refine lv_iconst (v := (0)) hx hb dX10_replayed_16 (by decide) ?_
  obtain ⟨M6, hc5, hf⟩ := op_cl hf
  refine z_callV (As := [.int (0 : Int32)]) (rest := []) ⟨hx, hb, hml, hown, hts⟩ (tX10_rewind l Γ lo S q M3 Y  hc5) (cwV 1 hts gX10_replayed_X10_rewind rfl rfl rfl (by decide +kernel) ⟨Nat.le_of_ble_eq_true rfl, Nat.le_of_ble_eq_true rfl⟩) (wd_x hW (k := 0) rfl) rfl hKK hW hS rfl hl.1 rfl (Nat.le_of_ble_eq_true rfl) dX10_replayed_17 ⟨Nat.zero_le _, Nat.zero_le _⟩ (fun H locs hW hS hm1 hE => ?_)
  refine lv_aload_n hx hb dX10_replayed_20 rfl (lv_at hl 0 rfl) ?_
  refine lv_iconst (v := (0)) hx hb dX10_replayed_21 (by decide) ?_
  refine lv_iload_n hx hb dX10_replayed_22 rfl (lv_at hl 1 rfl) ?_
  obtain ⟨r7, M9, hc8, hf⟩ := op_cl2 hf
  refine z_callV (As := [.int (0 : Int32), .int i_1]) (rest := []) ⟨hx, hb, hml, hown, hts⟩ (tX10_next l Γ lo S q M6 Y  hc8) (cwV 2 hts gX10_replayed_X10_next rfl rfl rfl (by decide +kernel) ⟨Nat.le_of_ble_eq_true rfl, Nat.le_of_ble_eq_true rfl⟩) (wd_x hW (k := 0) rfl) rfl hKK hW hS rfl hl.1 rfl (Nat.le_of_ble_eq_true rfl) dX10_replayed_23 ⟨Nat.zero_le _, Nat.zero_le _⟩ (fun H locs hW hS hm1 hE => ?_)
  obtain ⟨x10, ex10, hf⟩ := op_st hf
  refine z_istn (lv' := [(3, .int x10), (0, .ref (q 0)), (1, .int i_1), (2, .int i_2)]) ex10 hx hb dX10_replayed_26 rfl hl (by decide) rfl (fun ls hl => ?_)
  obtain ⟨w13, q110, ew13, eq110, hf⟩ := op_lb hf
  have hw13 : ∀ n16 : Nat, ∀ (q11 : (Int32 × zMs)) (H : Heap) (locs : List Loc) (ls : Array Slot), lv_has ls 5 [(3, .int q11.1), (0, .ref (q 0)), (1, .int i_1), (2, .int i_2)] → Wd Γ lo S (mcl Γ q q11.2 ++ Y) H → va_S (zA Γ) s.heap H locs → (∀ c, zV S c = zV S c) → lp w13 n16 q11 = some y → W p l e (headSpec wsX10_replayed rmX10_replayed).room s m ([.ref (q 0), .int i_1, .int i_2] : List Value).toArray below meth c H locs 0 0 (MQ below (zQ0 Γ lo S S (mcl Γ q y.2 ++ Y) (some (.int y.1)) True) ([.ref (q 0), .int i_1, .int i_2] : List Value).toArray s 0 0 (zA Γ)) (F0 m 27 ls []) := by
    intro n16
    induction n16 with
    | zero => intro q11 H locs ls hl hW hS hm hf; cases hf
    | succ n16 ih14 =>
      intro q11 H locs ls hl hW hS hm hf
      obtain ⟨n_, r12, hn_, hf, hr15⟩ := op_lq hf
      cases hn_
      rw [ew13] at hf
      refine lv_iload_n hx hb dX10_replayed_27 rfl (lv_at hl 0 rfl) ?_
      refine lv_iconst (v := (-1)) hx hb dX10_replayed_28 (by decide) ?_
      refine lv_icmp_eq (tgt := 77) hx hb dX10_replayed_29 (by decide) (fun k29 => ?_) (fun k29 => ?_)
      · have hf := (op_if hf).1 k29
        refine lv_aload_n hx hb dX10_replayed_77 rfl (lv_at hl 1 rfl) ?_
        refine va_get hx hb hts ni_X10_replayed_X10 hown hKK.1 (wd_x hW (k := 0) rfl) 0 rfl rfl 41 (by decide) (hts (.fieldLink RX10 194 "TiltRouteModel" "score" "I") (List.mem_of_getElem? (i := 2) rfl)) (fun _ h => h) rfl dX10_replayed_78 ?_
        have hf := zr_r hf hr15
        rw [← hf]
        exact z_iret hx hb hr hlocks rfl hW hS hm trivial dX10_replayed_81
      · have hf := (op_if hf).2 k29
        refine lv_iload_n hx hb dX10_replayed_32 rfl (lv_at hl 0 rfl) ?_
        refine lv_ldc hx hb hown (hts (.constant RX10 237 (1048576)) (List.mem_of_getElem? (i := 4) rfl)) dX10_replayed_33 ?_
        refine lv_idiv hx hb dX10_replayed_35 (by decide) ?_
        obtain ⟨x17, ex17, hf⟩ := op_st hf
        refine z_ist (lv' := [(4, .int x17), (3, .int q11.1), (0, .ref (q 0)), (1, .int i_1), (2, .int i_2)]) ex17 hx hb dX10_replayed_36 hl (by decide) rfl (fun ls hl => ?_)
        refine lv_iload_n hx hb dX10_replayed_38 rfl (lv_at hl 4 rfl) ?_
        obtain ⟨j19, ej19, hf⟩ := op_st hf
        have hj19 : ∀ (S18 : zMs) (H : Heap) (locs : List Loc) (ls : Array Slot), lv_has ls 5 [(0, .ref (q 0)), (1, .int i_1), (2, .int i_2)] → Wd Γ lo S (mcl Γ q S18 ++ Y) H → va_S (zA Γ) s.heap H locs → (∀ c, zV S c = zV S c) → j19 S18 = some r12 → W p l e (headSpec wsX10_replayed rmX10_replayed).room s m ([.ref (q 0), .int i_1, .int i_2] : List Value).toArray below meth c H locs 0 0 (MQ below (zQ0 Γ lo S S (mcl Γ q y.2 ++ Y) (some (.int y.1)) True) ([.ref (q 0), .int i_1, .int i_2] : List Value).toArray s 0 0 (zA Γ)) (F0 m 67 ls []) := by
          intro S18 H locs ls  hl hW hS hm hf
          rw [ej19] at hf
          refine lv_aload_n hx hb dX10_replayed_67 rfl (lv_at hl 0 rfl) ?_
          refine lv_iconst (v := (0)) hx hb dX10_replayed_68 (by decide) ?_
          refine lv_iload_n hx hb dX10_replayed_69 rfl (lv_at hl 1 rfl) ?_
          obtain ⟨r20, M22, hc21, hf⟩ := op_cl2 hf
          refine z_callV (As := [.int (0 : Int32), .int i_1]) (rest := []) ⟨hx, hb, hml, hown, hts⟩ (tX10_next l Γ lo S q S18 Y  hc21) (cwV 2 hts gX10_replayed_X10_next rfl rfl rfl (by decide +kernel) ⟨Nat.le_of_ble_eq_true rfl, Nat.le_of_ble_eq_true rfl⟩) (wd_x hW (k := 0) rfl) rfl hKK hW hS rfl hl.1 rfl (Nat.le_of_ble_eq_true rfl) dX10_replayed_70 ⟨Nat.zero_le _, Nat.zero_le _⟩ (fun H locs hW hS hm1 hE => ?_)
          obtain ⟨x23, ex23, hf⟩ := op_st hf
          refine z_istn (lv' := [(3, .int x23), (0, .ref (q 0)), (1, .int i_1), (2, .int i_2)]) ex23 hx hb dX10_replayed_73 rfl hl (by decide) rfl (fun ls hl => ?_)
          refine lv_goto (tgt := 27) hx hb dX10_replayed_74 (by decide) ?_
          have hf := zr_l hf hr15
          exact ih14 (x23, M22) H locs ls (lv_sub hl [0, 1, 2, 3] rfl) hW hS hm hf
        obtain ⟨j24, ej24, hf⟩ := op_st hf
        have hj24 : ∀ (u_ : Unit) (H : Heap) (locs : List Loc) (ls : Array Slot), lv_has ls 5 [(3, .int q11.1), (0, .ref (q 0)), (1, .int i_1), (2, .int i_2)] → Wd Γ lo S (mcl Γ q q11.2 ++ Y) H → va_S (zA Γ) s.heap H locs → (∀ c, zV S c = zV S c) → j24 () = some r12 → W p l e (headSpec wsX10_replayed rmX10_replayed).room s m ([.ref (q 0), .int i_1, .int i_2] : List Value).toArray below meth c H locs 0 0 (MQ below (zQ0 Γ lo S S (mcl Γ q y.2 ++ Y) (some (.int y.1)) True) ([.ref (q 0), .int i_1, .int i_2] : List Value).toArray s 0 0 (zA Γ)) (F0 m 59 ls []) := by
          intro u_ H locs ls  hl hW hS hm hf
          rw [ej24] at hf
          refine lv_aload_n hx hb dX10_replayed_59 rfl (lv_at hl 1 rfl) ?_
          refine lv_iload_n hx hb dX10_replayed_60 rfl (lv_at hl 0 rfl) ?_
          refine lv_bipush (v := (16)) hx hb dX10_replayed_61 (by decide) ?_
          refine lv_irem hx hb dX10_replayed_63 (by decide) ?_
          obtain ⟨M27, hc26, hf⟩ := op_cl hf
          refine z_callV (As := [.int (q11.1 - q11.1 / (16 : Int32) * (16 : Int32))]) (rest := []) ⟨hx, hb, hml, hown, hts⟩ (tX10_close l Γ lo S q q11.2 Y  hc26) (cwV 1 hts gX10_replayed_X10_close rfl rfl rfl (by decide +kernel) ⟨Nat.le_of_ble_eq_true rfl, Nat.le_of_ble_eq_true rfl⟩) (wd_x hW (k := 0) rfl) rfl hKK hW hS rfl hl.1 rfl (Nat.le_of_ble_eq_true rfl) dX10_replayed_64 ⟨Nat.zero_le _, Nat.zero_le _⟩ (fun H locs hW hS hm1 hE => ?_)
          exact hj19 M27 H locs ls  (lv_sub hl [1, 2, 3] rfl) hW hS hm hf
        refine lv_if_eq (tgt := 59) hx hb dX10_replayed_39 (by decide) (fun k39 => ?_) (fun k39 => ?_)
        · have hf := (op_if hf).1 k39
          exact hj24 () H locs ls  (lv_sub hl [1, 2, 3, 4] rfl) hW hS hm hf
        · have hf := (op_if hf).2 k39
          refine lv_iload hx hb dX10_replayed_42 (lv_at hl 0 rfl) ?_
          refine lv_if_eq (tgt := 59) hx hb dX10_replayed_44 (by decide) (fun k44 => ?_) (fun k44 => ?_)
          · have hf := (op_if hf).1 k44
            exact hj24 () H locs ls  (lv_sub hl [1, 2, 3, 4] rfl) hW hS hm hf
          · have hf := (op_if hf).2 k44
            refine lv_aload_n hx hb dX10_replayed_47 rfl (lv_at hl 2 rfl) ?_
            refine va_get hx hb hts ni_X10_replayed_X10 hown hKK.1 (wd_x hW (k := 0) rfl) 0 rfl rfl 23 (by decide) (hts (.fieldLink RX10 70 "TiltRouteModel" "isMended" "[Z") (List.mem_of_getElem? (i := 5) rfl)) (fun _ h => h) rfl dX10_replayed_48 ?_
            refine lv_iload hx hb dX10_replayed_51 (lv_at hl 0 rfl) ?_
            refine lv_iconst (v := (1)) hx hb dX10_replayed_53 (by decide) ?_
            refine lv_isub hx hb dX10_replayed_54 ?_
            obtain ⟨h55, hf⟩ := op_gd hf
            refine va_zald hx hb hKK.1 (wd_x hW (k := 21) rfl) 0 2 (n := 60) rfl rfl h55 dX10_replayed_55 ?_
            refine lv_if_ne (tgt := 67) hx hb dX10_replayed_56 (by decide) (fun k56 => ?_) (fun k56 => ?_)
            · have hf := (op_if hf).2 k56
              exact hj19 q11.2 H locs ls  (lv_sub hl [2, 3, 4] rfl) hW hS hm hf
            · have hf := (op_if hf).1 k56
              exact hj24 () H locs ls  (lv_sub hl [1, 2, 3, 4] rfl) hW hS hm hf
  rw [eq110] at hf
  exact hw13 _ (x10, M9) H locs ls (lv_sub hl [0, 1, 2, 3] rfl) hW hS hm hf

def fX10_scoreByLog (M : zMs) (i_1 : Int32) : Option (Int32 × zMs) :=
cl2 (fX10_noGame M i_1) fun r1 M3 =>
if r1 = 0 then
cl2 (fX10_replayed M3 i_1 (0 : Int32)) fun r5 M7 =>
some ((r5, M7))
else
some (((0 : Int32), M3))
abbrev rmX10_scoreByLog : Room := { frames := 3, cells := 0, slots := 0, locals := 74 }
set_option maxHeartbeats 4000000 in
set_option maxRecDepth 100000 in
theorem tX10_scoreByLog (l : Launch) (Γ : zG) (lo : zId → Nat) (S : zSt) (q : Nat → Nat) (M : zMs) (Y : va_W) {i_1 : Int32}  {y : (Int32 × zMs)} (hf : fX10_scoreByLog M i_1 = some y) : Met l yX10_scoreByLog wsX10_scoreByLog rmX10_scoreByLog (zP0 Γ lo S (mcl Γ q M ++ Y) [.ref (q 0), .int i_1]) (zQ0 Γ lo S S (mcl Γ q y.2 ++ Y) (some (.int y.1)) True) 0 0 (zA Γ) := by
  refine Met.ofW (cc := cX10_scoreByLog) (maxL := 2) (ret := (some .int)) (by decide) rfl ?_
  intro p e s m args below meth c s₁ B hml hv
  obtain ⟨rfl, hW, hKK⟩ := hv
  have hx := B.exec
  have hb := B.bytes
  have hr := B.returns
  have hts := atoms_spec (ws := wsX10_scoreByLog) B.pre
  have hown : s.vm.findClass RX10 = some m.cls := findClass_of_methodNamed B.named
  have hlocks := B.notSynchronized
  have hS : va_S (zA Γ) s.heap s.heap [] := va_S.rf
  have hm : ∀ c, zV S c = zV S c := fun _ => rfl
  have hl := lv_entry ([.ref (q 0), .int i_1]) (n := 2) (Nat.le_of_ble_eq_true rfl)
  rw [lg_entry_eq]
  generalize (lg_sl ([.ref (q 0), .int i_1]) ++ List.replicate (2 - (lg_sl ([.ref (q 0), .int i_1])).length) Slot.unset).toArray = ls at hl ⊢
  have hl : lv_has ls 2 [(0, .ref (q 0)), (1, .int i_1)] := hl
  obtain ⟨H, hH0⟩ : ∃ H, H = s.heap := ⟨_, rfl⟩
  obtain ⟨locs, hlo0⟩ : ∃ L : List Loc, L = [] := ⟨_, rfl⟩
  have hS : va_S (zA Γ) s.heap H locs := by rw [hH0, hlo0]; exact hS
  have hW : Wd Γ lo S (mcl Γ q M ++ Y) H := by rw [hH0]; exact hW
  rw [← hH0, ← hlo0]
  unfold fX10_scoreByLog at hf
  refine lv_aload_n hx hb dX10_scoreByLog_0 rfl (lv_at hl 0 rfl) ?_
  refine lv_iload_n hx hb dX10_scoreByLog_1 rfl (lv_at hl 1 rfl) ?_
  obtain ⟨r1, M3, hc2, hf⟩ := op_cl2 hf
  refine z_callV (As := [.int i_1]) (rest := []) ⟨hx, hb, hml, hown, hts⟩ (tX10_noGame l Γ lo S q M Y  hc2) (cwV 1 hts gX10_scoreByLog_X10_noGame rfl rfl rfl (by decide +kernel) ⟨Nat.le_of_ble_eq_true rfl, Nat.le_of_ble_eq_true rfl⟩) (wd_x hW (k := 0) rfl) rfl hKK hW hS rfl hl.1 rfl (Nat.le_of_ble_eq_true rfl) dX10_scoreByLog_2 ⟨Nat.zero_le _, Nat.zero_le _⟩ (fun H locs hW hS hm1 hE => ?_)
  have b4 := hE
  refine lv_if_eq (tgt := 12) hx hb dX10_scoreByLog_5 (by decide) (fun k5 => ?_) (fun k5 => ?_)
  · have hf := (op_if hf).1 k5
    refine lv_aload_n hx hb dX10_scoreByLog_12 rfl (lv_at hl 0 rfl) ?_
    refine lv_iload_n hx hb dX10_scoreByLog_13 rfl (lv_at hl 1 rfl) ?_
    refine lv_iconst (v := (0)) hx hb dX10_scoreByLog_14 (by decide) ?_
    obtain ⟨r5, M7, hc6, hf⟩ := op_cl2 hf
    refine z_callV (As := [.int i_1, .int (0 : Int32)]) (rest := []) ⟨hx, hb, hml, hown, hts⟩ (tX10_replayed l Γ lo S q M3 Y (Or.inl rfl) hc6) (cwV 2 hts gX10_scoreByLog_X10_replayed rfl rfl rfl (by decide +kernel) ⟨Nat.le_of_ble_eq_true rfl, Nat.le_of_ble_eq_true rfl⟩) (wd_x hW (k := 0) rfl) rfl hKK hW hS rfl hl.1 rfl (Nat.le_of_ble_eq_true rfl) dX10_scoreByLog_15 ⟨Nat.zero_le _, Nat.zero_le _⟩ (fun H locs hW hS hm1 hE => ?_)
    have hf := Option.some.inj hf
    rw [← hf]
    exact z_iret hx hb hr hlocks rfl hW hS hm trivial dX10_scoreByLog_18
  · have hf := (op_if hf).2 k5
    refine lv_iconst (v := (0)) hx hb dX10_scoreByLog_8 (by decide) ?_
    refine lv_goto (tgt := 18) hx hb dX10_scoreByLog_9 (by decide) ?_
    have hf := Option.some.inj hf
    rw [← hf]
    exact z_iret hx hb hr hlocks rfl hW hS hm trivial dX10_scoreByLog_18

def fX10_valid (M : zMs) (i_1 : Int32) : Option (Int32 × zMs) :=
cl2 (fX10_noGame M i_1) fun r1 M3 =>
if r1 = 0 then
cl2 (fX10_replayed M3 i_1 (1 : Int32)) fun r5 M7 =>
some ((r5, M7))
else
some (((0 : Int32), M3))
abbrev rmX10_valid : Room := { frames := 3, cells := 0, slots := 0, locals := 74 }
set_option maxHeartbeats 4000000 in
set_option maxRecDepth 100000 in
theorem tX10_valid (l : Launch) (Γ : zG) (lo : zId → Nat) (S : zSt) (q : Nat → Nat) (M : zMs) (Y : va_W) {i_1 : Int32}  {y : (Int32 × zMs)} (hf : fX10_valid M i_1 = some y) : Met l yX10_valid wsX10_valid rmX10_valid (zP0 Γ lo S (mcl Γ q M ++ Y) [.ref (q 0), .int i_1]) (zQ0 Γ lo S S (mcl Γ q y.2 ++ Y) (some (.int y.1)) True) 0 0 (zA Γ) := by
  refine Met.ofW (cc := cX10_valid) (maxL := 2) (ret := (some .int)) (by decide) rfl ?_
  intro p e s m args below meth c s₁ B hml hv
  obtain ⟨rfl, hW, hKK⟩ := hv
  have hx := B.exec
  have hb := B.bytes
  have hr := B.returns
  have hts := atoms_spec (ws := wsX10_valid) B.pre
  have hown : s.vm.findClass RX10 = some m.cls := findClass_of_methodNamed B.named
  have hlocks := B.notSynchronized
  have hS : va_S (zA Γ) s.heap s.heap [] := va_S.rf
  have hm : ∀ c, zV S c = zV S c := fun _ => rfl
  have hl := lv_entry ([.ref (q 0), .int i_1]) (n := 2) (Nat.le_of_ble_eq_true rfl)
  rw [lg_entry_eq]
  generalize (lg_sl ([.ref (q 0), .int i_1]) ++ List.replicate (2 - (lg_sl ([.ref (q 0), .int i_1])).length) Slot.unset).toArray = ls at hl ⊢
  have hl : lv_has ls 2 [(0, .ref (q 0)), (1, .int i_1)] := hl
  obtain ⟨H, hH0⟩ : ∃ H, H = s.heap := ⟨_, rfl⟩
  obtain ⟨locs, hlo0⟩ : ∃ L : List Loc, L = [] := ⟨_, rfl⟩
  have hS : va_S (zA Γ) s.heap H locs := by rw [hH0, hlo0]; exact hS
  have hW : Wd Γ lo S (mcl Γ q M ++ Y) H := by rw [hH0]; exact hW
  rw [← hH0, ← hlo0]
  unfold fX10_valid at hf
  refine lv_aload_n hx hb dX10_valid_0 rfl (lv_at hl 0 rfl) ?_
  refine lv_iload_n hx hb dX10_valid_1 rfl (lv_at hl 1 rfl) ?_
  obtain ⟨r1, M3, hc2, hf⟩ := op_cl2 hf
  refine z_callV (As := [.int i_1]) (rest := []) ⟨hx, hb, hml, hown, hts⟩ (tX10_noGame l Γ lo S q M Y  hc2) (cwV 1 hts gX10_valid_X10_noGame rfl rfl rfl (by decide +kernel) ⟨Nat.le_of_ble_eq_true rfl, Nat.le_of_ble_eq_true rfl⟩) (wd_x hW (k := 0) rfl) rfl hKK hW hS rfl hl.1 rfl (Nat.le_of_ble_eq_true rfl) dX10_valid_2 ⟨Nat.zero_le _, Nat.zero_le _⟩ (fun H locs hW hS hm1 hE => ?_)
  have b4 := hE
  refine lv_if_eq (tgt := 12) hx hb dX10_valid_5 (by decide) (fun k5 => ?_) (fun k5 => ?_)
  · have hf := (op_if hf).1 k5
    refine lv_aload_n hx hb dX10_valid_12 rfl (lv_at hl 0 rfl) ?_
    refine lv_iload_n hx hb dX10_valid_13 rfl (lv_at hl 1 rfl) ?_
    refine lv_iconst (v := (1)) hx hb dX10_valid_14 (by decide) ?_
    obtain ⟨r5, M7, hc6, hf⟩ := op_cl2 hf
    refine z_callV (As := [.int i_1, .int (1 : Int32)]) (rest := []) ⟨hx, hb, hml, hown, hts⟩ (tX10_replayed l Γ lo S q M3 Y (Or.inr rfl) hc6) (cwV 2 hts gX10_valid_X10_replayed rfl rfl rfl (by decide +kernel) ⟨Nat.le_of_ble_eq_true rfl, Nat.le_of_ble_eq_true rfl⟩) (wd_x hW (k := 0) rfl) rfl hKK hW hS rfl hl.1 rfl (Nat.le_of_ble_eq_true rfl) dX10_valid_15 ⟨Nat.zero_le _, Nat.zero_le _⟩ (fun H locs hW hS hm1 hE => ?_)
    have hf := Option.some.inj hf
    rw [← hf]
    exact z_iret hx hb hr hlocks rfl hW hS hm trivial dX10_valid_18
  · have hf := (op_if hf).2 k5
    refine lv_iconst (v := (0)) hx hb dX10_valid_8 (by decide) ?_
    refine lv_goto (tgt := 18) hx hb dX10_valid_9 (by decide) ?_
    have hf := Option.some.inj hf
    rw [← hf]
    exact z_iret hx hb hr hlocks rfl hW hS hm trivial dX10_valid_18

def fX10_entries (M : zMs) (i_1 : Int32) : Option (Int32 × zMs) :=
st (0 : Int32) fun x1 =>
cl (fX10_rewind M (0 : Int32)) fun M4 =>
lp (fun (q5 : (Int32 × zMs)) => (cl2 (fX10_next q5.2 (0 : Int32) i_1) fun r11 M13 =>
if r11 = (-1 : Int32) then
some (.inr ((q5.1, M13)))
else
st (q5.1 + (1 : Int32)) fun x14 =>
some (.inl (x14, M13)) : Option ((Int32 × zMs) ⊕ (Int32 × zMs)))) 40000 (x1, M4)
abbrev rmX10_entries : Room := { frames := 2, cells := 0, slots := 0, locals := 50 }
set_option maxHeartbeats 4000000 in
set_option maxRecDepth 100000 in
theorem tX10_entries (l : Launch) (Γ : zG) (lo : zId → Nat) (S : zSt) (q : Nat → Nat) (M : zMs) (Y : va_W) {i_1 : Int32}  {y : (Int32 × zMs)} (hf : fX10_entries M i_1 = some y) : Met l yX10_entries wsX10_entries rmX10_entries (zP0 Γ lo S (mcl Γ q M ++ Y) [.ref (q 0), .int i_1]) (zQ0 Γ lo S S (mcl Γ q y.2 ++ Y) (some (.int y.1)) True) 0 0 (zA Γ) := by
  refine Met.ofW (cc := cX10_entries) (maxL := 3) (ret := (some .int)) (by decide) rfl ?_
  intro p e s m args below meth c s₁ B hml hv
  obtain ⟨rfl, hW, hKK⟩ := hv
  have hx := B.exec
  have hb := B.bytes
  have hr := B.returns
  have hts := atoms_spec (ws := wsX10_entries) B.pre
  have hown : s.vm.findClass RX10 = some m.cls := findClass_of_methodNamed B.named
  have hlocks := B.notSynchronized
  have hS : va_S (zA Γ) s.heap s.heap [] := va_S.rf
  have hm : ∀ c, zV S c = zV S c := fun _ => rfl
  have hl := lv_entry ([.ref (q 0), .int i_1]) (n := 3) (Nat.le_of_ble_eq_true rfl)
  rw [lg_entry_eq]
  generalize (lg_sl ([.ref (q 0), .int i_1]) ++ List.replicate (3 - (lg_sl ([.ref (q 0), .int i_1])).length) Slot.unset).toArray = ls at hl ⊢
  have hl : lv_has ls 3 [(0, .ref (q 0)), (1, .int i_1)] := hl
  obtain ⟨H, hH0⟩ : ∃ H, H = s.heap := ⟨_, rfl⟩
  obtain ⟨locs, hlo0⟩ : ∃ L : List Loc, L = [] := ⟨_, rfl⟩
  have hS : va_S (zA Γ) s.heap H locs := by rw [hH0, hlo0]; exact hS
  have hW : Wd Γ lo S (mcl Γ q M ++ Y) H := by rw [hH0]; exact hW
  rw [← hH0, ← hlo0]
  unfold fX10_entries at hf
  refine lv_iconst (v := (0)) hx hb dX10_entries_0 (by decide) ?_
  obtain ⟨x1, ex1, hf⟩ := op_st hf
  have bx1 : x1 = 0 ∨ x1 = 1 := Or.inl ex1
  refine z_istn (lv' := [(2, .int x1), (0, .ref (q 0)), (1, .int i_1)]) ex1 hx hb dX10_entries_1 rfl hl (by decide) rfl (fun ls hl => ?_)
  refine lv_aload_n hx hb dX10_entries_2 rfl (lv_at hl 1 rfl) ?_
  refine lv_iconst (v := (0)) hx hb dX10_entries_3 (by decide) ?_
  obtain ⟨M4, hc3, hf⟩ := op_cl hf
  refine z_callV (As := [.int (0 : Int32)]) (rest := []) ⟨hx, hb, hml, hown, hts⟩ (tX10_rewind l Γ lo S q M Y  hc3) (cwV 1 hts gX10_entries_X10_rewind rfl rfl rfl (by decide +kernel) ⟨Nat.le_of_ble_eq_true rfl, Nat.le_of_ble_eq_true rfl⟩) (wd_x hW (k := 0) rfl) rfl hKK hW hS rfl hl.1 rfl (Nat.le_of_ble_eq_true rfl) dX10_entries_4 ⟨Nat.zero_le _, Nat.zero_le _⟩ (fun H locs hW hS hm1 hE => ?_)
  obtain ⟨w7, q50, ew7, eq50, hf⟩ := op_lb hf
  have hw7 : ∀ n10 : Nat, ∀ (q5 : (Int32 × zMs)) (H : Heap) (locs : List Loc) (ls : Array Slot), lv_has ls 3 [(2, .int q5.1), (0, .ref (q 0)), (1, .int i_1)] → Wd Γ lo S (mcl Γ q q5.2 ++ Y) H → va_S (zA Γ) s.heap H locs → (∀ c, zV S c = zV S c) → lp w7 n10 q5 = some y → W p l e (headSpec wsX10_entries rmX10_entries).room s m ([.ref (q 0), .int i_1] : List Value).toArray below meth c H locs 0 0 (MQ below (zQ0 Γ lo S S (mcl Γ q y.2 ++ Y) (some (.int y.1)) True) ([.ref (q 0), .int i_1] : List Value).toArray s 0 0 (zA Γ)) (F0 m 7 ls []) := by
    intro n10
    induction n10 with
    | zero => intro q5 H locs ls hl hW hS hm hf; cases hf
    | succ n10 ih8 =>
      intro q5 H locs ls hl hW hS hm hf
      obtain ⟨n_, r6, hn_, hf, hr9⟩ := op_lq hf
      cases hn_
      rw [ew7] at hf
      refine lv_aload_n hx hb dX10_entries_7 rfl (lv_at hl 1 rfl) ?_
      refine lv_iconst (v := (0)) hx hb dX10_entries_8 (by decide) ?_
      refine lv_iload_n hx hb dX10_entries_9 rfl (lv_at hl 2 rfl) ?_
      obtain ⟨r11, M13, hc12, hf⟩ := op_cl2 hf
      refine z_callV (As := [.int (0 : Int32), .int i_1]) (rest := []) ⟨hx, hb, hml, hown, hts⟩ (tX10_next l Γ lo S q q5.2 Y  hc12) (cwV 2 hts gX10_entries_X10_next rfl rfl rfl (by decide +kernel) ⟨Nat.le_of_ble_eq_true rfl, Nat.le_of_ble_eq_true rfl⟩) (wd_x hW (k := 0) rfl) rfl hKK hW hS rfl hl.1 rfl (Nat.le_of_ble_eq_true rfl) dX10_entries_10 ⟨Nat.zero_le _, Nat.zero_le _⟩ (fun H locs hW hS hm1 hE => ?_)
      refine lv_iconst (v := (-1)) hx hb dX10_entries_13 (by decide) ?_
      refine lv_icmp_eq (tgt := 23) hx hb dX10_entries_14 (by decide) (fun k14 => ?_) (fun k14 => ?_)
      · have hf := (op_if hf).1 k14
        refine lv_iload_n hx hb dX10_entries_23 rfl (lv_at hl 0 rfl) ?_
        have hf := zr_r hf hr9
        rw [← hf]
        exact z_iret hx hb hr hlocks rfl hW hS hm trivial dX10_entries_24
      · have hf := (op_if hf).2 k14
        obtain ⟨x14, ex14, hf⟩ := op_st hf
        refine lv_iinc (v := x14) (lv' := [(2, .int x14), (0, .ref (q 0)), (1, .int i_1)]) hx hb dX10_entries_17 hl (k := 0) rfl (by rw [ex14]; rfl) (by decide) rfl (fun ls hl => ?_)
        refine lv_goto (tgt := 7) hx hb dX10_entries_20 (by decide) ?_
        have hf := zr_l hf hr9
        exact ih8 (x14, M13) H locs ls (lv_sub hl [0, 1, 2] rfl) hW hS hm hf
  rw [eq50] at hf
  exact hw7 _ (x1, M4) H locs ls (lv_sub hl [0, 1, 2] rfl) hW hS hm hf

def fX10_logged (M : zMs) (i_1 : Int32) : Option (Int32 × zMs) :=
cl2 (fX10_noGame M i_1) fun r1 M3 =>
if r1 = 0 then
cl2 (fX10_entries M3 i_1) fun r5 M7 =>
some ((r5, M7))
else
some (((0 : Int32), M3))
abbrev rmX10_logged : Room := { frames := 3, cells := 0, slots := 0, locals := 72 }
set_option maxHeartbeats 4000000 in
set_option maxRecDepth 100000 in
theorem tX10_logged (l : Launch) (Γ : zG) (lo : zId → Nat) (S : zSt) (q : Nat → Nat) (M : zMs) (Y : va_W) {i_1 : Int32}  {y : (Int32 × zMs)} (hf : fX10_logged M i_1 = some y) : Met l yX10_logged wsX10_logged rmX10_logged (zP0 Γ lo S (mcl Γ q M ++ Y) [.ref (q 0), .int i_1]) (zQ0 Γ lo S S (mcl Γ q y.2 ++ Y) (some (.int y.1)) True) 0 0 (zA Γ) := by
  refine Met.ofW (cc := cX10_logged) (maxL := 2) (ret := (some .int)) (by decide) rfl ?_
  intro p e s m args below meth c s₁ B hml hv
  obtain ⟨rfl, hW, hKK⟩ := hv
  have hx := B.exec
  have hb := B.bytes
  have hr := B.returns
  have hts := atoms_spec (ws := wsX10_logged) B.pre
  have hown : s.vm.findClass RX10 = some m.cls := findClass_of_methodNamed B.named
  have hlocks := B.notSynchronized
  have hS : va_S (zA Γ) s.heap s.heap [] := va_S.rf
  have hm : ∀ c, zV S c = zV S c := fun _ => rfl
  have hl := lv_entry ([.ref (q 0), .int i_1]) (n := 2) (Nat.le_of_ble_eq_true rfl)
  rw [lg_entry_eq]
  generalize (lg_sl ([.ref (q 0), .int i_1]) ++ List.replicate (2 - (lg_sl ([.ref (q 0), .int i_1])).length) Slot.unset).toArray = ls at hl ⊢
  have hl : lv_has ls 2 [(0, .ref (q 0)), (1, .int i_1)] := hl
  obtain ⟨H, hH0⟩ : ∃ H, H = s.heap := ⟨_, rfl⟩
  obtain ⟨locs, hlo0⟩ : ∃ L : List Loc, L = [] := ⟨_, rfl⟩
  have hS : va_S (zA Γ) s.heap H locs := by rw [hH0, hlo0]; exact hS
  have hW : Wd Γ lo S (mcl Γ q M ++ Y) H := by rw [hH0]; exact hW
  rw [← hH0, ← hlo0]
  unfold fX10_logged at hf
  refine lv_aload_n hx hb dX10_logged_0 rfl (lv_at hl 0 rfl) ?_
  refine lv_iload_n hx hb dX10_logged_1 rfl (lv_at hl 1 rfl) ?_
  obtain ⟨r1, M3, hc2, hf⟩ := op_cl2 hf
  refine z_callV (As := [.int i_1]) (rest := []) ⟨hx, hb, hml, hown, hts⟩ (tX10_noGame l Γ lo S q M Y  hc2) (cwV 1 hts gX10_logged_X10_noGame rfl rfl rfl (by decide +kernel) ⟨Nat.le_of_ble_eq_true rfl, Nat.le_of_ble_eq_true rfl⟩) (wd_x hW (k := 0) rfl) rfl hKK hW hS rfl hl.1 rfl (Nat.le_of_ble_eq_true rfl) dX10_logged_2 ⟨Nat.zero_le _, Nat.zero_le _⟩ (fun H locs hW hS hm1 hE => ?_)
  have b4 := hE
  refine lv_if_eq (tgt := 12) hx hb dX10_logged_5 (by decide) (fun k5 => ?_) (fun k5 => ?_)
  · have hf := (op_if hf).1 k5
    refine lv_aload_n hx hb dX10_logged_12 rfl (lv_at hl 0 rfl) ?_
    refine lv_iload_n hx hb dX10_logged_13 rfl (lv_at hl 1 rfl) ?_
    obtain ⟨r5, M7, hc6, hf⟩ := op_cl2 hf
    refine z_callV (As := [.int i_1]) (rest := []) ⟨hx, hb, hml, hown, hts⟩ (tX10_entries l Γ lo S q M3 Y  hc6) (cwV 1 hts gX10_logged_X10_entries rfl rfl rfl (by decide +kernel) ⟨Nat.le_of_ble_eq_true rfl, Nat.le_of_ble_eq_true rfl⟩) (wd_x hW (k := 0) rfl) rfl hKK hW hS rfl hl.1 rfl (Nat.le_of_ble_eq_true rfl) dX10_logged_14 ⟨Nat.zero_le _, Nat.zero_le _⟩ (fun H locs hW hS hm1 hE => ?_)
    have hf := Option.some.inj hf
    rw [← hf]
    exact z_iret hx hb hr hlocks rfl hW hS hm trivial dX10_logged_17
  · have hf := (op_if hf).2 k5
    refine lv_iconst (v := (0)) hx hb dX10_logged_8 (by decide) ?_
    refine lv_goto (tgt := 17) hx hb dX10_logged_9 (by decide) ?_
    have hf := Option.some.inj hf
    rw [← hf]
    exact z_iret hx hb hr hlocks rfl hW hS hm trivial dX10_logged_17

def fX10_entryAt (M : zMs) (i_1 : Int32) (i_2 : Int32) : Option (Int64 × zMs) :=
cl (fX10_isGame M i_1) fun r1 =>
st (fun (y4 : Int32) (S6 : zMs) => (st y4 fun x8 =>
st (fun (y9 : Int32) => (cl2 (fX10_refused S6 y9) fun r12 M14 =>
if r12 = 0 then
cl (fX10_rewind M14 (0 : Int32)) fun M18 =>
cl2 (fX10_next M18 (0 : Int32) i_1) fun r19 M21 =>
st r19 fun x22 =>
st (0 : Int32) fun x23 =>
lp (fun (q24 : (Int32 × Int32 × zMs)) => (if i_2 ≤ q24.2.1 then
some (.inr ((q24.1.toInt64, q24.2.2)))
else
cl2 (fX10_next q24.2.2 (0 : Int32) i_1) fun r30 M32 =>
st r30 fun x33 =>
st (q24.2.1 + (1 : Int32)) fun x34 =>
some (.inl (x33, x34, M32)) : Option ((Int32 × Int32 × zMs) ⊕ (Int64 × zMs)))) 40000 (x22, x23, M21)
else
some (((0 : Int64), M14)) : Option (Int64 × zMs))) fun j11 =>
if x8 = 0 then
j11 (1 : Int32)
else
j11 (0 : Int32) : Option (Int64 × zMs))) fun j7 =>
st (fun (S35 : zMs) => (j7 (0 : Int32) S35 : Option (Int64 × zMs))) fun j36 =>
if r1 = 0 then
j36 M
else
if i_2 < 0 then
j36 M
else
cl2 (fX10_entries M i_1) fun r37 M39 =>
if r37 ≤ i_2 then
j36 M39
else
j7 (1 : Int32) M39
abbrev rmX10_entryAt : Room := { frames := 3, cells := 0, slots := 0, locals := 72 }
set_option maxHeartbeats 4000000 in
set_option maxRecDepth 100000 in
theorem tX10_entryAt (l : Launch) (Γ : zG) (lo : zId → Nat) (S : zSt) (q : Nat → Nat) (M : zMs) (Y : va_W) {i_1 : Int32} {i_2 : Int32}  {y : (Int64 × zMs)} (hf : fX10_entryAt M i_1 i_2 = some y) : Met l yX10_entryAt wsX10_entryAt rmX10_entryAt (zP0 Γ lo S (mcl Γ q M ++ Y) [.ref (q 0), .int i_1, .int i_2]) (zQ0 Γ lo S S (mcl Γ q y.2 ++ Y) (some (.long y.1)) True) 0 0 (zA Γ) := by
  refine Met.ofW (cc := cX10_entryAt) (maxL := 6) (ret := (some .long)) (by decide) rfl ?_
  intro p e s m args below meth c s₁ B hml hv
  obtain ⟨rfl, hW, hKK⟩ := hv
  have hx := B.exec
  have hb := B.bytes
  have hr := B.returns
  have hts := atoms_spec (ws := wsX10_entryAt) B.pre
  have hown : s.vm.findClass RX10 = some m.cls := findClass_of_methodNamed B.named
  have hlocks := B.notSynchronized
  have hS : va_S (zA Γ) s.heap s.heap [] := va_S.rf
  have hm : ∀ c, zV S c = zV S c := fun _ => rfl
  have hl := lv_entry ([.ref (q 0), .int i_1, .int i_2]) (n := 6) (Nat.le_of_ble_eq_true rfl)
  rw [lg_entry_eq]
  generalize (lg_sl ([.ref (q 0), .int i_1, .int i_2]) ++ List.replicate (6 - (lg_sl ([.ref (q 0), .int i_1, .int i_2])).length) Slot.unset).toArray = ls at hl ⊢
  have hl : lv_has ls 6 [(0, .ref (q 0)), (1, .int i_1), (2, .int i_2)] := hl
  obtain ⟨H, hH0⟩ : ∃ H, H = s.heap := ⟨_, rfl⟩
  obtain ⟨locs, hlo0⟩ : ∃ L : List Loc, L = [] := ⟨_, rfl⟩
  have hS : va_S (zA Γ) s.heap H locs := by rw [hH0, hlo0]; exact hS
  have hW : Wd Γ lo S (mcl Γ q M ++ Y) H := by rw [hH0]; exact hW
  rw [← hH0, ← hlo0]
  unfold fX10_entryAt at hf
  refine lv_aload_n hx hb dX10_entryAt_0 rfl (lv_at hl 0 rfl) ?_
  refine lv_iload_n hx hb dX10_entryAt_1 rfl (lv_at hl 1 rfl) ?_
  obtain ⟨r1, hc2, hf⟩ := op_cl hf
  refine z_callV (As := [.int i_1]) (rest := []) ⟨hx, hb, hml, hown, hts⟩ (tX10_isGame l Γ lo S q M Y  hc2) (cwV 1 hts gX10_entryAt_X10_isGame rfl rfl rfl (by decide +kernel) ⟨Nat.le_of_ble_eq_true rfl, Nat.le_of_ble_eq_true rfl⟩) (wd_x hW (k := 0) rfl) rfl hKK hW hS rfl hl.1 rfl (Nat.le_of_ble_eq_true rfl) dX10_entryAt_2 ⟨Nat.zero_le _, Nat.zero_le _⟩ (fun H locs hW hS hm1 hE => ?_)
  have b3 := hE
  obtain ⟨j7, ej7, hf⟩ := op_st hf
  have hj7 : ∀ (y4 : Int32) (S6 : zMs) (H : Heap) (locs : List Loc) (ls : Array Slot) (b5 : y4 = 0 ∨ y4 = 1), lv_has ls 6 [(0, .ref (q 0)), (1, .int i_1), (2, .int i_2)] → Wd Γ lo S (mcl Γ q S6 ++ Y) H → va_S (zA Γ) s.heap H locs → (∀ c, zV S c = zV S c) → j7 y4 S6 = some y → W p l e (headSpec wsX10_entryAt rmX10_entryAt).room s m ([.ref (q 0), .int i_1, .int i_2] : List Value).toArray below meth c H locs 0 0 (MQ below (zQ0 Γ lo S S (mcl Γ q y.2 ++ Y) (some (.long y.1)) True) ([.ref (q 0), .int i_1, .int i_2] : List Value).toArray s 0 0 (zA Γ)) (F0 m 26 ls [.int y4]) := by
    intro y4 S6 H locs ls b5 hl hW hS hm hf
    rw [ej7] at hf
    obtain ⟨x8, ex8, hf⟩ := op_st hf
    have bx8 : x8 = 0 ∨ x8 = 1 := by rw [ex8]; exact b5
    refine z_istn (lv' := [(3, .int x8), (0, .ref (q 0)), (1, .int i_1), (2, .int i_2)]) ex8 hx hb dX10_entryAt_26 rfl hl (by decide) rfl (fun ls hl => ?_)
    refine lv_aload_n hx hb dX10_entryAt_27 rfl (lv_at hl 1 rfl) ?_
    refine lv_iload_n hx hb dX10_entryAt_28 rfl (lv_at hl 0 rfl) ?_
    obtain ⟨j11, ej11, hf⟩ := op_st hf
    have hj11 : ∀ (y9 : Int32) (H : Heap) (locs : List Loc) (ls : Array Slot) (b10 : y9 = 0 ∨ y9 = 1), lv_has ls 6 [(0, .ref (q 0)), (1, .int i_1), (2, .int i_2)] → Wd Γ lo S (mcl Γ q S6 ++ Y) H → va_S (zA Γ) s.heap H locs → (∀ c, zV S c = zV S c) → j11 y9 = some y → W p l e (headSpec wsX10_entryAt rmX10_entryAt).room s m ([.ref (q 0), .int i_1, .int i_2] : List Value).toArray below meth c H locs 0 0 (MQ below (zQ0 Γ lo S S (mcl Γ q y.2 ++ Y) (some (.long y.1)) True) ([.ref (q 0), .int i_1, .int i_2] : List Value).toArray s 0 0 (zA Γ)) (F0 m 37 ls [.int y9, .ref (q 0)]) := by
      intro y9 H locs ls b10 hl hW hS hm hf
      rw [ej11] at hf
      obtain ⟨r12, M14, hc13, hf⟩ := op_cl2 hf
      refine z_callV (As := [.int y9]) (rest := []) ⟨hx, hb, hml, hown, hts⟩ (tX10_refused l Γ lo S q S6 Y  hc13) (cwV 1 hts gX10_entryAt_X10_refused rfl rfl rfl (by decide +kernel) ⟨Nat.le_of_ble_eq_true rfl, Nat.le_of_ble_eq_true rfl⟩) (wd_x hW (k := 0) rfl) rfl hKK hW hS rfl hl.1 rfl (Nat.le_of_ble_eq_true rfl) dX10_entryAt_37 ⟨Nat.zero_le _, Nat.zero_le _⟩ (fun H locs hW hS hm1 hE => ?_)
      have b15 := hE
      refine lv_if_eq (tgt := 45) hx hb dX10_entryAt_40 (by decide) (fun k40 => ?_) (fun k40 => ?_)
      · have hf := (op_if hf).1 k40
        refine lv_aload_n hx hb dX10_entryAt_45 rfl (lv_at hl 0 rfl) ?_
        refine lv_iconst (v := (0)) hx hb dX10_entryAt_46 (by decide) ?_
        obtain ⟨M18, hc17, hf⟩ := op_cl hf
        refine z_callV (As := [.int (0 : Int32)]) (rest := []) ⟨hx, hb, hml, hown, hts⟩ (tX10_rewind l Γ lo S q M14 Y  hc17) (cwV 1 hts gX10_entryAt_X10_rewind rfl rfl rfl (by decide +kernel) ⟨Nat.le_of_ble_eq_true rfl, Nat.le_of_ble_eq_true rfl⟩) (wd_x hW (k := 0) rfl) rfl hKK hW hS rfl hl.1 rfl (Nat.le_of_ble_eq_true rfl) dX10_entryAt_47 ⟨Nat.zero_le _, Nat.zero_le _⟩ (fun H locs hW hS hm1 hE => ?_)
        refine lv_aload_n hx hb dX10_entryAt_50 rfl (lv_at hl 0 rfl) ?_
        refine lv_iconst (v := (0)) hx hb dX10_entryAt_51 (by decide) ?_
        refine lv_iload_n hx hb dX10_entryAt_52 rfl (lv_at hl 1 rfl) ?_
        obtain ⟨r19, M21, hc20, hf⟩ := op_cl2 hf
        refine z_callV (As := [.int (0 : Int32), .int i_1]) (rest := []) ⟨hx, hb, hml, hown, hts⟩ (tX10_next l Γ lo S q M18 Y  hc20) (cwV 2 hts gX10_entryAt_X10_next rfl rfl rfl (by decide +kernel) ⟨Nat.le_of_ble_eq_true rfl, Nat.le_of_ble_eq_true rfl⟩) (wd_x hW (k := 0) rfl) rfl hKK hW hS rfl hl.1 rfl (Nat.le_of_ble_eq_true rfl) dX10_entryAt_53 ⟨Nat.zero_le _, Nat.zero_le _⟩ (fun H locs hW hS hm1 hE => ?_)
        obtain ⟨x22, ex22, hf⟩ := op_st hf
        refine z_ist (lv' := [(4, .int x22), (0, .ref (q 0)), (1, .int i_1), (2, .int i_2)]) ex22 hx hb dX10_entryAt_56 hl (by decide) rfl (fun ls hl => ?_)
        refine lv_iconst (v := (0)) hx hb dX10_entryAt_58 (by decide) ?_
        obtain ⟨x23, ex23, hf⟩ := op_st hf
        have bx23 : x23 = 0 ∨ x23 = 1 := Or.inl ex23
        refine z_ist (lv' := [(5, .int x23), (4, .int x22), (0, .ref (q 0)), (1, .int i_1), (2, .int i_2)]) ex23 hx hb dX10_entryAt_59 hl (by decide) rfl (fun ls hl => ?_)
        obtain ⟨w26, q240, ew26, eq240, hf⟩ := op_lb hf
        have hw26 : ∀ n29 : Nat, ∀ (q24 : (Int32 × Int32 × zMs)) (H : Heap) (locs : List Loc) (ls : Array Slot), lv_has ls 6 [(5, .int q24.2.1), (4, .int q24.1), (0, .ref (q 0)), (1, .int i_1), (2, .int i_2)] → Wd Γ lo S (mcl Γ q q24.2.2 ++ Y) H → va_S (zA Γ) s.heap H locs → (∀ c, zV S c = zV S c) → lp w26 n29 q24 = some y → W p l e (headSpec wsX10_entryAt rmX10_entryAt).room s m ([.ref (q 0), .int i_1, .int i_2] : List Value).toArray below meth c H locs 0 0 (MQ below (zQ0 Γ lo S S (mcl Γ q y.2 ++ Y) (some (.long y.1)) True) ([.ref (q 0), .int i_1, .int i_2] : List Value).toArray s 0 0 (zA Γ)) (F0 m 61 ls []) := by
          intro n29
          induction n29 with
          | zero => intro q24 H locs ls hl hW hS hm hf; cases hf
          | succ n29 ih27 =>
            intro q24 H locs ls hl hW hS hm hf
            obtain ⟨n_, r25, hn_, hf, hr28⟩ := op_lq hf
            cases hn_
            rw [ew26] at hf
            refine lv_iload hx hb dX10_entryAt_61 (lv_at hl 0 rfl) ?_
            refine lv_iload_n hx hb dX10_entryAt_63 rfl (lv_at hl 4 rfl) ?_
            refine lv_icmp_ge (tgt := 81) hx hb dX10_entryAt_64 (by decide) (fun k64 => ?_) (fun k64 => ?_)
            · have hf := (op_if hf).1 k64
              refine lv_iload hx hb dX10_entryAt_81 (lv_at hl 1 rfl) ?_
              refine lv_i2l hx hb dX10_entryAt_83 rfl ?_
              have hf := zr_r hf hr28
              rw [← hf]
              exact z_lret hx hb hr hlocks hW hS hm trivial dX10_entryAt_84
            · have hf := (op_if hf).2 k64
              refine lv_aload_n hx hb dX10_entryAt_67 rfl (lv_at hl 2 rfl) ?_
              refine lv_iconst (v := (0)) hx hb dX10_entryAt_68 (by decide) ?_
              refine lv_iload_n hx hb dX10_entryAt_69 rfl (lv_at hl 3 rfl) ?_
              obtain ⟨r30, M32, hc31, hf⟩ := op_cl2 hf
              refine z_callV (As := [.int (0 : Int32), .int i_1]) (rest := []) ⟨hx, hb, hml, hown, hts⟩ (tX10_next l Γ lo S q q24.2.2 Y  hc31) (cwV 2 hts gX10_entryAt_X10_next rfl rfl rfl (by decide +kernel) ⟨Nat.le_of_ble_eq_true rfl, Nat.le_of_ble_eq_true rfl⟩) (wd_x hW (k := 0) rfl) rfl hKK hW hS rfl hl.1 rfl (Nat.le_of_ble_eq_true rfl) dX10_entryAt_70 ⟨Nat.zero_le _, Nat.zero_le _⟩ (fun H locs hW hS hm1 hE => ?_)
              obtain ⟨x33, ex33, hf⟩ := op_st hf
              refine z_ist (lv' := [(4, .int x33), (5, .int q24.2.1), (0, .ref (q 0)), (1, .int i_1), (2, .int i_2)]) ex33 hx hb dX10_entryAt_73 hl (by decide) rfl (fun ls hl => ?_)
              obtain ⟨x34, ex34, hf⟩ := op_st hf
              refine lv_iinc (v := x34) (lv' := [(5, .int x34), (4, .int x33), (0, .ref (q 0)), (1, .int i_1), (2, .int i_2)]) hx hb dX10_entryAt_75 hl (k := 1) rfl (by rw [ex34]; rfl) (by decide) rfl (fun ls hl => ?_)
              refine lv_goto (tgt := 61) hx hb dX10_entryAt_78 (by decide) ?_
              have hf := zr_l hf hr28
              exact ih27 (x33, x34, M32) H locs ls (lv_sub hl [0, 1, 2, 3, 4] rfl) hW hS hm hf
        rw [eq240] at hf
        exact hw26 _ (x22, x23, M21) H locs ls (lv_sub hl [0, 1, 2, 3, 4] rfl) hW hS hm hf
      · have hf := (op_if hf).2 k40
        refine lv_lconst (v := (0)) hx hb dX10_entryAt_43 (by decide) ?_
        have hf := Option.some.inj hf
        rw [← hf]
        exact z_lret hx hb hr hlocks hW hS hm trivial dX10_entryAt_44
    refine lv_if_eq (tgt := 36) hx hb dX10_entryAt_29 (by decide) (fun k29 => ?_) (fun k29 => ?_)
    · have hf := (op_if hf).1 k29
      refine lv_iconst (v := (1)) hx hb dX10_entryAt_36 (by decide) ?_
      exact hj11 (1 : Int32) H locs ls (Or.inr rfl) (lv_sub hl [1, 2, 3] rfl) hW hS hm hf
    · have hf := (op_if hf).2 k29
      refine lv_iconst (v := (0)) hx hb dX10_entryAt_32 (by decide) ?_
      refine lv_goto (tgt := 37) hx hb dX10_entryAt_33 (by decide) ?_
      exact hj11 (0 : Int32) H locs ls (Or.inl rfl) (lv_sub hl [1, 2, 3] rfl) hW hS hm hf
  obtain ⟨j36, ej36, hf⟩ := op_st hf
  have hj36 : ∀ (S35 : zMs) (H : Heap) (locs : List Loc) (ls : Array Slot), lv_has ls 6 [(0, .ref (q 0)), (1, .int i_1), (2, .int i_2)] → Wd Γ lo S (mcl Γ q S35 ++ Y) H → va_S (zA Γ) s.heap H locs → (∀ c, zV S c = zV S c) → j36 S35 = some y → W p l e (headSpec wsX10_entryAt rmX10_entryAt).room s m ([.ref (q 0), .int i_1, .int i_2] : List Value).toArray below meth c H locs 0 0 (MQ below (zQ0 Γ lo S S (mcl Γ q y.2 ++ Y) (some (.long y.1)) True) ([.ref (q 0), .int i_1, .int i_2] : List Value).toArray s 0 0 (zA Γ)) (F0 m 25 ls []) := by
    intro S35 H locs ls  hl hW hS hm hf
    rw [ej36] at hf
    refine lv_iconst (v := (0)) hx hb dX10_entryAt_25 (by decide) ?_
    exact hj7 (0 : Int32) S35 H locs ls (Or.inl rfl) (lv_sub hl [0, 1, 2] rfl) hW hS hm hf
  refine lv_if_eq (tgt := 25) hx hb dX10_entryAt_5 (by decide) (fun k5 => ?_) (fun k5 => ?_)
  · have hf := (op_if hf).1 k5
    exact hj36 M H locs ls  (lv_sub hl [0, 1, 2] rfl) hW hS hm hf
  · have hf := (op_if hf).2 k5
    refine lv_iload_n hx hb dX10_entryAt_8 rfl (lv_at hl 2 rfl) ?_
    refine lv_if_lt (tgt := 25) hx hb dX10_entryAt_9 (by decide) (fun k9 => ?_) (fun k9 => ?_)
    · have hf := (op_if hf).1 k9
      exact hj36 M H locs ls  (lv_sub hl [0, 1, 2] rfl) hW hS hm hf
    · have hf := (op_if hf).2 k9
      refine lv_iload_n hx hb dX10_entryAt_12 rfl (lv_at hl 2 rfl) ?_
      refine lv_aload_n hx hb dX10_entryAt_13 rfl (lv_at hl 0 rfl) ?_
      refine lv_iload_n hx hb dX10_entryAt_14 rfl (lv_at hl 1 rfl) ?_
      obtain ⟨r37, M39, hc38, hf⟩ := op_cl2 hf
      refine z_callV (As := [.int i_1]) (rest := [.int i_2]) ⟨hx, hb, hml, hown, hts⟩ (tX10_entries l Γ lo S q M Y  hc38) (cwV 1 hts gX10_entryAt_X10_entries rfl rfl rfl (by decide +kernel) ⟨Nat.le_of_ble_eq_true rfl, Nat.le_of_ble_eq_true rfl⟩) (wd_x hW (k := 0) rfl) rfl hKK hW hS rfl hl.1 rfl (Nat.le_of_ble_eq_true rfl) dX10_entryAt_15 ⟨Nat.zero_le _, Nat.zero_le _⟩ (fun H locs hW hS hm1 hE => ?_)
      refine lv_icmp_ge (tgt := 25) hx hb dX10_entryAt_18 (by decide) (fun k18 => ?_) (fun k18 => ?_)
      · have hf := (op_if hf).1 k18
        exact hj36 M39 H locs ls  (lv_sub hl [0, 1, 2] rfl) hW hS hm hf
      · have hf := (op_if hf).2 k18
        refine lv_iconst (v := (1)) hx hb dX10_entryAt_21 (by decide) ?_
        refine lv_goto (tgt := 26) hx hb dX10_entryAt_22 (by decide) ?_
        exact hj7 (1 : Int32) M39 H locs ls (Or.inr rfl) (lv_sub hl [0, 1, 2] rfl) hW hS hm hf

def fX10_areAlike (M : zMs) (i_1 : Int32) (i_2 : Int32) : Option (Int32 × zMs) :=
cl (fX10_rewind M (0 : Int32)) fun M3 =>
cl (fX10_rewind M3 (1 : Int32)) fun M6 =>
cl2 (fX10_next M6 (0 : Int32) i_1) fun r7 M9 =>
st r7 fun x10 =>
cl2 (fX10_next M9 (1 : Int32) i_2) fun r11 M13 =>
st r11 fun x14 =>
lp (fun (q15 : (Int32 × Int32 × zMs)) => (st (fun (u_ : Unit) => (if q15.1 = q15.2.1 then
some (.inr (((1 : Int32), q15.2.2)))
else
some (.inr (((0 : Int32), q15.2.2))) : Option ((Int32 × Int32 × zMs) ⊕ (Int32 × zMs)))) fun j21 =>
if q15.1 = q15.2.1 then
if q15.1 = (-1 : Int32) then
j21 ()
else
cl2 (fX10_next q15.2.2 (0 : Int32) i_1) fun r22 M24 =>
st r22 fun x25 =>
cl2 (fX10_next M24 (1 : Int32) i_2) fun r26 M28 =>
st r26 fun x29 =>
some (.inl (x25, x29, M28))
else
j21 () : Option ((Int32 × Int32 × zMs) ⊕ (Int32 × zMs)))) 40000 (x10, x14, M13)
abbrev rmX10_areAlike : Room := { frames := 2, cells := 0, slots := 0, locals := 50 }
set_option maxHeartbeats 4000000 in
set_option maxRecDepth 100000 in
theorem tX10_areAlike (l : Launch) (Γ : zG) (lo : zId → Nat) (S : zSt) (q : Nat → Nat) (M : zMs) (Y : va_W) {i_1 : Int32} {i_2 : Int32}  {y : (Int32 × zMs)} (hf : fX10_areAlike M i_1 i_2 = some y) : Met l yX10_areAlike wsX10_areAlike rmX10_areAlike (zP0 Γ lo S (mcl Γ q M ++ Y) [.ref (q 0), .int i_1, .int i_2]) (zQ0 Γ lo S S (mcl Γ q y.2 ++ Y) (some (.int y.1)) (y.1 = 0 ∨ y.1 = 1)) 0 0 (zA Γ) := by
  refine Met.ofW (cc := cX10_areAlike) (maxL := 5) (ret := (some .boolean)) (by decide) rfl ?_
  intro p e s m args below meth c s₁ B hml hv
  obtain ⟨rfl, hW, hKK⟩ := hv
  have hx := B.exec
  have hb := B.bytes
  have hr := B.returns
  have hts := atoms_spec (ws := wsX10_areAlike) B.pre
  have hown : s.vm.findClass RX10 = some m.cls := findClass_of_methodNamed B.named
  have hlocks := B.notSynchronized
  have hS : va_S (zA Γ) s.heap s.heap [] := va_S.rf
  have hm : ∀ c, zV S c = zV S c := fun _ => rfl
  have hl := lv_entry ([.ref (q 0), .int i_1, .int i_2]) (n := 5) (Nat.le_of_ble_eq_true rfl)
  rw [lg_entry_eq]
  generalize (lg_sl ([.ref (q 0), .int i_1, .int i_2]) ++ List.replicate (5 - (lg_sl ([.ref (q 0), .int i_1, .int i_2])).length) Slot.unset).toArray = ls at hl ⊢
  have hl : lv_has ls 5 [(0, .ref (q 0)), (1, .int i_1), (2, .int i_2)] := hl
  obtain ⟨H, hH0⟩ : ∃ H, H = s.heap := ⟨_, rfl⟩
  obtain ⟨locs, hlo0⟩ : ∃ L : List Loc, L = [] := ⟨_, rfl⟩
  have hS : va_S (zA Γ) s.heap H locs := by rw [hH0, hlo0]; exact hS
  have hW : Wd Γ lo S (mcl Γ q M ++ Y) H := by rw [hH0]; exact hW
  rw [← hH0, ← hlo0]
  unfold fX10_areAlike at hf
  refine lv_aload_n hx hb dX10_areAlike_0 rfl (lv_at hl 0 rfl) ?_
  refine lv_iconst (v := (0)) hx hb dX10_areAlike_1 (by decide) ?_
  obtain ⟨M3, hc2, hf⟩ := op_cl hf
  refine z_callV (As := [.int (0 : Int32)]) (rest := []) ⟨hx, hb, hml, hown, hts⟩ (tX10_rewind l Γ lo S q M Y  hc2) (cwV 1 hts gX10_areAlike_X10_rewind rfl rfl rfl (by decide +kernel) ⟨Nat.le_of_ble_eq_true rfl, Nat.le_of_ble_eq_true rfl⟩) (wd_x hW (k := 0) rfl) rfl hKK hW hS rfl hl.1 rfl (Nat.le_of_ble_eq_true rfl) dX10_areAlike_2 ⟨Nat.zero_le _, Nat.zero_le _⟩ (fun H locs hW hS hm1 hE => ?_)
  refine lv_aload_n hx hb dX10_areAlike_5 rfl (lv_at hl 0 rfl) ?_
  refine lv_iconst (v := (1)) hx hb dX10_areAlike_6 (by decide) ?_
  obtain ⟨M6, hc5, hf⟩ := op_cl hf
  refine z_callV (As := [.int (1 : Int32)]) (rest := []) ⟨hx, hb, hml, hown, hts⟩ (tX10_rewind l Γ lo S q M3 Y  hc5) (cwV 1 hts gX10_areAlike_X10_rewind rfl rfl rfl (by decide +kernel) ⟨Nat.le_of_ble_eq_true rfl, Nat.le_of_ble_eq_true rfl⟩) (wd_x hW (k := 0) rfl) rfl hKK hW hS rfl hl.1 rfl (Nat.le_of_ble_eq_true rfl) dX10_areAlike_7 ⟨Nat.zero_le _, Nat.zero_le _⟩ (fun H locs hW hS hm1 hE => ?_)
  refine lv_aload_n hx hb dX10_areAlike_10 rfl (lv_at hl 0 rfl) ?_
  refine lv_iconst (v := (0)) hx hb dX10_areAlike_11 (by decide) ?_
  refine lv_iload_n hx hb dX10_areAlike_12 rfl (lv_at hl 1 rfl) ?_
  obtain ⟨r7, M9, hc8, hf⟩ := op_cl2 hf
  refine z_callV (As := [.int (0 : Int32), .int i_1]) (rest := []) ⟨hx, hb, hml, hown, hts⟩ (tX10_next l Γ lo S q M6 Y  hc8) (cwV 2 hts gX10_areAlike_X10_next rfl rfl rfl (by decide +kernel) ⟨Nat.le_of_ble_eq_true rfl, Nat.le_of_ble_eq_true rfl⟩) (wd_x hW (k := 0) rfl) rfl hKK hW hS rfl hl.1 rfl (Nat.le_of_ble_eq_true rfl) dX10_areAlike_13 ⟨Nat.zero_le _, Nat.zero_le _⟩ (fun H locs hW hS hm1 hE => ?_)
  obtain ⟨x10, ex10, hf⟩ := op_st hf
  refine z_istn (lv' := [(3, .int x10), (0, .ref (q 0)), (1, .int i_1), (2, .int i_2)]) ex10 hx hb dX10_areAlike_16 rfl hl (by decide) rfl (fun ls hl => ?_)
  refine lv_aload_n hx hb dX10_areAlike_17 rfl (lv_at hl 1 rfl) ?_
  refine lv_iconst (v := (1)) hx hb dX10_areAlike_18 (by decide) ?_
  refine lv_iload_n hx hb dX10_areAlike_19 rfl (lv_at hl 3 rfl) ?_
  obtain ⟨r11, M13, hc12, hf⟩ := op_cl2 hf
  refine z_callV (As := [.int (1 : Int32), .int i_2]) (rest := []) ⟨hx, hb, hml, hown, hts⟩ (tX10_next l Γ lo S q M9 Y  hc12) (cwV 2 hts gX10_areAlike_X10_next rfl rfl rfl (by decide +kernel) ⟨Nat.le_of_ble_eq_true rfl, Nat.le_of_ble_eq_true rfl⟩) (wd_x hW (k := 0) rfl) rfl hKK hW hS rfl hl.1 rfl (Nat.le_of_ble_eq_true rfl) dX10_areAlike_20 ⟨Nat.zero_le _, Nat.zero_le _⟩ (fun H locs hW hS hm1 hE => ?_)
  obtain ⟨x14, ex14, hf⟩ := op_st hf
  refine z_ist (lv' := [(4, .int x14), (3, .int x10), (0, .ref (q 0)), (1, .int i_1), (2, .int i_2)]) ex14 hx hb dX10_areAlike_23 hl (by decide) rfl (fun ls hl => ?_)
  obtain ⟨w17, q150, ew17, eq150, hf⟩ := op_lb hf
  have hw17 : ∀ n20 : Nat, ∀ (q15 : (Int32 × Int32 × zMs)) (H : Heap) (locs : List Loc) (ls : Array Slot), lv_has ls 5 [(4, .int q15.2.1), (3, .int q15.1), (0, .ref (q 0)), (1, .int i_1), (2, .int i_2)] → Wd Γ lo S (mcl Γ q q15.2.2 ++ Y) H → va_S (zA Γ) s.heap H locs → (∀ c, zV S c = zV S c) → lp w17 n20 q15 = some y → W p l e (headSpec wsX10_areAlike rmX10_areAlike).room s m ([.ref (q 0), .int i_1, .int i_2] : List Value).toArray below meth c H locs 0 0 (MQ below (zQ0 Γ lo S S (mcl Γ q y.2 ++ Y) (some (.int y.1)) (y.1 = 0 ∨ y.1 = 1)) ([.ref (q 0), .int i_1, .int i_2] : List Value).toArray s 0 0 (zA Γ)) (F0 m 25 ls []) := by
    intro n20
    induction n20 with
    | zero => intro q15 H locs ls hl hW hS hm hf; cases hf
    | succ n20 ih18 =>
      intro q15 H locs ls hl hW hS hm hf
      obtain ⟨n_, r16, hn_, hf, hr19⟩ := op_lq hf
      cases hn_
      rw [ew17] at hf
      refine lv_iload_n hx hb dX10_areAlike_25 rfl (lv_at hl 1 rfl) ?_
      refine lv_iload hx hb dX10_areAlike_26 (lv_at hl 0 rfl) ?_
      obtain ⟨j21, ej21, hf⟩ := op_st hf
      have hj21 : ∀ (u_ : Unit) (H : Heap) (locs : List Loc) (ls : Array Slot), lv_has ls 5 [(4, .int q15.2.1), (3, .int q15.1)] → Wd Γ lo S (mcl Γ q q15.2.2 ++ Y) H → va_S (zA Γ) s.heap H locs → (∀ c, zV S c = zV S c) → j21 () = some r16 → W p l e (headSpec wsX10_areAlike rmX10_areAlike).room s m ([.ref (q 0), .int i_1, .int i_2] : List Value).toArray below meth c H locs 0 0 (MQ below (zQ0 Γ lo S S (mcl Γ q y.2 ++ Y) (some (.int y.1)) (y.1 = 0 ∨ y.1 = 1)) ([.ref (q 0), .int i_1, .int i_2] : List Value).toArray s 0 0 (zA Γ)) (F0 m 54 ls []) := by
        intro u_ H locs ls  hl hW hS hm hf
        rw [ej21] at hf
        refine lv_iload_n hx hb dX10_areAlike_54 rfl (lv_at hl 1 rfl) ?_
        refine lv_iload hx hb dX10_areAlike_55 (lv_at hl 0 rfl) ?_
        refine lv_icmp_ne (tgt := 64) hx hb dX10_areAlike_57 (by decide) (fun k57 => ?_) (fun k57 => ?_)
        · have hf := (op_if hf).2 k57
          refine lv_iconst (v := (0)) hx hb dX10_areAlike_64 (by decide) ?_
          have hf := zr_r hf hr19
          rw [← hf]
          exact z_iret hx hb hr hlocks (z_bb (Or.inl rfl)) hW hS hm (Or.inl rfl) dX10_areAlike_65
        · have hf := (op_if hf).1 k57
          refine lv_iconst (v := (1)) hx hb dX10_areAlike_60 (by decide) ?_
          refine lv_goto (tgt := 65) hx hb dX10_areAlike_61 (by decide) ?_
          have hf := zr_r hf hr19
          rw [← hf]
          exact z_iret hx hb hr hlocks (z_bb (Or.inr rfl)) hW hS hm (Or.inr rfl) dX10_areAlike_65
      refine lv_icmp_ne (tgt := 54) hx hb dX10_areAlike_28 (by decide) (fun k28 => ?_) (fun k28 => ?_)
      · have hf := (op_if hf).2 k28
        exact hj21 () H locs ls  (lv_sub hl [0, 1] rfl) hW hS hm hf
      · have hf := (op_if hf).1 k28
        refine lv_iload_n hx hb dX10_areAlike_31 rfl (lv_at hl 1 rfl) ?_
        refine lv_iconst (v := (-1)) hx hb dX10_areAlike_32 (by decide) ?_
        refine lv_icmp_eq (tgt := 54) hx hb dX10_areAlike_33 (by decide) (fun k33 => ?_) (fun k33 => ?_)
        · have hf := (op_if hf).1 k33
          exact hj21 () H locs ls  (lv_sub hl [0, 1] rfl) hW hS hm hf
        · have hf := (op_if hf).2 k33
          refine lv_aload_n hx hb dX10_areAlike_36 rfl (lv_at hl 2 rfl) ?_
          refine lv_iconst (v := (0)) hx hb dX10_areAlike_37 (by decide) ?_
          refine lv_iload_n hx hb dX10_areAlike_38 rfl (lv_at hl 3 rfl) ?_
          obtain ⟨r22, M24, hc23, hf⟩ := op_cl2 hf
          refine z_callV (As := [.int (0 : Int32), .int i_1]) (rest := []) ⟨hx, hb, hml, hown, hts⟩ (tX10_next l Γ lo S q q15.2.2 Y  hc23) (cwV 2 hts gX10_areAlike_X10_next rfl rfl rfl (by decide +kernel) ⟨Nat.le_of_ble_eq_true rfl, Nat.le_of_ble_eq_true rfl⟩) (wd_x hW (k := 0) rfl) rfl hKK hW hS rfl hl.1 rfl (Nat.le_of_ble_eq_true rfl) dX10_areAlike_39 ⟨Nat.zero_le _, Nat.zero_le _⟩ (fun H locs hW hS hm1 hE => ?_)
          obtain ⟨x25, ex25, hf⟩ := op_st hf
          refine z_istn (lv' := [(3, .int x25), (4, .int q15.2.1), (0, .ref (q 0)), (1, .int i_1), (2, .int i_2)]) ex25 hx hb dX10_areAlike_42 rfl hl (by decide) rfl (fun ls hl => ?_)
          refine lv_aload_n hx hb dX10_areAlike_43 rfl (lv_at hl 2 rfl) ?_
          refine lv_iconst (v := (1)) hx hb dX10_areAlike_44 (by decide) ?_
          refine lv_iload_n hx hb dX10_areAlike_45 rfl (lv_at hl 4 rfl) ?_
          obtain ⟨r26, M28, hc27, hf⟩ := op_cl2 hf
          refine z_callV (As := [.int (1 : Int32), .int i_2]) (rest := []) ⟨hx, hb, hml, hown, hts⟩ (tX10_next l Γ lo S q M24 Y  hc27) (cwV 2 hts gX10_areAlike_X10_next rfl rfl rfl (by decide +kernel) ⟨Nat.le_of_ble_eq_true rfl, Nat.le_of_ble_eq_true rfl⟩) (wd_x hW (k := 0) rfl) rfl hKK hW hS rfl hl.1 rfl (Nat.le_of_ble_eq_true rfl) dX10_areAlike_46 ⟨Nat.zero_le _, Nat.zero_le _⟩ (fun H locs hW hS hm1 hE => ?_)
          obtain ⟨x29, ex29, hf⟩ := op_st hf
          refine z_ist (lv' := [(4, .int x29), (3, .int x25), (0, .ref (q 0)), (1, .int i_1), (2, .int i_2)]) ex29 hx hb dX10_areAlike_49 hl (by decide) rfl (fun ls hl => ?_)
          refine lv_goto (tgt := 25) hx hb dX10_areAlike_51 (by decide) ?_
          have hf := zr_l hf hr19
          exact ih18 (x25, x29, M28) H locs ls (lv_sub hl [0, 1, 2, 3, 4] rfl) hW hS hm hf
  rw [eq150] at hf
  exact hw17 _ (x10, x14, M13) H locs ls (lv_sub hl [0, 1, 2, 3, 4] rfl) hW hS hm hf

theorem ni_X10_twin_X10 : ∀ w ∈ wsX100, w ∈ wsX10_twin := by decide +kernel
def fX10_twin (M : zMs) (i_1 : Int32) : Option (Int32 × zMs) :=
cl2 (fX10_noGame M i_1) fun r1 M3 =>
if r1 = 0 then
st (-1 : Int32) fun x5 =>
st ((M3 24 0) - (1 : Int32)) fun x6 =>
lp (fun (q7 : (Int32 × Int32 × zMs)) => (if q7.2.1 < 0 then
some (.inr ((q7.1, q7.2.2)))
else
gd (¬ (i_1 < 0 ∨ 40 ≤ i_1.toNatClampNeg)) (
if (q7.2.2 26 i_1.toNatClampNeg) = 0 then
cl2 (fX10_entries q7.2.2 i_1) fun r13 M15 =>
if r13 ≤ 0 then
some (.inr ((q7.1, M15)))
else
st (fun (y16 : Int32) (S17 : zMs) => (st y16 fun x19 =>
st (q7.2.1 + (-1 : Int32)) fun x20 =>
some (.inl (x19, x20, S17)) : Option ((Int32 × Int32 × zMs) ⊕ (Int32 × zMs)))) fun j18 =>
st (fun (S21 : zMs) => (j18 q7.1 S21 : Option ((Int32 × Int32 × zMs) ⊕ (Int32 × zMs)))) fun j22 =>
if q7.2.1 = i_1 then
j22 M15
else
gd (¬ (q7.2.1 < 0 ∨ 40 ≤ q7.2.1.toNatClampNeg)) (
if (M15 26 q7.2.1.toNatClampNeg) = 0 then
cl2 (fX10_areAlike M15 i_1 q7.2.1) fun r23 M25 =>
if r23 = 0 then
j22 M25
else
j18 q7.2.1 M25
else
j22 M15)
else
some (.inr ((q7.1, q7.2.2)))) : Option ((Int32 × Int32 × zMs) ⊕ (Int32 × zMs)))) 40000 (x5, x6, M3)
else
some (((0 : Int32), M3))
abbrev rmX10_twin : Room := { frames := 3, cells := 0, slots := 0, locals := 74 }
set_option maxHeartbeats 4000000 in
set_option maxRecDepth 100000 in
theorem tX10_twin (l : Launch) (Γ : zG) (lo : zId → Nat) (S : zSt) (q : Nat → Nat) (M : zMs) (Y : va_W) {i_1 : Int32}  {y : (Int32 × zMs)} (hf : fX10_twin M i_1 = some y) : Met l yX10_twin wsX10_twin rmX10_twin (zP0 Γ lo S (mcl Γ q M ++ Y) [.ref (q 0), .int i_1]) (zQ0 Γ lo S S (mcl Γ q y.2 ++ Y) (some (.int y.1)) True) 0 0 (zA Γ) := by
  refine Met.ofW (cc := cX10_twin) (maxL := 4) (ret := (some .int)) (by decide) rfl ?_
  intro p e s m args below meth c s₁ B hml hv
  obtain ⟨rfl, hW, hKK⟩ := hv
  have hx := B.exec
  have hb := B.bytes
  have hr := B.returns
  have hts := atoms_spec (ws := wsX10_twin) B.pre
  have hown : s.vm.findClass RX10 = some m.cls := findClass_of_methodNamed B.named
  have hlocks := B.notSynchronized
  have hS : va_S (zA Γ) s.heap s.heap [] := va_S.rf
  have hm : ∀ c, zV S c = zV S c := fun _ => rfl
  have hl := lv_entry ([.ref (q 0), .int i_1]) (n := 4) (Nat.le_of_ble_eq_true rfl)
  rw [lg_entry_eq]
  generalize (lg_sl ([.ref (q 0), .int i_1]) ++ List.replicate (4 - (lg_sl ([.ref (q 0), .int i_1])).length) Slot.unset).toArray = ls at hl ⊢
  have hl : lv_has ls 4 [(0, .ref (q 0)), (1, .int i_1)] := hl
  obtain ⟨H, hH0⟩ : ∃ H, H = s.heap := ⟨_, rfl⟩
  obtain ⟨locs, hlo0⟩ : ∃ L : List Loc, L = [] := ⟨_, rfl⟩
  have hS : va_S (zA Γ) s.heap H locs := by rw [hH0, hlo0]; exact hS
  have hW : Wd Γ lo S (mcl Γ q M ++ Y) H := by rw [hH0]; exact hW
  rw [← hH0, ← hlo0]
  unfold fX10_twin at hf
  refine lv_aload_n hx hb dX10_twin_0 rfl (lv_at hl 0 rfl) ?_
  refine lv_iload_n hx hb dX10_twin_1 rfl (lv_at hl 1 rfl) ?_
  obtain ⟨r1, M3, hc2, hf⟩ := op_cl2 hf
  refine z_callV (As := [.int i_1]) (rest := []) ⟨hx, hb, hml, hown, hts⟩ (tX10_noGame l Γ lo S q M Y  hc2) (cwV 1 hts gX10_twin_X10_noGame rfl rfl rfl (by decide +kernel) ⟨Nat.le_of_ble_eq_true rfl, Nat.le_of_ble_eq_true rfl⟩) (wd_x hW (k := 0) rfl) rfl hKK hW hS rfl hl.1 rfl (Nat.le_of_ble_eq_true rfl) dX10_twin_2 ⟨Nat.zero_le _, Nat.zero_le _⟩ (fun H locs hW hS hm1 hE => ?_)
  have b4 := hE
  refine lv_if_eq (tgt := 10) hx hb dX10_twin_5 (by decide) (fun k5 => ?_) (fun k5 => ?_)
  · have hf := (op_if hf).1 k5
    refine lv_iconst (v := (-1)) hx hb dX10_twin_10 (by decide) ?_
    obtain ⟨x5, ex5, hf⟩ := op_st hf
    refine z_istn (lv' := [(2, .int x5), (0, .ref (q 0)), (1, .int i_1)]) ex5 hx hb dX10_twin_11 rfl hl (by decide) rfl (fun ls hl => ?_)
    refine lv_aload_n hx hb dX10_twin_12 rfl (lv_at hl 1 rfl) ?_
    refine va_get hx hb hts ni_X10_twin_X10 hown hKK.1 (wd_x hW (k := 0) rfl) 0 rfl rfl 24 (by decide) (hts (.fieldLink RX10 165 "TiltRouteModel" "games" "I") (List.mem_of_getElem? (i := 1) rfl)) (fun _ h => h) rfl dX10_twin_13 ?_
    refine lv_iconst (v := (1)) hx hb dX10_twin_16 (by decide) ?_
    refine lv_isub hx hb dX10_twin_17 ?_
    obtain ⟨x6, ex6, hf⟩ := op_st hf
    refine z_istn (lv' := [(3, .int x6), (2, .int x5), (0, .ref (q 0)), (1, .int i_1)]) ex6 hx hb dX10_twin_18 rfl hl (by decide) rfl (fun ls hl => ?_)
    obtain ⟨w9, q70, ew9, eq70, hf⟩ := op_lb hf
    have hw9 : ∀ n12 : Nat, ∀ (q7 : (Int32 × Int32 × zMs)) (H : Heap) (locs : List Loc) (ls : Array Slot), lv_has ls 4 [(3, .int q7.2.1), (2, .int q7.1), (0, .ref (q 0)), (1, .int i_1)] → Wd Γ lo S (mcl Γ q q7.2.2 ++ Y) H → va_S (zA Γ) s.heap H locs → (∀ c, zV S c = zV S c) → lp w9 n12 q7 = some y → W p l e (headSpec wsX10_twin rmX10_twin).room s m ([.ref (q 0), .int i_1] : List Value).toArray below meth c H locs 0 0 (MQ below (zQ0 Γ lo S S (mcl Γ q y.2 ++ Y) (some (.int y.1)) True) ([.ref (q 0), .int i_1] : List Value).toArray s 0 0 (zA Γ)) (F0 m 19 ls []) := by
      intro n12
      induction n12 with
      | zero => intro q7 H locs ls hl hW hS hm hf; cases hf
      | succ n12 ih10 =>
        intro q7 H locs ls hl hW hS hm hf
        obtain ⟨n_, r8, hn_, hf, hr11⟩ := op_lq hf
        cases hn_
        rw [ew9] at hf
        refine lv_iload_n hx hb dX10_twin_19 rfl (lv_at hl 0 rfl) ?_
        refine lv_if_lt (tgt := 75) hx hb dX10_twin_20 (by decide) (fun k20 => ?_) (fun k20 => ?_)
        · have hf := (op_if hf).1 k20
          refine lv_iload_n hx hb dX10_twin_75 rfl (lv_at hl 1 rfl) ?_
          have hf := zr_r hf hr11
          rw [← hf]
          exact z_iret hx hb hr hlocks rfl hW hS hm trivial dX10_twin_76
        · have hf := (op_if hf).2 k20
          refine lv_aload_n hx hb dX10_twin_23 rfl (lv_at hl 2 rfl) ?_
          refine va_get hx hb hts ni_X10_twin_X10 hown hKK.1 (wd_x hW (k := 0) rfl) 0 rfl rfl 26 (by decide) (hts (.fieldLink RX10 77 "TiltRouteModel" "left" "[I") (List.mem_of_getElem? (i := 2) rfl)) (fun _ h => h) rfl dX10_twin_24 ?_
          refine lv_iload_n hx hb dX10_twin_27 rfl (lv_at hl 3 rfl) ?_
          obtain ⟨h28, hf⟩ := op_gd hf
          refine va_iald hx hb hKK.1 (wd_x hW (k := 23) rfl) 0 0 (n := 40) rfl rfl h28 dX10_twin_28 ?_
          refine lv_if_ne (tgt := 75) hx hb dX10_twin_29 (by decide) (fun k29 => ?_) (fun k29 => ?_)
          · have hf := (op_if hf).2 k29
            refine lv_iload_n hx hb dX10_twin_75 rfl (lv_at hl 1 rfl) ?_
            have hf := zr_r hf hr11
            rw [← hf]
            exact z_iret hx hb hr hlocks rfl hW hS hm trivial dX10_twin_76
          · have hf := (op_if hf).1 k29
            refine lv_aload_n hx hb dX10_twin_32 rfl (lv_at hl 2 rfl) ?_
            refine lv_iload_n hx hb dX10_twin_33 rfl (lv_at hl 3 rfl) ?_
            obtain ⟨r13, M15, hc14, hf⟩ := op_cl2 hf
            refine z_callV (As := [.int i_1]) (rest := []) ⟨hx, hb, hml, hown, hts⟩ (tX10_entries l Γ lo S q q7.2.2 Y  hc14) (cwV 1 hts gX10_twin_X10_entries rfl rfl rfl (by decide +kernel) ⟨Nat.le_of_ble_eq_true rfl, Nat.le_of_ble_eq_true rfl⟩) (wd_x hW (k := 0) rfl) rfl hKK hW hS rfl hl.1 rfl (Nat.le_of_ble_eq_true rfl) dX10_twin_34 ⟨Nat.zero_le _, Nat.zero_le _⟩ (fun H locs hW hS hm1 hE => ?_)
            refine lv_if_le (tgt := 75) hx hb dX10_twin_37 (by decide) (fun k37 => ?_) (fun k37 => ?_)
            · have hf := (op_if hf).1 k37
              refine lv_iload_n hx hb dX10_twin_75 rfl (lv_at hl 1 rfl) ?_
              have hf := zr_r hf hr11
              rw [← hf]
              exact z_iret hx hb hr hlocks rfl hW hS hm trivial dX10_twin_76
            · have hf := (op_if hf).2 k37
              refine lv_iload_n hx hb dX10_twin_40 rfl (lv_at hl 0 rfl) ?_
              refine lv_iload_n hx hb dX10_twin_41 rfl (lv_at hl 3 rfl) ?_
              obtain ⟨j18, ej18, hf⟩ := op_st hf
              have hj18 : ∀ (y16 : Int32) (S17 : zMs) (H : Heap) (locs : List Loc) (ls : Array Slot), lv_has ls 4 [(3, .int q7.2.1), (0, .ref (q 0)), (1, .int i_1)] → Wd Γ lo S (mcl Γ q S17 ++ Y) H → va_S (zA Γ) s.heap H locs → (∀ c, zV S c = zV S c) → j18 y16 S17 = some r8 → W p l e (headSpec wsX10_twin rmX10_twin).room s m ([.ref (q 0), .int i_1] : List Value).toArray below meth c H locs 0 0 (MQ below (zQ0 Γ lo S S (mcl Γ q y.2 ++ Y) (some (.int y.1)) True) ([.ref (q 0), .int i_1] : List Value).toArray s 0 0 (zA Γ)) (F0 m 68 ls [.int y16]) := by
                intro y16 S17 H locs ls  hl hW hS hm hf
                rw [ej18] at hf
                obtain ⟨x19, ex19, hf⟩ := op_st hf
                refine z_istn (lv' := [(2, .int x19), (3, .int q7.2.1), (0, .ref (q 0)), (1, .int i_1)]) ex19 hx hb dX10_twin_68 rfl hl (by decide) rfl (fun ls hl => ?_)
                obtain ⟨x20, ex20, hf⟩ := op_st hf
                refine lv_iinc (v := x20) (lv' := [(3, .int x20), (2, .int x19), (0, .ref (q 0)), (1, .int i_1)]) hx hb dX10_twin_69 hl (k := 1) rfl (by rw [ex20]; rfl) (by decide) rfl (fun ls hl => ?_)
                refine lv_goto (tgt := 19) hx hb dX10_twin_72 (by decide) ?_
                have hf := zr_l hf hr11
                exact ih10 (x19, x20, S17) H locs ls (lv_sub hl [0, 1, 2, 3] rfl) hW hS hm hf
              obtain ⟨j22, ej22, hf⟩ := op_st hf
              have hj22 : ∀ (S21 : zMs) (H : Heap) (locs : List Loc) (ls : Array Slot), lv_has ls 4 [(3, .int q7.2.1), (2, .int q7.1), (0, .ref (q 0)), (1, .int i_1)] → Wd Γ lo S (mcl Γ q S21 ++ Y) H → va_S (zA Γ) s.heap H locs → (∀ c, zV S c = zV S c) → j22 S21 = some r8 → W p l e (headSpec wsX10_twin rmX10_twin).room s m ([.ref (q 0), .int i_1] : List Value).toArray below meth c H locs 0 0 (MQ below (zQ0 Γ lo S S (mcl Γ q y.2 ++ Y) (some (.int y.1)) True) ([.ref (q 0), .int i_1] : List Value).toArray s 0 0 (zA Γ)) (F0 m 67 ls []) := by
                intro S21 H locs ls  hl hW hS hm hf
                rw [ej22] at hf
                refine lv_iload_n hx hb dX10_twin_67 rfl (lv_at hl 1 rfl) ?_
                exact hj18 q7.1 S21 H locs ls  (lv_sub hl [0, 2, 3] rfl) hW hS hm hf
              refine lv_icmp_eq (tgt := 67) hx hb dX10_twin_42 (by decide) (fun k42 => ?_) (fun k42 => ?_)
              · have hf := (op_if hf).1 k42
                exact hj22 M15 H locs ls  (lv_sub hl [0, 1, 2, 3] rfl) hW hS hm hf
              · have hf := (op_if hf).2 k42
                refine lv_aload_n hx hb dX10_twin_45 rfl (lv_at hl 2 rfl) ?_
                refine va_get hx hb hts ni_X10_twin_X10 hown hKK.1 (wd_x hW (k := 0) rfl) 0 rfl rfl 26 (by decide) (hts (.fieldLink RX10 77 "TiltRouteModel" "left" "[I") (List.mem_of_getElem? (i := 2) rfl)) (fun _ h => h) rfl dX10_twin_46 ?_
                refine lv_iload_n hx hb dX10_twin_49 rfl (lv_at hl 0 rfl) ?_
                obtain ⟨h50, hf⟩ := op_gd hf
                refine va_iald hx hb hKK.1 (wd_x hW (k := 23) rfl) 0 0 (n := 40) rfl rfl h50 dX10_twin_50 ?_
                refine lv_if_ne (tgt := 67) hx hb dX10_twin_51 (by decide) (fun k51 => ?_) (fun k51 => ?_)
                · have hf := (op_if hf).2 k51
                  exact hj22 M15 H locs ls  (lv_sub hl [0, 1, 2, 3] rfl) hW hS hm hf
                · have hf := (op_if hf).1 k51
                  refine lv_aload_n hx hb dX10_twin_54 rfl (lv_at hl 2 rfl) ?_
                  refine lv_iload_n hx hb dX10_twin_55 rfl (lv_at hl 3 rfl) ?_
                  refine lv_iload_n hx hb dX10_twin_56 rfl (lv_at hl 0 rfl) ?_
                  obtain ⟨r23, M25, hc24, hf⟩ := op_cl2 hf
                  refine z_callV (As := [.int i_1, .int q7.2.1]) (rest := []) ⟨hx, hb, hml, hown, hts⟩ (tX10_areAlike l Γ lo S q M15 Y  hc24) (cwV 2 hts gX10_twin_X10_areAlike rfl rfl rfl (by decide +kernel) ⟨Nat.le_of_ble_eq_true rfl, Nat.le_of_ble_eq_true rfl⟩) (wd_x hW (k := 0) rfl) rfl hKK hW hS rfl hl.1 rfl (Nat.le_of_ble_eq_true rfl) dX10_twin_57 ⟨Nat.zero_le _, Nat.zero_le _⟩ (fun H locs hW hS hm1 hE => ?_)
                  have b26 := hE
                  refine lv_if_eq (tgt := 67) hx hb dX10_twin_60 (by decide) (fun k60 => ?_) (fun k60 => ?_)
                  · have hf := (op_if hf).1 k60
                    exact hj22 M25 H locs ls  (lv_sub hl [0, 1, 2, 3] rfl) hW hS hm hf
                  · have hf := (op_if hf).2 k60
                    refine lv_iload_n hx hb dX10_twin_63 rfl (lv_at hl 0 rfl) ?_
                    refine lv_goto (tgt := 68) hx hb dX10_twin_64 (by decide) ?_
                    exact hj18 q7.2.1 M25 H locs ls  (lv_sub hl [0, 2, 3] rfl) hW hS hm hf
    rw [eq70] at hf
    exact hw9 _ (x5, x6, M3) H locs ls (lv_sub hl [0, 1, 2, 3] rfl) hW hS hm hf
  · have hf := (op_if hf).2 k5
    refine lv_iconst (v := (0)) hx hb dX10_twin_8 (by decide) ?_
    have hf := Option.some.inj hf
    rw [← hf]
    exact z_iret hx hb hr hlocks rfl hW hS hm trivial dX10_twin_9

theorem ni_X10_isAhead_X10 : ∀ w ∈ wsX100, w ∈ wsX10_isAhead := by decide +kernel
def fX10_isAhead (M : zMs) (i_1 : Int32) (i_2 : Int32) : Option Int32 :=
gd (¬ (i_1 < 0 ∨ 40 ≤ i_1.toNatClampNeg)) (
gd (¬ (i_2 < 0 ∨ 40 ≤ i_2.toNatClampNeg)) (
if (M 48 i_1.toNatClampNeg) = (M 48 i_2.toNatClampNeg) then
if i_2 ≤ i_1 then
some ((0 : Int32))
else
some ((1 : Int32))
else
gd (¬ (i_1 < 0 ∨ 40 ≤ i_1.toNatClampNeg)) (
gd (¬ (i_2 < 0 ∨ 40 ≤ i_2.toNatClampNeg)) (
if (M 48 i_1.toNatClampNeg) ≤ (M 48 i_2.toNatClampNeg) then
some ((0 : Int32))
else
some ((1 : Int32))))))
abbrev rmX10_isAhead : Room := { frames := 0, cells := 0, slots := 0, locals := 0 }
set_option maxHeartbeats 4000000 in
set_option maxRecDepth 100000 in
theorem tX10_isAhead (l : Launch) (Γ : zG) (lo : zId → Nat) (S : zSt) (q : Nat → Nat) (M : zMs) (Y : va_W) {i_1 : Int32} {i_2 : Int32}  {y : Int32} (hf : fX10_isAhead M i_1 i_2 = some y) : Met l yX10_isAhead wsX10_isAhead rmX10_isAhead (zP0 Γ lo S (mcl Γ q M ++ Y) [.ref (q 0), .int i_1, .int i_2]) (zQ0 Γ lo S S (mcl Γ q M ++ Y) (some (.int y)) (y = 0 ∨ y = 1)) 0 0 (zA Γ) := by
  refine Met.ofW (cc := cX10_isAhead) (maxL := 3) (ret := (some .boolean)) (by decide) rfl ?_
  intro p e s m args below meth c s₁ B hml hv
  obtain ⟨rfl, hW, hKK⟩ := hv
  have hx := B.exec
  have hb := B.bytes
  have hr := B.returns
  have hts := atoms_spec (ws := wsX10_isAhead) B.pre
  have hown : s.vm.findClass RX10 = some m.cls := findClass_of_methodNamed B.named
  have hlocks := B.notSynchronized
  have hS : va_S (zA Γ) s.heap s.heap [] := va_S.rf
  have hm : ∀ c, zV S c = zV S c := fun _ => rfl
  have hl := lv_entry ([.ref (q 0), .int i_1, .int i_2]) (n := 3) (Nat.le_of_ble_eq_true rfl)
  rw [lg_entry_eq]
  generalize (lg_sl ([.ref (q 0), .int i_1, .int i_2]) ++ List.replicate (3 - (lg_sl ([.ref (q 0), .int i_1, .int i_2])).length) Slot.unset).toArray = ls at hl ⊢
  have hl : lv_has ls 3 [(0, .ref (q 0)), (1, .int i_1), (2, .int i_2)] := hl
  obtain ⟨H, hH0⟩ : ∃ H, H = s.heap := ⟨_, rfl⟩
  obtain ⟨locs, hlo0⟩ : ∃ L : List Loc, L = [] := ⟨_, rfl⟩
  have hS : va_S (zA Γ) s.heap H locs := by rw [hH0, hlo0]; exact hS
  have hW : Wd Γ lo S (mcl Γ q M ++ Y) H := by rw [hH0]; exact hW
  rw [← hH0, ← hlo0]
  unfold fX10_isAhead at hf
  refine lv_aload_n hx hb dX10_isAhead_0 rfl (lv_at hl 0 rfl) ?_
  refine va_get hx hb hts ni_X10_isAhead_X10 hown hKK.1 (wd_x hW (k := 0) rfl) 0 rfl rfl 48 (by decide) (hts (.fieldLink RX10 135 "TiltRouteModel" "valids" "[I") (List.mem_of_getElem? (i := 1) rfl)) (fun _ h => h) rfl dX10_isAhead_1 ?_
  refine lv_iload_n hx hb dX10_isAhead_4 rfl (lv_at hl 1 rfl) ?_
  obtain ⟨h5, hf⟩ := op_gd hf
  refine va_iald hx hb hKK.1 (wd_x hW (k := 42) rfl) 0 0 (n := 40) rfl rfl h5 dX10_isAhead_5 ?_
  refine lv_aload_n hx hb dX10_isAhead_6 rfl (lv_at hl 0 rfl) ?_
  refine va_get hx hb hts ni_X10_isAhead_X10 hown hKK.1 (wd_x hW (k := 0) rfl) 0 rfl rfl 48 (by decide) (hts (.fieldLink RX10 135 "TiltRouteModel" "valids" "[I") (List.mem_of_getElem? (i := 1) rfl)) (fun _ h => h) rfl dX10_isAhead_7 ?_
  refine lv_iload_n hx hb dX10_isAhead_10 rfl (lv_at hl 2 rfl) ?_
  obtain ⟨h11, hf⟩ := op_gd hf
  refine va_iald hx hb hKK.1 (wd_x hW (k := 42) rfl) 0 0 (n := 40) rfl rfl h11 dX10_isAhead_11 ?_
  refine lv_icmp_eq (tgt := 38) hx hb dX10_isAhead_12 (by decide) (fun k12 => ?_) (fun k12 => ?_)
  · have hf := (op_if hf).1 k12
    refine lv_iload_n hx hb dX10_isAhead_38 rfl (lv_at hl 1 rfl) ?_
    refine lv_iload_n hx hb dX10_isAhead_39 rfl (lv_at hl 2 rfl) ?_
    refine lv_icmp_ge (tgt := 47) hx hb dX10_isAhead_40 (by decide) (fun k40 => ?_) (fun k40 => ?_)
    · have hf := (op_if hf).1 k40
      refine lv_iconst (v := (0)) hx hb dX10_isAhead_47 (by decide) ?_
      have hf := Option.some.inj hf
      rw [← hf]
      exact z_iret hx hb hr hlocks (z_bb (Or.inl rfl)) hW hS hm (Or.inl rfl) dX10_isAhead_48
    · have hf := (op_if hf).2 k40
      refine lv_iconst (v := (1)) hx hb dX10_isAhead_43 (by decide) ?_
      refine lv_goto (tgt := 48) hx hb dX10_isAhead_44 (by decide) ?_
      have hf := Option.some.inj hf
      rw [← hf]
      exact z_iret hx hb hr hlocks (z_bb (Or.inr rfl)) hW hS hm (Or.inr rfl) dX10_isAhead_48
  · have hf := (op_if hf).2 k12
    refine lv_aload_n hx hb dX10_isAhead_15 rfl (lv_at hl 0 rfl) ?_
    refine va_get hx hb hts ni_X10_isAhead_X10 hown hKK.1 (wd_x hW (k := 0) rfl) 0 rfl rfl 48 (by decide) (hts (.fieldLink RX10 135 "TiltRouteModel" "valids" "[I") (List.mem_of_getElem? (i := 1) rfl)) (fun _ h => h) rfl dX10_isAhead_16 ?_
    refine lv_iload_n hx hb dX10_isAhead_19 rfl (lv_at hl 1 rfl) ?_
    obtain ⟨h20, hf⟩ := op_gd hf
    refine va_iald hx hb hKK.1 (wd_x hW (k := 42) rfl) 0 0 (n := 40) rfl rfl h20 dX10_isAhead_20 ?_
    refine lv_aload_n hx hb dX10_isAhead_21 rfl (lv_at hl 0 rfl) ?_
    refine va_get hx hb hts ni_X10_isAhead_X10 hown hKK.1 (wd_x hW (k := 0) rfl) 0 rfl rfl 48 (by decide) (hts (.fieldLink RX10 135 "TiltRouteModel" "valids" "[I") (List.mem_of_getElem? (i := 1) rfl)) (fun _ h => h) rfl dX10_isAhead_22 ?_
    refine lv_iload_n hx hb dX10_isAhead_25 rfl (lv_at hl 2 rfl) ?_
    obtain ⟨h26, hf⟩ := op_gd hf
    refine va_iald hx hb hKK.1 (wd_x hW (k := 42) rfl) 0 0 (n := 40) rfl rfl h26 dX10_isAhead_26 ?_
    refine lv_icmp_le (tgt := 34) hx hb dX10_isAhead_27 (by decide) (fun k27 => ?_) (fun k27 => ?_)
    · have hf := (op_if hf).1 k27
      refine lv_iconst (v := (0)) hx hb dX10_isAhead_34 (by decide) ?_
      refine lv_goto (tgt := 48) hx hb dX10_isAhead_35 (by decide) ?_
      have hf := Option.some.inj hf
      rw [← hf]
      exact z_iret hx hb hr hlocks (z_bb (Or.inl rfl)) hW hS hm (Or.inl rfl) dX10_isAhead_48
    · have hf := (op_if hf).2 k27
      refine lv_iconst (v := (1)) hx hb dX10_isAhead_30 (by decide) ?_
      refine lv_goto (tgt := 48) hx hb dX10_isAhead_31 (by decide) ?_
      have hf := Option.some.inj hf
      rw [← hf]
      exact z_iret hx hb hr hlocks (z_bb (Or.inr rfl)) hW hS hm (Or.inr rfl) dX10_isAhead_48

theorem ni_X10_high_X10 : ∀ w ∈ wsX100, w ∈ wsX10_high := by decide +kernel
def fX10_high (M : zMs) (i_1 : Int32) (i_2 : Int32) : Option (Int32 × zMs) :=
cl (fX10_isTable M i_1) fun r1 =>
st (fun (y4 : Int32) => (cl2 (fX10_refused M y4) fun r6 M8 =>
if r6 = 0 then
st (0 : Int32) fun x10 =>
lp (fun (q11 : (Int32 × zMs)) => (if (q11.2 24 0) ≤ q11.1 then
st (-1 : Int32) fun x17 =>
st (0 : Int32) fun x18 =>
lp (fun (q19 : (Int32 × Int32)) => (if (q11.2 24 0) ≤ q19.2 then
some (.inr (.inr ((q19.1, q11.2))))
else
st (0 : Int32) fun x25 =>
st (0 : Int32) fun x26 =>
lp (fun (q27 : (Int32 × Int32)) => (if (q11.2 24 0) ≤ q27.2 then
gd (¬ (q19.2 < 0 ∨ 40 ≤ q19.2.toNatClampNeg)) (
st (fun (y33 : Int32) => (st y33 fun x35 =>
st (q19.2 + (1 : Int32)) fun x36 =>
some (.inr (.inl (x35, x36))) : Option ((Int32 × Int32) ⊕ ((Int32 × Int32) ⊕ ((Int32 × zMs) ⊕ (Int32 × zMs)))))) fun j34 =>
st (fun (u_ : Unit) => (j34 q19.1 : Option ((Int32 × Int32) ⊕ ((Int32 × Int32) ⊕ ((Int32 × zMs) ⊕ (Int32 × zMs)))))) fun j37 =>
if (q11.2 48 q19.2.toNatClampNeg) = (-1 : Int32) then
j37 ()
else
if q27.1 = i_2 then
j34 q19.2
else
j37 ())
else
gd (¬ (q27.2 < 0 ∨ 40 ≤ q27.2.toNatClampNeg)) (
st (fun (y38 : Int32) => (st (q27.1 + y38) fun x41 =>
st (q27.2 + (1 : Int32)) fun x42 =>
some (.inl (x41, x42)) : Option ((Int32 × Int32) ⊕ ((Int32 × Int32) ⊕ ((Int32 × zMs) ⊕ (Int32 × zMs)))))) fun j40 =>
st (fun (u_ : Unit) => (j40 (0 : Int32) : Option ((Int32 × Int32) ⊕ ((Int32 × Int32) ⊕ ((Int32 × zMs) ⊕ (Int32 × zMs)))))) fun j43 =>
if (q11.2 48 q27.2.toNatClampNeg) = (-1 : Int32) then
j43 ()
else
cl (fX10_isAhead q11.2 q27.2 q19.2) fun r44 =>
if r44 = 0 then
j43 ()
else
j40 (1 : Int32)) : Option ((Int32 × Int32) ⊕ ((Int32 × Int32) ⊕ ((Int32 × zMs) ⊕ (Int32 × zMs)))))) 40000 (x25, x26) : Option ((Int32 × Int32) ⊕ ((Int32 × zMs) ⊕ (Int32 × zMs))))) 40000 (x17, x18)
else
gd (¬ (q11.1 < 0 ∨ 40 ≤ q11.1.toNatClampNeg)) (
st (fun (y47 : Int32) (S48 : zMs) => (gd (¬ (q11.1 < 0 ∨ 40 ≤ q11.1.toNatClampNeg)) (
st (pM S48 48 q11.1.toNatClampNeg y47) fun M50 =>
st (q11.1 + (1 : Int32)) fun x51 =>
some (.inl (x51, M50))) : Option ((Int32 × zMs) ⊕ (Int32 × zMs)))) fun j49 =>
st (fun (u_ : Unit) => (j49 (-1 : Int32) q11.2 : Option ((Int32 × zMs) ⊕ (Int32 × zMs)))) fun j52 =>
if (q11.2 25 q11.1.toNatClampNeg) = i_1 then
gd (¬ (q11.1 < 0 ∨ 40 ≤ q11.1.toNatClampNeg)) (
if (q11.2 26 q11.1.toNatClampNeg) = 0 then
cl2 (fX10_replayed q11.2 q11.1 (1 : Int32)) fun r53 M55 =>
j49 r53 M55
else
j52 ())
else
j52 ()) : Option ((Int32 × zMs) ⊕ (Int32 × zMs)))) 40000 (x10, M8)
else
some (((0 : Int32), M8)) : Option (Int32 × zMs))) fun j5 =>
if r1 = 0 then
j5 (1 : Int32)
else
if 0 ≤ i_2 then
j5 (0 : Int32)
else
j5 (2 : Int32)
abbrev rmX10_high : Room := { frames := 3, cells := 0, slots := 0, locals := 74 }
set_option maxHeartbeats 4000000 in
set_option maxRecDepth 100000 in
theorem tX10_high (l : Launch) (Γ : zG) (lo : zId → Nat) (S : zSt) (q : Nat → Nat) (M : zMs) (Y : va_W) {i_1 : Int32} {i_2 : Int32}  {y : (Int32 × zMs)} (hf : fX10_high M i_1 i_2 = some y) : Met l yX10_high wsX10_high rmX10_high (zP0 Γ lo S (mcl Γ q M ++ Y) [.ref (q 0), .int i_1, .int i_2]) (zQ0 Γ lo S S (mcl Γ q y.2 ++ Y) (some (.int y.1)) True) 0 0 (zA Γ) := by
  refine Met.ofW (cc := cX10_high) (maxL := 7) (ret := (some .int)) (by decide) rfl ?_
  intro p e s m args below meth c s₁ B hml hv
  obtain ⟨rfl, hW, hKK⟩ := hv
  have hx := B.exec
  have hb := B.bytes
  have hr := B.returns
  have hts := atoms_spec (ws := wsX10_high) B.pre
  have hown : s.vm.findClass RX10 = some m.cls := findClass_of_methodNamed B.named
  have hlocks := B.notSynchronized
  have hS : va_S (zA Γ) s.heap s.heap [] := va_S.rf
  have hm : ∀ c, zV S c = zV S c := fun _ => rfl
  have hl := lv_entry ([.ref (q 0), .int i_1, .int i_2]) (n := 7) (Nat.le_of_ble_eq_true rfl)
  rw [lg_entry_eq]
  generalize (lg_sl ([.ref (q 0), .int i_1, .int i_2]) ++ List.replicate (7 - (lg_sl ([.ref (q 0), .int i_1, .int i_2])).length) Slot.unset).toArray = ls at hl ⊢
  have hl : lv_has ls 7 [(0, .ref (q 0)), (1, .int i_1), (2, .int i_2)] := hl
  obtain ⟨H, hH0⟩ : ∃ H, H = s.heap := ⟨_, rfl⟩
  obtain ⟨locs, hlo0⟩ : ∃ L : List Loc, L = [] := ⟨_, rfl⟩
  have hS : va_S (zA Γ) s.heap H locs := by rw [hH0, hlo0]; exact hS
  have hW : Wd Γ lo S (mcl Γ q M ++ Y) H := by rw [hH0]; exact hW
  rw [← hH0, ← hlo0]
  unfold fX10_high at hf
  refine lv_aload_n hx hb dX10_high_0 rfl (lv_at hl 0 rfl) ?_
  refine lv_aload_n hx hb dX10_high_1 rfl (lv_at hl 0 rfl) ?_
  refine lv_iload_n hx hb dX10_high_2 rfl (lv_at hl 1 rfl) ?_
  obtain ⟨r1, hc2, hf⟩ := op_cl hf
  refine z_callV (As := [.int i_1]) (rest := [.ref (q 0)]) ⟨hx, hb, hml, hown, hts⟩ (tX10_isTable l Γ lo S q M Y  hc2) (cwV 1 hts gX10_high_X10_isTable rfl rfl rfl (by decide +kernel) ⟨Nat.le_of_ble_eq_true rfl, Nat.le_of_ble_eq_true rfl⟩) (wd_x hW (k := 0) rfl) rfl hKK hW hS rfl hl.1 rfl (Nat.le_of_ble_eq_true rfl) dX10_high_3 ⟨Nat.zero_le _, Nat.zero_le _⟩ (fun H locs hW hS hm1 hE => ?_)
  have b3 := hE
  obtain ⟨j5, ej5, hf⟩ := op_st hf
  have hj5 : ∀ (y4 : Int32) (H : Heap) (locs : List Loc) (ls : Array Slot), lv_has ls 7 [(0, .ref (q 0)), (1, .int i_1), (2, .int i_2)] → Wd Γ lo S (mcl Γ q M ++ Y) H → va_S (zA Γ) s.heap H locs → (∀ c, zV S c = zV S c) → j5 y4 = some y → W p l e (headSpec wsX10_high rmX10_high).room s m ([.ref (q 0), .int i_1, .int i_2] : List Value).toArray below meth c H locs 0 0 (MQ below (zQ0 Γ lo S S (mcl Γ q y.2 ++ Y) (some (.int y.1)) True) ([.ref (q 0), .int i_1, .int i_2] : List Value).toArray s 0 0 (zA Γ)) (F0 m 22 ls [.int y4, .ref (q 0)]) := by
    intro y4 H locs ls  hl hW hS hm hf
    rw [ej5] at hf
    obtain ⟨r6, M8, hc7, hf⟩ := op_cl2 hf
    refine z_callV (As := [.int y4]) (rest := []) ⟨hx, hb, hml, hown, hts⟩ (tX10_refused l Γ lo S q M Y  hc7) (cwV 1 hts gX10_high_X10_refused rfl rfl rfl (by decide +kernel) ⟨Nat.le_of_ble_eq_true rfl, Nat.le_of_ble_eq_true rfl⟩) (wd_x hW (k := 0) rfl) rfl hKK hW hS rfl hl.1 rfl (Nat.le_of_ble_eq_true rfl) dX10_high_22 ⟨Nat.zero_le _, Nat.zero_le _⟩ (fun H locs hW hS hm1 hE => ?_)
    have b9 := hE
    refine lv_if_eq (tgt := 30) hx hb dX10_high_25 (by decide) (fun k25 => ?_) (fun k25 => ?_)
    · have hf := (op_if hf).1 k25
      refine lv_iconst (v := (0)) hx hb dX10_high_30 (by decide) ?_
      obtain ⟨x10, ex10, hf⟩ := op_st hf
      have bx10 : x10 = 0 ∨ x10 = 1 := Or.inl ex10
      refine z_istn (lv' := [(3, .int x10), (0, .ref (q 0)), (1, .int i_1), (2, .int i_2)]) ex10 hx hb dX10_high_31 rfl hl (by decide) rfl (fun ls hl => ?_)
      obtain ⟨w13, q110, ew13, eq110, hf⟩ := op_lb hf
      have hw13 : ∀ n16 : Nat, ∀ (q11 : (Int32 × zMs)) (H : Heap) (locs : List Loc) (ls : Array Slot), lv_has ls 7 [(3, .int q11.1), (0, .ref (q 0)), (1, .int i_1), (2, .int i_2)] → Wd Γ lo S (mcl Γ q q11.2 ++ Y) H → va_S (zA Γ) s.heap H locs → (∀ c, zV S c = zV S c) → lp w13 n16 q11 = some y → W p l e (headSpec wsX10_high rmX10_high).room s m ([.ref (q 0), .int i_1, .int i_2] : List Value).toArray below meth c H locs 0 0 (MQ below (zQ0 Γ lo S S (mcl Γ q y.2 ++ Y) (some (.int y.1)) True) ([.ref (q 0), .int i_1, .int i_2] : List Value).toArray s 0 0 (zA Γ)) (F0 m 32 ls []) := by
        intro n16
        induction n16 with
        | zero => intro q11 H locs ls hl hW hS hm hf; cases hf
        | succ n16 ih14 =>
          intro q11 H locs ls hl hW hS hm hf
          obtain ⟨n_, r12, hn_, hf, hr15⟩ := op_lq hf
          cases hn_
          rw [ew13] at hf
          refine lv_iload_n hx hb dX10_high_32 rfl (lv_at hl 0 rfl) ?_
          refine lv_aload_n hx hb dX10_high_33 rfl (lv_at hl 1 rfl) ?_
          refine va_get hx hb hts ni_X10_high_X10 hown hKK.1 (wd_x hW (k := 0) rfl) 0 rfl rfl 24 (by decide) (hts (.fieldLink RX10 165 "TiltRouteModel" "games" "I") (List.mem_of_getElem? (i := 1) rfl)) (fun _ h => h) rfl dX10_high_34 ?_
          refine lv_icmp_ge (tgt := 81) hx hb dX10_high_37 (by decide) (fun k37 => ?_) (fun k37 => ?_)
          · have hf := (op_if hf).1 k37
            refine lv_iconst (v := (-1)) hx hb dX10_high_81 (by decide) ?_
            obtain ⟨x17, ex17, hf⟩ := op_st hf
            refine z_istn (lv' := [(3, .int x17), (0, .ref (q 0)), (1, .int i_1), (2, .int i_2)]) ex17 hx hb dX10_high_82 rfl hl (by decide) rfl (fun ls hl => ?_)
            refine lv_iconst (v := (0)) hx hb dX10_high_83 (by decide) ?_
            obtain ⟨x18, ex18, hf⟩ := op_st hf
            have bx18 : x18 = 0 ∨ x18 = 1 := Or.inl ex18
            refine z_ist (lv' := [(4, .int x18), (3, .int x17), (0, .ref (q 0)), (1, .int i_1), (2, .int i_2)]) ex18 hx hb dX10_high_84 hl (by decide) rfl (fun ls hl => ?_)
            obtain ⟨w21, q190, ew21, eq190, hf⟩ := op_lb hf
            have hw21 : ∀ n24 : Nat, ∀ (q19 : (Int32 × Int32)) (H : Heap) (locs : List Loc) (ls : Array Slot), lv_has ls 7 [(4, .int q19.2), (3, .int q19.1), (0, .ref (q 0)), (2, .int i_2)] → Wd Γ lo S (mcl Γ q q11.2 ++ Y) H → va_S (zA Γ) s.heap H locs → (∀ c, zV S c = zV S c) → lp w21 n24 q19 = some r12 → W p l e (headSpec wsX10_high rmX10_high).room s m ([.ref (q 0), .int i_1, .int i_2] : List Value).toArray below meth c H locs 0 0 (MQ below (zQ0 Γ lo S S (mcl Γ q y.2 ++ Y) (some (.int y.1)) True) ([.ref (q 0), .int i_1, .int i_2] : List Value).toArray s 0 0 (zA Γ)) (F0 m 86 ls []) := by
              intro n24
              induction n24 with
              | zero => intro q19 H locs ls hl hW hS hm hf; cases hf
              | succ n24 ih22 =>
                intro q19 H locs ls hl hW hS hm hf
                obtain ⟨n_, r20, hn_, hf, hr23⟩ := op_lq hf
                cases hn_
                rw [ew21] at hf
                refine lv_iload hx hb dX10_high_86 (lv_at hl 0 rfl) ?_
                refine lv_aload_n hx hb dX10_high_88 rfl (lv_at hl 2 rfl) ?_
                refine va_get hx hb hts ni_X10_high_X10 hown hKK.1 (wd_x hW (k := 0) rfl) 0 rfl rfl 24 (by decide) (hts (.fieldLink RX10 165 "TiltRouteModel" "games" "I") (List.mem_of_getElem? (i := 1) rfl)) (fun _ h => h) rfl dX10_high_89 ?_
                refine lv_icmp_ge (tgt := 178) hx hb dX10_high_92 (by decide) (fun k92 => ?_) (fun k92 => ?_)
                · have hf := (op_if hf).1 k92
                  refine lv_iload_n hx hb dX10_high_178 rfl (lv_at hl 1 rfl) ?_
                  have hf := zr_r hf hr23
                  have hf := congrArg some hf
                  have hf := zr_r hf hr15
                  rw [← hf]
                  exact z_iret hx hb hr hlocks rfl hW hS hm trivial dX10_high_179
                · have hf := (op_if hf).2 k92
                  refine lv_iconst (v := (0)) hx hb dX10_high_95 (by decide) ?_
                  obtain ⟨x25, ex25, hf⟩ := op_st hf
                  have bx25 : x25 = 0 ∨ x25 = 1 := Or.inl ex25
                  refine z_ist (lv' := [(5, .int x25), (4, .int q19.2), (3, .int q19.1), (0, .ref (q 0)), (2, .int i_2)]) ex25 hx hb dX10_high_96 hl (by decide) rfl (fun ls hl => ?_)
                  refine lv_iconst (v := (0)) hx hb dX10_high_98 (by decide) ?_
                  obtain ⟨x26, ex26, hf⟩ := op_st hf
                  have bx26 : x26 = 0 ∨ x26 = 1 := Or.inl ex26
                  refine z_ist (lv' := [(6, .int x26), (5, .int x25), (4, .int q19.2), (3, .int q19.1), (0, .ref (q 0)), (2, .int i_2)]) ex26 hx hb dX10_high_99 hl (by decide) rfl (fun ls hl => ?_)
                  obtain ⟨w29, q270, ew29, eq270, hf⟩ := op_lb hf
                  have hw29 : ∀ n32 : Nat, ∀ (q27 : (Int32 × Int32)) (H : Heap) (locs : List Loc) (ls : Array Slot), lv_has ls 7 [(6, .int q27.2), (5, .int q27.1), (4, .int q19.2), (3, .int q19.1), (0, .ref (q 0)), (2, .int i_2)] → Wd Γ lo S (mcl Γ q q11.2 ++ Y) H → va_S (zA Γ) s.heap H locs → (∀ c, zV S c = zV S c) → lp w29 n32 q27 = some r20 → W p l e (headSpec wsX10_high rmX10_high).room s m ([.ref (q 0), .int i_1, .int i_2] : List Value).toArray below meth c H locs 0 0 (MQ below (zQ0 Γ lo S S (mcl Γ q y.2 ++ Y) (some (.int y.1)) True) ([.ref (q 0), .int i_1, .int i_2] : List Value).toArray s 0 0 (zA Γ)) (F0 m 101 ls []) := by
                    intro n32
                    induction n32 with
                    | zero => intro q27 H locs ls hl hW hS hm hf; cases hf
                    | succ n32 ih30 =>
                      intro q27 H locs ls hl hW hS hm hf
                      obtain ⟨n_, r28, hn_, hf, hr31⟩ := op_lq hf
                      cases hn_
                      rw [ew29] at hf
                      refine lv_iload hx hb dX10_high_101 (lv_at hl 0 rfl) ?_
                      refine lv_aload_n hx hb dX10_high_103 rfl (lv_at hl 4 rfl) ?_
                      refine va_get hx hb hts ni_X10_high_X10 hown hKK.1 (wd_x hW (k := 0) rfl) 0 rfl rfl 24 (by decide) (hts (.fieldLink RX10 165 "TiltRouteModel" "games" "I") (List.mem_of_getElem? (i := 1) rfl)) (fun _ h => h) rfl dX10_high_104 ?_
                      refine lv_icmp_ge (tgt := 148) hx hb dX10_high_107 (by decide) (fun k107 => ?_) (fun k107 => ?_)
                      · have hf := (op_if hf).1 k107
                        refine lv_aload_n hx hb dX10_high_148 rfl (lv_at hl 4 rfl) ?_
                        refine va_get hx hb hts ni_X10_high_X10 hown hKK.1 (wd_x hW (k := 0) rfl) 0 rfl rfl 48 (by decide) (hts (.fieldLink RX10 135 "TiltRouteModel" "valids" "[I") (List.mem_of_getElem? (i := 2) rfl)) (fun _ h => h) rfl dX10_high_149 ?_
                        refine lv_iload hx hb dX10_high_152 (lv_at hl 2 rfl) ?_
                        obtain ⟨h154, hf⟩ := op_gd hf
                        refine va_iald hx hb hKK.1 (wd_x hW (k := 42) rfl) 0 0 (n := 40) rfl rfl h154 dX10_high_154 ?_
                        refine lv_iconst (v := (-1)) hx hb dX10_high_155 (by decide) ?_
                        obtain ⟨j34, ej34, hf⟩ := op_st hf
                        have hj34 : ∀ (y33 : Int32) (H : Heap) (locs : List Loc) (ls : Array Slot), lv_has ls 7 [(4, .int q19.2), (0, .ref (q 0)), (2, .int i_2)] → Wd Γ lo S (mcl Γ q q11.2 ++ Y) H → va_S (zA Γ) s.heap H locs → (∀ c, zV S c = zV S c) → j34 y33 = some r28 → W p l e (headSpec wsX10_high rmX10_high).room s m ([.ref (q 0), .int i_1, .int i_2] : List Value).toArray below meth c H locs 0 0 (MQ below (zQ0 Γ lo S S (mcl Γ q y.2 ++ Y) (some (.int y.1)) True) ([.ref (q 0), .int i_1, .int i_2] : List Value).toArray s 0 0 (zA Γ)) (F0 m 171 ls [.int y33]) := by
                          intro y33 H locs ls  hl hW hS hm hf
                          rw [ej34] at hf
                          obtain ⟨x35, ex35, hf⟩ := op_st hf
                          refine z_istn (lv' := [(3, .int x35), (4, .int q19.2), (0, .ref (q 0)), (2, .int i_2)]) ex35 hx hb dX10_high_171 rfl hl (by decide) rfl (fun ls hl => ?_)
                          obtain ⟨x36, ex36, hf⟩ := op_st hf
                          refine lv_iinc (v := x36) (lv' := [(4, .int x36), (3, .int x35), (0, .ref (q 0)), (2, .int i_2)]) hx hb dX10_high_172 hl (k := 1) rfl (by rw [ex36]; rfl) (by decide) rfl (fun ls hl => ?_)
                          refine lv_goto (tgt := 86) hx hb dX10_high_175 (by decide) ?_
                          have hf := congrArg some (zr_r hf hr31)
                          have hf := zr_l hf hr23
                          exact ih22 (x35, x36) H locs ls (lv_sub hl [0, 1, 2, 3] rfl) hW hS hm hf
                        obtain ⟨j37, ej37, hf⟩ := op_st hf
                        have hj37 : ∀ (u_ : Unit) (H : Heap) (locs : List Loc) (ls : Array Slot), lv_has ls 7 [(4, .int q19.2), (3, .int q19.1), (0, .ref (q 0)), (2, .int i_2)] → Wd Γ lo S (mcl Γ q q11.2 ++ Y) H → va_S (zA Γ) s.heap H locs → (∀ c, zV S c = zV S c) → j37 () = some r28 → W p l e (headSpec wsX10_high rmX10_high).room s m ([.ref (q 0), .int i_1, .int i_2] : List Value).toArray below meth c H locs 0 0 (MQ below (zQ0 Γ lo S S (mcl Γ q y.2 ++ Y) (some (.int y.1)) True) ([.ref (q 0), .int i_1, .int i_2] : List Value).toArray s 0 0 (zA Γ)) (F0 m 170 ls []) := by
                          intro u_ H locs ls  hl hW hS hm hf
                          rw [ej37] at hf
                          refine lv_iload_n hx hb dX10_high_170 rfl (lv_at hl 1 rfl) ?_
                          exact hj34 q19.1 H locs ls  (lv_sub hl [0, 2, 3] rfl) hW hS hm hf
                        refine lv_icmp_eq (tgt := 170) hx hb dX10_high_156 (by decide) (fun k156 => ?_) (fun k156 => ?_)
                        · have hf := (op_if hf).1 k156
                          exact hj37 () H locs ls  (lv_sub hl [2, 3, 4, 5] rfl) hW hS hm hf
                        · have hf := (op_if hf).2 k156
                          refine lv_iload hx hb dX10_high_159 (lv_at hl 1 rfl) ?_
                          refine lv_iload_n hx hb dX10_high_161 rfl (lv_at hl 5 rfl) ?_
                          refine lv_icmp_ne (tgt := 170) hx hb dX10_high_162 (by decide) (fun k162 => ?_) (fun k162 => ?_)
                          · have hf := (op_if hf).2 k162
                            exact hj37 () H locs ls  (lv_sub hl [2, 3, 4, 5] rfl) hW hS hm hf
                          · have hf := (op_if hf).1 k162
                            refine lv_iload hx hb dX10_high_165 (lv_at hl 2 rfl) ?_
                            refine lv_goto (tgt := 171) hx hb dX10_high_167 (by decide) ?_
                            exact hj34 q19.2 H locs ls  (lv_sub hl [2, 4, 5] rfl) hW hS hm hf
                      · have hf := (op_if hf).2 k107
                        refine lv_iload hx hb dX10_high_110 (lv_at hl 1 rfl) ?_
                        refine lv_aload_n hx hb dX10_high_112 rfl (lv_at hl 4 rfl) ?_
                        refine va_get hx hb hts ni_X10_high_X10 hown hKK.1 (wd_x hW (k := 0) rfl) 0 rfl rfl 48 (by decide) (hts (.fieldLink RX10 135 "TiltRouteModel" "valids" "[I") (List.mem_of_getElem? (i := 2) rfl)) (fun _ h => h) rfl dX10_high_113 ?_
                        refine lv_iload hx hb dX10_high_116 (lv_at hl 0 rfl) ?_
                        obtain ⟨h118, hf⟩ := op_gd hf
                        refine va_iald hx hb hKK.1 (wd_x hW (k := 42) rfl) 0 0 (n := 40) rfl rfl h118 dX10_high_118 ?_
                        refine lv_iconst (v := (-1)) hx hb dX10_high_119 (by decide) ?_
                        obtain ⟨j40, ej40, hf⟩ := op_st hf
                        have hj40 : ∀ (y38 : Int32) (H : Heap) (locs : List Loc) (ls : Array Slot) (b39 : y38 = 0 ∨ y38 = 1), lv_has ls 7 [(6, .int q27.2), (4, .int q19.2), (3, .int q19.1), (0, .ref (q 0)), (2, .int i_2)] → Wd Γ lo S (mcl Γ q q11.2 ++ Y) H → va_S (zA Γ) s.heap H locs → (∀ c, zV S c = zV S c) → j40 y38 = some r28 → W p l e (headSpec wsX10_high rmX10_high).room s m ([.ref (q 0), .int i_1, .int i_2] : List Value).toArray below meth c H locs 0 0 (MQ below (zQ0 Γ lo S S (mcl Γ q y.2 ++ Y) (some (.int y.1)) True) ([.ref (q 0), .int i_1, .int i_2] : List Value).toArray s 0 0 (zA Γ)) (F0 m 139 ls [.int y38, .int q27.1]) := by
                          intro y38 H locs ls b39 hl hW hS hm hf
                          rw [ej40] at hf
                          refine lv_iadd hx hb dX10_high_139 ?_
                          obtain ⟨x41, ex41, hf⟩ := op_st hf
                          refine z_ist (lv' := [(5, .int x41), (6, .int q27.2), (4, .int q19.2), (3, .int q19.1), (0, .ref (q 0)), (2, .int i_2)]) ex41 hx hb dX10_high_140 hl (by decide) rfl (fun ls hl => ?_)
                          obtain ⟨x42, ex42, hf⟩ := op_st hf
                          refine lv_iinc (v := x42) (lv' := [(6, .int x42), (5, .int x41), (4, .int q19.2), (3, .int q19.1), (0, .ref (q 0)), (2, .int i_2)]) hx hb dX10_high_142 hl (k := 1) rfl (by rw [ex42]; rfl) (by decide) rfl (fun ls hl => ?_)
                          refine lv_goto (tgt := 101) hx hb dX10_high_145 (by decide) ?_
                          have hf := zr_l hf hr31
                          exact ih30 (x41, x42) H locs ls (lv_sub hl [0, 1, 2, 3, 4, 5] rfl) hW hS hm hf
                        obtain ⟨j43, ej43, hf⟩ := op_st hf
                        have hj43 : ∀ (u_ : Unit) (H : Heap) (locs : List Loc) (ls : Array Slot), lv_has ls 7 [(6, .int q27.2), (4, .int q19.2), (3, .int q19.1), (0, .ref (q 0)), (2, .int i_2)] → Wd Γ lo S (mcl Γ q q11.2 ++ Y) H → va_S (zA Γ) s.heap H locs → (∀ c, zV S c = zV S c) → j43 () = some r28 → W p l e (headSpec wsX10_high rmX10_high).room s m ([.ref (q 0), .int i_1, .int i_2] : List Value).toArray below meth c H locs 0 0 (MQ below (zQ0 Γ lo S S (mcl Γ q y.2 ++ Y) (some (.int y.1)) True) ([.ref (q 0), .int i_1, .int i_2] : List Value).toArray s 0 0 (zA Γ)) (F0 m 138 ls [.int q27.1]) := by
                          intro u_ H locs ls  hl hW hS hm hf
                          rw [ej43] at hf
                          refine lv_iconst (v := (0)) hx hb dX10_high_138 (by decide) ?_
                          exact hj40 (0 : Int32) H locs ls (Or.inl rfl) (lv_sub hl [0, 1, 2, 3, 4] rfl) hW hS hm hf
                        refine lv_icmp_eq (tgt := 138) hx hb dX10_high_120 (by decide) (fun k120 => ?_) (fun k120 => ?_)
                        · have hf := (op_if hf).1 k120
                          exact hj43 () H locs ls  (lv_sub hl [0, 2, 3, 4, 5] rfl) hW hS hm hf
                        · have hf := (op_if hf).2 k120
                          refine lv_aload_n hx hb dX10_high_123 rfl (lv_at hl 4 rfl) ?_
                          refine lv_iload hx hb dX10_high_124 (lv_at hl 0 rfl) ?_
                          refine lv_iload hx hb dX10_high_126 (lv_at hl 2 rfl) ?_
                          obtain ⟨r44, hc45, hf⟩ := op_cl hf
                          refine z_callV (As := [.int q27.2, .int q19.2]) (rest := [.int q27.1]) ⟨hx, hb, hml, hown, hts⟩ (tX10_isAhead l Γ lo S q q11.2 Y  hc45) (cwV 2 hts gX10_high_X10_isAhead rfl rfl rfl (by decide +kernel) ⟨Nat.le_of_ble_eq_true rfl, Nat.le_of_ble_eq_true rfl⟩) (wd_x hW (k := 0) rfl) rfl hKK hW hS rfl hl.1 rfl (Nat.le_of_ble_eq_true rfl) dX10_high_128 ⟨Nat.zero_le _, Nat.zero_le _⟩ (fun H locs hW hS hm1 hE => ?_)
                          have b46 := hE
                          refine lv_if_eq (tgt := 138) hx hb dX10_high_131 (by decide) (fun k131 => ?_) (fun k131 => ?_)
                          · have hf := (op_if hf).1 k131
                            exact hj43 () H locs ls  (lv_sub hl [0, 2, 3, 4, 5] rfl) hW hS hm hf
                          · have hf := (op_if hf).2 k131
                            refine lv_iconst (v := (1)) hx hb dX10_high_134 (by decide) ?_
                            refine lv_goto (tgt := 139) hx hb dX10_high_135 (by decide) ?_
                            exact hj40 (1 : Int32) H locs ls (Or.inr rfl) (lv_sub hl [0, 2, 3, 4, 5] rfl) hW hS hm hf
                  rw [eq270] at hf
                  exact hw29 _ (x25, x26) H locs ls (lv_sub hl [0, 1, 2, 3, 4, 5] rfl) hW hS hm hf
            rw [eq190] at hf
            exact hw21 _ (x17, x18) H locs ls (lv_sub hl [0, 1, 2, 4] rfl) hW hS hm hf
          · have hf := (op_if hf).2 k37
            refine lv_aload_n hx hb dX10_high_40 rfl (lv_at hl 1 rfl) ?_
            refine va_get hx hb hts ni_X10_high_X10 hown hKK.1 (wd_x hW (k := 0) rfl) 0 rfl rfl 48 (by decide) (hts (.fieldLink RX10 135 "TiltRouteModel" "valids" "[I") (List.mem_of_getElem? (i := 2) rfl)) (fun _ h => h) rfl dX10_high_41 ?_
            refine lv_iload_n hx hb dX10_high_44 rfl (lv_at hl 0 rfl) ?_
            refine lv_aload_n hx hb dX10_high_45 rfl (lv_at hl 1 rfl) ?_
            refine va_get hx hb hts ni_X10_high_X10 hown hKK.1 (wd_x hW (k := 0) rfl) 0 rfl rfl 25 (by decide) (hts (.fieldLink RX10 74 "TiltRouteModel" "tableOf" "[I") (List.mem_of_getElem? (i := 3) rfl)) (fun _ h => h) rfl dX10_high_46 ?_
            refine lv_iload_n hx hb dX10_high_49 rfl (lv_at hl 0 rfl) ?_
            obtain ⟨h50, hf⟩ := op_gd hf
            refine va_iald hx hb hKK.1 (wd_x hW (k := 22) rfl) 0 0 (n := 40) rfl rfl h50 dX10_high_50 ?_
            refine lv_iload_n hx hb dX10_high_51 rfl (lv_at hl 2 rfl) ?_
            obtain ⟨j49, ej49, hf⟩ := op_st hf
            have hj49 : ∀ (y47 : Int32) (S48 : zMs) (H : Heap) (locs : List Loc) (ls : Array Slot), lv_has ls 7 [(3, .int q11.1), (0, .ref (q 0)), (1, .int i_1), (2, .int i_2)] → Wd Γ lo S (mcl Γ q S48 ++ Y) H → va_S (zA Γ) s.heap H locs → (∀ c, zV S c = zV S c) → j49 y47 S48 = some r12 → W p l e (headSpec wsX10_high rmX10_high).room s m ([.ref (q 0), .int i_1, .int i_2] : List Value).toArray below meth c H locs 0 0 (MQ below (zQ0 Γ lo S S (mcl Γ q y.2 ++ Y) (some (.int y.1)) True) ([.ref (q 0), .int i_1, .int i_2] : List Value).toArray s 0 0 (zA Γ)) (F0 m 74 ls [.int y47, .int q11.1, .ref (q 49)]) := by
              intro y47 S48 H locs ls  hl hW hS hm hf
              rw [ej49] at hf
              obtain ⟨h74, hf⟩ := op_gd hf
              obtain ⟨M50, eM50, hf⟩ := op_st hf
              refine m_iast hx hb hKK.1 hW hS 48 42 40 rfl h74 eM50 (ms_48 Γ q _ Y _ _) dX10_high_74 (fun H locs hW hS => ?_)
              obtain ⟨x51, ex51, hf⟩ := op_st hf
              refine lv_iinc (v := x51) (lv' := [(3, .int x51), (0, .ref (q 0)), (1, .int i_1), (2, .int i_2)]) hx hb dX10_high_75 hl (k := 0) rfl (by rw [ex51]; rfl) (by decide) rfl (fun ls hl => ?_)
              refine lv_goto (tgt := 32) hx hb dX10_high_78 (by decide) ?_
              have hf := zr_l hf hr15
              exact ih14 (x51, M50) H locs ls (lv_sub hl [0, 1, 2, 3] rfl) hW hS hm hf
            obtain ⟨j52, ej52, hf⟩ := op_st hf
            have hj52 : ∀ (u_ : Unit) (H : Heap) (locs : List Loc) (ls : Array Slot), lv_has ls 7 [(3, .int q11.1), (0, .ref (q 0)), (1, .int i_1), (2, .int i_2)] → Wd Γ lo S (mcl Γ q q11.2 ++ Y) H → va_S (zA Γ) s.heap H locs → (∀ c, zV S c = zV S c) → j52 () = some r12 → W p l e (headSpec wsX10_high rmX10_high).room s m ([.ref (q 0), .int i_1, .int i_2] : List Value).toArray below meth c H locs 0 0 (MQ below (zQ0 Γ lo S S (mcl Γ q y.2 ++ Y) (some (.int y.1)) True) ([.ref (q 0), .int i_1, .int i_2] : List Value).toArray s 0 0 (zA Γ)) (F0 m 73 ls [.int q11.1, .ref (q 49)]) := by
              intro u_ H locs ls  hl hW hS hm hf
              rw [ej52] at hf
              refine lv_iconst (v := (-1)) hx hb dX10_high_73 (by decide) ?_
              exact hj49 (-1 : Int32) q11.2 H locs ls  (lv_sub hl [0, 1, 2, 3] rfl) hW hS hm hf
            refine lv_icmp_ne (tgt := 73) hx hb dX10_high_52 (by decide) (fun k52 => ?_) (fun k52 => ?_)
            · have hf := (op_if hf).2 k52
              exact hj52 () H locs ls  (lv_sub hl [0, 1, 2, 3] rfl) hW hS hm hf
            · have hf := (op_if hf).1 k52
              refine lv_aload_n hx hb dX10_high_55 rfl (lv_at hl 1 rfl) ?_
              refine va_get hx hb hts ni_X10_high_X10 hown hKK.1 (wd_x hW (k := 0) rfl) 0 rfl rfl 26 (by decide) (hts (.fieldLink RX10 77 "TiltRouteModel" "left" "[I") (List.mem_of_getElem? (i := 4) rfl)) (fun _ h => h) rfl dX10_high_56 ?_
              refine lv_iload_n hx hb dX10_high_59 rfl (lv_at hl 0 rfl) ?_
              obtain ⟨h60, hf⟩ := op_gd hf
              refine va_iald hx hb hKK.1 (wd_x hW (k := 23) rfl) 0 0 (n := 40) rfl rfl h60 dX10_high_60 ?_
              refine lv_if_ne (tgt := 73) hx hb dX10_high_61 (by decide) (fun k61 => ?_) (fun k61 => ?_)
              · have hf := (op_if hf).2 k61
                exact hj52 () H locs ls  (lv_sub hl [0, 1, 2, 3] rfl) hW hS hm hf
              · have hf := (op_if hf).1 k61
                refine lv_aload_n hx hb dX10_high_64 rfl (lv_at hl 1 rfl) ?_
                refine lv_iload_n hx hb dX10_high_65 rfl (lv_at hl 0 rfl) ?_
                refine lv_iconst (v := (1)) hx hb dX10_high_66 (by decide) ?_
                obtain ⟨r53, M55, hc54, hf⟩ := op_cl2 hf
                refine z_callV (As := [.int q11.1, .int (1 : Int32)]) (rest := [.int q11.1, .ref (q 49)]) ⟨hx, hb, hml, hown, hts⟩ (tX10_replayed l Γ lo S q q11.2 Y (Or.inr rfl) hc54) (cwV 2 hts gX10_high_X10_replayed rfl rfl rfl (by decide +kernel) ⟨Nat.le_of_ble_eq_true rfl, Nat.le_of_ble_eq_true rfl⟩) (wd_x hW (k := 0) rfl) rfl hKK hW hS rfl hl.1 rfl (Nat.le_of_ble_eq_true rfl) dX10_high_67 ⟨Nat.zero_le _, Nat.zero_le _⟩ (fun H locs hW hS hm1 hE => ?_)
                refine lv_goto (tgt := 74) hx hb dX10_high_70 (by decide) ?_
                exact hj49 r53 M55 H locs ls  (lv_sub hl [0, 1, 2, 3] rfl) hW hS hm hf
      rw [eq110] at hf
      exact hw13 _ (x10, M8) H locs ls (lv_sub hl [0, 1, 2, 3] rfl) hW hS hm hf
    · have hf := (op_if hf).2 k25
      refine lv_iconst (v := (0)) hx hb dX10_high_28 (by decide) ?_
      have hf := Option.some.inj hf
      rw [← hf]
      exact z_iret hx hb hr hlocks rfl hW hS hm trivial dX10_high_29
  refine lv_if_ne (tgt := 13) hx hb dX10_high_6 (by decide) (fun k6 => ?_) (fun k6 => ?_)
  · have hf := (op_if hf).2 k6
    refine lv_iload_n hx hb dX10_high_13 rfl (lv_at hl 2 rfl) ?_
    refine lv_if_ge (tgt := 21) hx hb dX10_high_14 (by decide) (fun k14 => ?_) (fun k14 => ?_)
    · have hf := (op_if hf).1 k14
      refine lv_iconst (v := (0)) hx hb dX10_high_21 (by decide) ?_
      exact hj5 (0 : Int32) H locs ls  (lv_sub hl [0, 1, 2] rfl) hW hS hm hf
    · have hf := (op_if hf).2 k14
      refine lv_iconst (v := (2)) hx hb dX10_high_17 (by decide) ?_
      refine lv_goto (tgt := 22) hx hb dX10_high_18 (by decide) ?_
      exact hj5 (2 : Int32) H locs ls  (lv_sub hl [0, 1, 2] rfl) hW hS hm hf
  · have hf := (op_if hf).1 k6
    refine lv_iconst (v := (1)) hx hb dX10_high_9 (by decide) ?_
    refine lv_goto (tgt := 22) hx hb dX10_high_10 (by decide) ?_
    exact hj5 (1 : Int32) H locs ls  (lv_sub hl [0, 1, 2] rfl) hW hS hm hf

theorem ni_X10_rob_X10 : ∀ w ∈ wsX100, w ∈ wsX10_rob := by decide +kernel
def fX10_rob (M : zMs) (i_1 : Int32) (i_2 : Int32) : Option (Int32 × zMs) :=
cl (fX10_in M i_2 (1 : Int32) (100 : Int32)) fun r1 =>
st r1 fun x4 =>
cl (fX10_isTable M i_1) fun r5 =>
st (fun (y8 : Int32) => (st y8 fun x11 =>
cl (fX10_isTable M i_1) fun r12 =>
st (fun (y15 : Int32) => (cl2 (fX10_refused M y15) fun r17 M19 =>
if r17 = 0 then
gd (¬ (i_1 < 0 ∨ 6 ≤ i_1.toNatClampNeg)) (
gd (¬ (i_1 < 0 ∨ 6 ≤ i_1.toNatClampNeg)) (
st (pM M19 4 i_1.toNatClampNeg ((M19 4 i_1.toNatClampNeg) - i_2)) fun M21 =>
gd (¬ (i_1 < 0 ∨ 6 ≤ i_1.toNatClampNeg)) (
some (((M21 4 i_1.toNatClampNeg), M21)))))
else
some (((0 : Int32), M19)) : Option (Int32 × zMs))) fun j16 =>
if r12 = 0 then
j16 (1 : Int32)
else
if x4 = 0 then
j16 (2 : Int32)
else
if x11 = 0 then
j16 (3 : Int32)
else
j16 (0 : Int32) : Option (Int32 × zMs))) fun j10 =>
st (fun (u_ : Unit) => (j10 (0 : Int32) : Option (Int32 × zMs))) fun j22 =>
if r5 = 0 then
j22 ()
else
if x4 = 0 then
j22 ()
else
gd (¬ (i_1 < 0 ∨ 6 ≤ i_1.toNatClampNeg)) (
if (M 4 i_1.toNatClampNeg) < i_2 then
j22 ()
else
j10 (1 : Int32))
abbrev rmX10_rob : Room := { frames := 2, cells := 0, slots := 0, locals := 43 }
set_option maxHeartbeats 4000000 in
set_option maxRecDepth 100000 in
theorem tX10_rob (l : Launch) (Γ : zG) (lo : zId → Nat) (S : zSt) (q : Nat → Nat) (M : zMs) (Y : va_W) {i_1 : Int32} {i_2 : Int32}  {y : (Int32 × zMs)} (hf : fX10_rob M i_1 i_2 = some y) : Met l yX10_rob wsX10_rob rmX10_rob (zP0 Γ lo S (mcl Γ q M ++ Y) [.ref (q 0), .int i_1, .int i_2]) (zQ0 Γ lo S S (mcl Γ q y.2 ++ Y) (some (.int y.1)) True) 0 0 (zA Γ) := by
  refine Met.ofW (cc := cX10_rob) (maxL := 5) (ret := (some .int)) (by decide) rfl ?_
  intro p e s m args below meth c s₁ B hml hv
  obtain ⟨rfl, hW, hKK⟩ := hv
  have hx := B.exec
  have hb := B.bytes
  have hr := B.returns
  have hts := atoms_spec (ws := wsX10_rob) B.pre
  have hown : s.vm.findClass RX10 = some m.cls := findClass_of_methodNamed B.named
  have hlocks := B.notSynchronized
  have hS : va_S (zA Γ) s.heap s.heap [] := va_S.rf
  have hm : ∀ c, zV S c = zV S c := fun _ => rfl
  have hl := lv_entry ([.ref (q 0), .int i_1, .int i_2]) (n := 5) (Nat.le_of_ble_eq_true rfl)
  rw [lg_entry_eq]
  generalize (lg_sl ([.ref (q 0), .int i_1, .int i_2]) ++ List.replicate (5 - (lg_sl ([.ref (q 0), .int i_1, .int i_2])).length) Slot.unset).toArray = ls at hl ⊢
  have hl : lv_has ls 5 [(0, .ref (q 0)), (1, .int i_1), (2, .int i_2)] := hl
  obtain ⟨H, hH0⟩ : ∃ H, H = s.heap := ⟨_, rfl⟩
  obtain ⟨locs, hlo0⟩ : ∃ L : List Loc, L = [] := ⟨_, rfl⟩
  have hS : va_S (zA Γ) s.heap H locs := by rw [hH0, hlo0]; exact hS
  have hW : Wd Γ lo S (mcl Γ q M ++ Y) H := by rw [hH0]; exact hW
  rw [← hH0, ← hlo0]
  unfold fX10_rob at hf
  refine lv_iload_n hx hb dX10_rob_0 rfl (lv_at hl 2 rfl) ?_
  refine lv_iconst (v := (1)) hx hb dX10_rob_1 (by decide) ?_
  refine lv_bipush (v := (100)) hx hb dX10_rob_2 (by decide) ?_
  obtain ⟨r1, hc2, hf⟩ := op_cl hf
  refine z_callS (As := [.int i_2, .int (1 : Int32), .int (100 : Int32)]) (rest := []) ⟨hx, hb, hml, hown, hts⟩ (tX10_in l Γ lo S q M Y  hc2) (va_cwS 3 hts gX10_rob_X10_in rfl rfl rfl (by decide +kernel) ⟨Nat.le_of_ble_eq_true rfl, Nat.le_of_ble_eq_true rfl⟩) hKK hW hS rfl hl.1 rfl (Nat.le_of_ble_eq_true rfl) dX10_rob_4 ⟨Nat.zero_le _, Nat.zero_le _⟩ (fun H locs hW hS hm1 hE => ?_)
  have b3 := hE
  obtain ⟨x4, ex4, hf⟩ := op_st hf
  have bx4 : x4 = 0 ∨ x4 = 1 := by rw [ex4]; exact b3
  refine z_istn (lv' := [(3, .int x4), (0, .ref (q 0)), (1, .int i_1), (2, .int i_2)]) ex4 hx hb dX10_rob_7 rfl hl (by decide) rfl (fun ls hl => ?_)
  refine lv_aload_n hx hb dX10_rob_8 rfl (lv_at hl 1 rfl) ?_
  refine lv_iload_n hx hb dX10_rob_9 rfl (lv_at hl 2 rfl) ?_
  obtain ⟨r5, hc6, hf⟩ := op_cl hf
  refine z_callV (As := [.int i_1]) (rest := []) ⟨hx, hb, hml, hown, hts⟩ (tX10_isTable l Γ lo S q M Y  hc6) (cwV 1 hts gX10_rob_X10_isTable rfl rfl rfl (by decide +kernel) ⟨Nat.le_of_ble_eq_true rfl, Nat.le_of_ble_eq_true rfl⟩) (wd_x hW (k := 0) rfl) rfl hKK hW hS rfl hl.1 rfl (Nat.le_of_ble_eq_true rfl) dX10_rob_10 ⟨Nat.zero_le _, Nat.zero_le _⟩ (fun H locs hW hS hm1 hE => ?_)
  have b7 := hE
  obtain ⟨j10, ej10, hf⟩ := op_st hf
  have hj10 : ∀ (y8 : Int32) (H : Heap) (locs : List Loc) (ls : Array Slot) (b9 : y8 = 0 ∨ y8 = 1), lv_has ls 5 [(3, .int x4), (0, .ref (q 0)), (1, .int i_1), (2, .int i_2)] → Wd Γ lo S (mcl Γ q M ++ Y) H → va_S (zA Γ) s.heap H locs → (∀ c, zV S c = zV S c) → j10 y8 = some y → W p l e (headSpec wsX10_rob rmX10_rob).room s m ([.ref (q 0), .int i_1, .int i_2] : List Value).toArray below meth c H locs 0 0 (MQ below (zQ0 Γ lo S S (mcl Γ q y.2 ++ Y) (some (.int y.1)) True) ([.ref (q 0), .int i_1, .int i_2] : List Value).toArray s 0 0 (zA Γ)) (F0 m 35 ls [.int y8]) := by
    intro y8 H locs ls b9 hl hW hS hm hf
    rw [ej10] at hf
    obtain ⟨x11, ex11, hf⟩ := op_st hf
    have bx11 : x11 = 0 ∨ x11 = 1 := by rw [ex11]; exact b9
    refine z_ist (lv' := [(4, .int x11), (3, .int x4), (0, .ref (q 0)), (1, .int i_1), (2, .int i_2)]) ex11 hx hb dX10_rob_35 hl (by decide) rfl (fun ls hl => ?_)
    refine lv_aload_n hx hb dX10_rob_37 rfl (lv_at hl 2 rfl) ?_
    refine lv_aload_n hx hb dX10_rob_38 rfl (lv_at hl 2 rfl) ?_
    refine lv_iload_n hx hb dX10_rob_39 rfl (lv_at hl 3 rfl) ?_
    obtain ⟨r12, hc13, hf⟩ := op_cl hf
    refine z_callV (As := [.int i_1]) (rest := [.ref (q 0)]) ⟨hx, hb, hml, hown, hts⟩ (tX10_isTable l Γ lo S q M Y  hc13) (cwV 1 hts gX10_rob_X10_isTable rfl rfl rfl (by decide +kernel) ⟨Nat.le_of_ble_eq_true rfl, Nat.le_of_ble_eq_true rfl⟩) (wd_x hW (k := 0) rfl) rfl hKK hW hS rfl hl.1 rfl (Nat.le_of_ble_eq_true rfl) dX10_rob_40 ⟨Nat.zero_le _, Nat.zero_le _⟩ (fun H locs hW hS hm1 hE => ?_)
    have b14 := hE
    obtain ⟨j16, ej16, hf⟩ := op_st hf
    have hj16 : ∀ (y15 : Int32) (H : Heap) (locs : List Loc) (ls : Array Slot), lv_has ls 5 [(0, .ref (q 0)), (1, .int i_1), (2, .int i_2)] → Wd Γ lo S (mcl Γ q M ++ Y) H → va_S (zA Γ) s.heap H locs → (∀ c, zV S c = zV S c) → j16 y15 = some y → W p l e (headSpec wsX10_rob rmX10_rob).room s m ([.ref (q 0), .int i_1, .int i_2] : List Value).toArray below meth c H locs 0 0 (MQ below (zQ0 Γ lo S S (mcl Γ q y.2 ++ Y) (some (.int y.1)) True) ([.ref (q 0), .int i_1, .int i_2] : List Value).toArray s 0 0 (zA Γ)) (F0 m 68 ls [.int y15, .ref (q 0)]) := by
      intro y15 H locs ls  hl hW hS hm hf
      rw [ej16] at hf
      obtain ⟨r17, M19, hc18, hf⟩ := op_cl2 hf
      refine z_callV (As := [.int y15]) (rest := []) ⟨hx, hb, hml, hown, hts⟩ (tX10_refused l Γ lo S q M Y  hc18) (cwV 1 hts gX10_rob_X10_refused rfl rfl rfl (by decide +kernel) ⟨Nat.le_of_ble_eq_true rfl, Nat.le_of_ble_eq_true rfl⟩) (wd_x hW (k := 0) rfl) rfl hKK hW hS rfl hl.1 rfl (Nat.le_of_ble_eq_true rfl) dX10_rob_68 ⟨Nat.zero_le _, Nat.zero_le _⟩ (fun H locs hW hS hm1 hE => ?_)
      have b20 := hE
      refine lv_if_eq (tgt := 76) hx hb dX10_rob_71 (by decide) (fun k71 => ?_) (fun k71 => ?_)
      · have hf := (op_if hf).1 k71
        refine lv_aload_n hx hb dX10_rob_76 rfl (lv_at hl 0 rfl) ?_
        refine va_get hx hb hts ni_X10_rob_X10 hown hKK.1 (wd_x hW (k := 0) rfl) 0 rfl rfl 4 (by decide) (hts (.fieldLink RX10 16 "TiltRouteModel" "boxes" "[I") (List.mem_of_getElem? (i := 1) rfl)) (fun _ h => h) rfl dX10_rob_77 ?_
        refine lv_iload_n hx hb dX10_rob_80 rfl (lv_at hl 1 rfl) ?_
        refine lv_dup2_11 hx hb dX10_rob_81 rfl rfl ?_
        obtain ⟨h82, hf⟩ := op_gd hf
        refine va_iald hx hb hKK.1 (wd_x hW (k := 3) rfl) 0 0 (n := 6) rfl rfl h82 dX10_rob_82 ?_
        refine lv_iload_n hx hb dX10_rob_83 rfl (lv_at hl 2 rfl) ?_
        refine lv_isub hx hb dX10_rob_84 ?_
        obtain ⟨h85, hf⟩ := op_gd hf
        obtain ⟨M21, eM21, hf⟩ := op_st hf
        refine m_iast hx hb hKK.1 hW hS 4 3 6 rfl h85 eM21 (ms_4 Γ q _ Y _ _) dX10_rob_85 (fun H locs hW hS => ?_)
        refine lv_aload_n hx hb dX10_rob_86 rfl (lv_at hl 0 rfl) ?_
        refine va_get hx hb hts ni_X10_rob_X10 hown hKK.1 (wd_x hW (k := 0) rfl) 0 rfl rfl 4 (by decide) (hts (.fieldLink RX10 16 "TiltRouteModel" "boxes" "[I") (List.mem_of_getElem? (i := 1) rfl)) (fun _ h => h) rfl dX10_rob_87 ?_
        refine lv_iload_n hx hb dX10_rob_90 rfl (lv_at hl 1 rfl) ?_
        obtain ⟨h91, hf⟩ := op_gd hf
        refine va_iald hx hb hKK.1 (wd_x hW (k := 3) rfl) 0 0 (n := 6) rfl rfl h91 dX10_rob_91 ?_
        have hf := Option.some.inj hf
        rw [← hf]
        exact z_iret hx hb hr hlocks rfl hW hS hm trivial dX10_rob_92
      · have hf := (op_if hf).2 k71
        refine lv_iconst (v := (0)) hx hb dX10_rob_74 (by decide) ?_
        have hf := Option.some.inj hf
        rw [← hf]
        exact z_iret hx hb hr hlocks rfl hW hS hm trivial dX10_rob_75
    refine lv_if_ne (tgt := 50) hx hb dX10_rob_43 (by decide) (fun k43 => ?_) (fun k43 => ?_)
    · have hf := (op_if hf).2 k43
      refine lv_iload_n hx hb dX10_rob_50 rfl (lv_at hl 1 rfl) ?_
      refine lv_if_ne (tgt := 58) hx hb dX10_rob_51 (by decide) (fun k51 => ?_) (fun k51 => ?_)
      · have hf := (op_if hf).2 k51
        refine lv_iload hx hb dX10_rob_58 (lv_at hl 0 rfl) ?_
        refine lv_if_eq (tgt := 67) hx hb dX10_rob_60 (by decide) (fun k60 => ?_) (fun k60 => ?_)
        · have hf := (op_if hf).1 k60
          refine lv_iconst (v := (3)) hx hb dX10_rob_67 (by decide) ?_
          exact hj16 (3 : Int32) H locs ls  (lv_sub hl [2, 3, 4] rfl) hW hS hm hf
        · have hf := (op_if hf).2 k60
          refine lv_iconst (v := (0)) hx hb dX10_rob_63 (by decide) ?_
          refine lv_goto (tgt := 68) hx hb dX10_rob_64 (by decide) ?_
          exact hj16 (0 : Int32) H locs ls  (lv_sub hl [2, 3, 4] rfl) hW hS hm hf
      · have hf := (op_if hf).1 k51
        refine lv_iconst (v := (2)) hx hb dX10_rob_54 (by decide) ?_
        refine lv_goto (tgt := 68) hx hb dX10_rob_55 (by decide) ?_
        exact hj16 (2 : Int32) H locs ls  (lv_sub hl [2, 3, 4] rfl) hW hS hm hf
    · have hf := (op_if hf).1 k43
      refine lv_iconst (v := (1)) hx hb dX10_rob_46 (by decide) ?_
      refine lv_goto (tgt := 68) hx hb dX10_rob_47 (by decide) ?_
      exact hj16 (1 : Int32) H locs ls  (lv_sub hl [2, 3, 4] rfl) hW hS hm hf
  obtain ⟨j22, ej22, hf⟩ := op_st hf
  have hj22 : ∀ (u_ : Unit) (H : Heap) (locs : List Loc) (ls : Array Slot), lv_has ls 5 [(3, .int x4), (0, .ref (q 0)), (1, .int i_1), (2, .int i_2)] → Wd Γ lo S (mcl Γ q M ++ Y) H → va_S (zA Γ) s.heap H locs → (∀ c, zV S c = zV S c) → j22 () = some y → W p l e (headSpec wsX10_rob rmX10_rob).room s m ([.ref (q 0), .int i_1, .int i_2] : List Value).toArray below meth c H locs 0 0 (MQ below (zQ0 Γ lo S S (mcl Γ q y.2 ++ Y) (some (.int y.1)) True) ([.ref (q 0), .int i_1, .int i_2] : List Value).toArray s 0 0 (zA Γ)) (F0 m 34 ls []) := by
    intro u_ H locs ls  hl hW hS hm hf
    rw [ej22] at hf
    refine lv_iconst (v := (0)) hx hb dX10_rob_34 (by decide) ?_
    exact hj10 (0 : Int32) H locs ls (Or.inl rfl) (lv_sub hl [0, 1, 2, 3] rfl) hW hS hm hf
  refine lv_if_eq (tgt := 34) hx hb dX10_rob_13 (by decide) (fun k13 => ?_) (fun k13 => ?_)
  · have hf := (op_if hf).1 k13
    exact hj22 () H locs ls  (lv_sub hl [0, 1, 2, 3] rfl) hW hS hm hf
  · have hf := (op_if hf).2 k13
    refine lv_iload_n hx hb dX10_rob_16 rfl (lv_at hl 0 rfl) ?_
    refine lv_if_eq (tgt := 34) hx hb dX10_rob_17 (by decide) (fun k17 => ?_) (fun k17 => ?_)
    · have hf := (op_if hf).1 k17
      exact hj22 () H locs ls  (lv_sub hl [0, 1, 2, 3] rfl) hW hS hm hf
    · have hf := (op_if hf).2 k17
      refine lv_aload_n hx hb dX10_rob_20 rfl (lv_at hl 1 rfl) ?_
      refine va_get hx hb hts ni_X10_rob_X10 hown hKK.1 (wd_x hW (k := 0) rfl) 0 rfl rfl 4 (by decide) (hts (.fieldLink RX10 16 "TiltRouteModel" "boxes" "[I") (List.mem_of_getElem? (i := 1) rfl)) (fun _ h => h) rfl dX10_rob_21 ?_
      refine lv_iload_n hx hb dX10_rob_24 rfl (lv_at hl 2 rfl) ?_
      obtain ⟨h25, hf⟩ := op_gd hf
      refine va_iald hx hb hKK.1 (wd_x hW (k := 3) rfl) 0 0 (n := 6) rfl rfl h25 dX10_rob_25 ?_
      refine lv_iload_n hx hb dX10_rob_26 rfl (lv_at hl 3 rfl) ?_
      refine lv_icmp_lt (tgt := 34) hx hb dX10_rob_27 (by decide) (fun k27 => ?_) (fun k27 => ?_)
      · have hf := (op_if hf).1 k27
        exact hj22 () H locs ls  (lv_sub hl [0, 1, 2, 3] rfl) hW hS hm hf
      · have hf := (op_if hf).2 k27
        refine lv_iconst (v := (1)) hx hb dX10_rob_30 (by decide) ?_
        refine lv_goto (tgt := 35) hx hb dX10_rob_31 (by decide) ?_
        exact hj10 (1 : Int32) H locs ls (Or.inr rfl) (lv_sub hl [0, 1, 2, 3] rfl) hW hS hm hf

theorem ni_X10_box_X10 : ∀ w ∈ wsX100, w ∈ wsX10_box := by decide +kernel
def fX10_box (M : zMs) (i_1 : Int32) : Option (Int32 × zMs) :=
cl2 (fX10_noTable M i_1) fun r1 M3 =>
if r1 = 0 then
gd (¬ (i_1 < 0 ∨ 6 ≤ i_1.toNatClampNeg)) (
some (((M3 4 i_1.toNatClampNeg), M3)))
else
some (((0 : Int32), M3))
abbrev rmX10_box : Room := { frames := 3, cells := 0, slots := 0, locals := 64 }
set_option maxHeartbeats 4000000 in
set_option maxRecDepth 100000 in
theorem tX10_box (l : Launch) (Γ : zG) (lo : zId → Nat) (S : zSt) (q : Nat → Nat) (M : zMs) (Y : va_W) {i_1 : Int32}  {y : (Int32 × zMs)} (hf : fX10_box M i_1 = some y) : Met l yX10_box wsX10_box rmX10_box (zP0 Γ lo S (mcl Γ q M ++ Y) [.ref (q 0), .int i_1]) (zQ0 Γ lo S S (mcl Γ q y.2 ++ Y) (some (.int y.1)) True) 0 0 (zA Γ) := by
  refine Met.ofW (cc := cX10_box) (maxL := 2) (ret := (some .int)) (by decide) rfl ?_
  intro p e s m args below meth c s₁ B hml hv
  obtain ⟨rfl, hW, hKK⟩ := hv
  have hx := B.exec
  have hb := B.bytes
  have hr := B.returns
  have hts := atoms_spec (ws := wsX10_box) B.pre
  have hown : s.vm.findClass RX10 = some m.cls := findClass_of_methodNamed B.named
  have hlocks := B.notSynchronized
  have hS : va_S (zA Γ) s.heap s.heap [] := va_S.rf
  have hm : ∀ c, zV S c = zV S c := fun _ => rfl
  have hl := lv_entry ([.ref (q 0), .int i_1]) (n := 2) (Nat.le_of_ble_eq_true rfl)
  rw [lg_entry_eq]
  generalize (lg_sl ([.ref (q 0), .int i_1]) ++ List.replicate (2 - (lg_sl ([.ref (q 0), .int i_1])).length) Slot.unset).toArray = ls at hl ⊢
  have hl : lv_has ls 2 [(0, .ref (q 0)), (1, .int i_1)] := hl
  obtain ⟨H, hH0⟩ : ∃ H, H = s.heap := ⟨_, rfl⟩
  obtain ⟨locs, hlo0⟩ : ∃ L : List Loc, L = [] := ⟨_, rfl⟩
  have hS : va_S (zA Γ) s.heap H locs := by rw [hH0, hlo0]; exact hS
  have hW : Wd Γ lo S (mcl Γ q M ++ Y) H := by rw [hH0]; exact hW
  rw [← hH0, ← hlo0]
  unfold fX10_box at hf
  refine lv_aload_n hx hb dX10_box_0 rfl (lv_at hl 0 rfl) ?_
  refine lv_iload_n hx hb dX10_box_1 rfl (lv_at hl 1 rfl) ?_
  obtain ⟨r1, M3, hc2, hf⟩ := op_cl2 hf
  refine z_callV (As := [.int i_1]) (rest := []) ⟨hx, hb, hml, hown, hts⟩ (tX10_noTable l Γ lo S q M Y  hc2) (cwV 1 hts gX10_box_X10_noTable rfl rfl rfl (by decide +kernel) ⟨Nat.le_of_ble_eq_true rfl, Nat.le_of_ble_eq_true rfl⟩) (wd_x hW (k := 0) rfl) rfl hKK hW hS rfl hl.1 rfl (Nat.le_of_ble_eq_true rfl) dX10_box_2 ⟨Nat.zero_le _, Nat.zero_le _⟩ (fun H locs hW hS hm1 hE => ?_)
  have b4 := hE
  refine lv_if_eq (tgt := 12) hx hb dX10_box_5 (by decide) (fun k5 => ?_) (fun k5 => ?_)
  · have hf := (op_if hf).1 k5
    refine lv_aload_n hx hb dX10_box_12 rfl (lv_at hl 0 rfl) ?_
    refine va_get hx hb hts ni_X10_box_X10 hown hKK.1 (wd_x hW (k := 0) rfl) 0 rfl rfl 4 (by decide) (hts (.fieldLink RX10 16 "TiltRouteModel" "boxes" "[I") (List.mem_of_getElem? (i := 1) rfl)) (fun _ h => h) rfl dX10_box_13 ?_
    refine lv_iload_n hx hb dX10_box_16 rfl (lv_at hl 1 rfl) ?_
    obtain ⟨h17, hf⟩ := op_gd hf
    refine va_iald hx hb hKK.1 (wd_x hW (k := 3) rfl) 0 0 (n := 6) rfl rfl h17 dX10_box_17 ?_
    have hf := Option.some.inj hf
    rw [← hf]
    exact z_iret hx hb hr hlocks rfl hW hS hm trivial dX10_box_18
  · have hf := (op_if hf).2 k5
    refine lv_iconst (v := (0)) hx hb dX10_box_8 (by decide) ?_
    refine lv_goto (tgt := 18) hx hb dX10_box_9 (by decide) ?_
    have hf := Option.some.inj hf
    rw [← hf]
    exact z_iret hx hb hr hlocks rfl hW hS hm trivial dX10_box_18

theorem ni_X10_missing_X10 : ∀ w ∈ wsX100, w ∈ wsX10_missing := by decide +kernel
def fX10_missing (M : zMs) (i_1 : Int32) : Option (Int32 × zMs) :=
cl2 (fX10_noTable M i_1) fun r1 M3 =>
if r1 = 0 then
gd (¬ (i_1 < 0 ∨ 6 ≤ i_1.toNatClampNeg)) (
some (((M3 6 i_1.toNatClampNeg), M3)))
else
some (((0 : Int32), M3))
abbrev rmX10_missing : Room := { frames := 3, cells := 0, slots := 0, locals := 64 }
set_option maxHeartbeats 4000000 in
set_option maxRecDepth 100000 in
theorem tX10_missing (l : Launch) (Γ : zG) (lo : zId → Nat) (S : zSt) (q : Nat → Nat) (M : zMs) (Y : va_W) {i_1 : Int32}  {y : (Int32 × zMs)} (hf : fX10_missing M i_1 = some y) : Met l yX10_missing wsX10_missing rmX10_missing (zP0 Γ lo S (mcl Γ q M ++ Y) [.ref (q 0), .int i_1]) (zQ0 Γ lo S S (mcl Γ q y.2 ++ Y) (some (.int y.1)) True) 0 0 (zA Γ) := by
  refine Met.ofW (cc := cX10_missing) (maxL := 2) (ret := (some .int)) (by decide) rfl ?_
  intro p e s m args below meth c s₁ B hml hv
  obtain ⟨rfl, hW, hKK⟩ := hv
  have hx := B.exec
  have hb := B.bytes
  have hr := B.returns
  have hts := atoms_spec (ws := wsX10_missing) B.pre
  have hown : s.vm.findClass RX10 = some m.cls := findClass_of_methodNamed B.named
  have hlocks := B.notSynchronized
  have hS : va_S (zA Γ) s.heap s.heap [] := va_S.rf
  have hm : ∀ c, zV S c = zV S c := fun _ => rfl
  have hl := lv_entry ([.ref (q 0), .int i_1]) (n := 2) (Nat.le_of_ble_eq_true rfl)
  rw [lg_entry_eq]
  generalize (lg_sl ([.ref (q 0), .int i_1]) ++ List.replicate (2 - (lg_sl ([.ref (q 0), .int i_1])).length) Slot.unset).toArray = ls at hl ⊢
  have hl : lv_has ls 2 [(0, .ref (q 0)), (1, .int i_1)] := hl
  obtain ⟨H, hH0⟩ : ∃ H, H = s.heap := ⟨_, rfl⟩
  obtain ⟨locs, hlo0⟩ : ∃ L : List Loc, L = [] := ⟨_, rfl⟩
  have hS : va_S (zA Γ) s.heap H locs := by rw [hH0, hlo0]; exact hS
  have hW : Wd Γ lo S (mcl Γ q M ++ Y) H := by rw [hH0]; exact hW
  rw [← hH0, ← hlo0]
  unfold fX10_missing at hf
  refine lv_aload_n hx hb dX10_missing_0 rfl (lv_at hl 0 rfl) ?_
  refine lv_iload_n hx hb dX10_missing_1 rfl (lv_at hl 1 rfl) ?_
  obtain ⟨r1, M3, hc2, hf⟩ := op_cl2 hf
  refine z_callV (As := [.int i_1]) (rest := []) ⟨hx, hb, hml, hown, hts⟩ (tX10_noTable l Γ lo S q M Y  hc2) (cwV 1 hts gX10_missing_X10_noTable rfl rfl rfl (by decide +kernel) ⟨Nat.le_of_ble_eq_true rfl, Nat.le_of_ble_eq_true rfl⟩) (wd_x hW (k := 0) rfl) rfl hKK hW hS rfl hl.1 rfl (Nat.le_of_ble_eq_true rfl) dX10_missing_2 ⟨Nat.zero_le _, Nat.zero_le _⟩ (fun H locs hW hS hm1 hE => ?_)
  have b4 := hE
  refine lv_if_eq (tgt := 12) hx hb dX10_missing_5 (by decide) (fun k5 => ?_) (fun k5 => ?_)
  · have hf := (op_if hf).1 k5
    refine lv_aload_n hx hb dX10_missing_12 rfl (lv_at hl 0 rfl) ?_
    refine va_get hx hb hts ni_X10_missing_X10 hown hKK.1 (wd_x hW (k := 0) rfl) 0 rfl rfl 6 (by decide) (hts (.fieldLink RX10 22 "TiltRouteModel" "lacking" "[I") (List.mem_of_getElem? (i := 1) rfl)) (fun _ h => h) rfl dX10_missing_13 ?_
    refine lv_iload_n hx hb dX10_missing_16 rfl (lv_at hl 1 rfl) ?_
    obtain ⟨h17, hf⟩ := op_gd hf
    refine va_iald hx hb hKK.1 (wd_x hW (k := 5) rfl) 0 0 (n := 6) rfl rfl h17 dX10_missing_17 ?_
    have hf := Option.some.inj hf
    rw [← hf]
    exact z_iret hx hb hr hlocks rfl hW hS hm trivial dX10_missing_18
  · have hf := (op_if hf).2 k5
    refine lv_iconst (v := (0)) hx hb dX10_missing_8 (by decide) ?_
    refine lv_goto (tgt := 18) hx hb dX10_missing_9 (by decide) ?_
    have hf := Option.some.inj hf
    rw [← hf]
    exact z_iret hx hb hr hlocks rfl hW hS hm trivial dX10_missing_18

theorem ni_X10_load__X10 : ∀ w ∈ wsX100, w ∈ wsX10_load_ := by decide +kernel
def fX10_load_ (M : zMs) (i_1 : Int32) (i_2 : Int32) (i_3 : Int32) : Option (Int32 × zMs) :=
cl (fX10_in M i_2 (0 : Int32) (1 : Int32)) fun r1 =>
st (fun (y4 : Int32) => (st y4 fun x7 =>
cl (fX10_isVan M i_1) fun r8 =>
st (fun (y11 : Int32) => (st y11 fun x14 =>
cl (fX10_isVan M i_1) fun r15 =>
st (fun (y18 : Int32) => (cl2 (fX10_refused M y18) fun r20 M22 =>
if r20 = 0 then
gd (¬ ((((2 : Int32) * i_1) + i_2) < 0 ∨ 4 ≤ (((2 : Int32) * i_1) + i_2).toNatClampNeg)) (
gd (¬ ((((2 : Int32) * i_1) + i_2) < 0 ∨ 4 ≤ (((2 : Int32) * i_1) + i_2).toNatClampNeg)) (
st (pM M22 50 (((2 : Int32) * i_1) + i_2).toNatClampNeg ((M22 50 (((2 : Int32) * i_1) + i_2).toNatClampNeg) + i_3)) fun M24 =>
gd (¬ ((((2 : Int32) * i_1) + i_2) < 0 ∨ 4 ≤ (((2 : Int32) * i_1) + i_2).toNatClampNeg)) (
some (((M24 50 (((2 : Int32) * i_1) + i_2).toNatClampNeg), M24)))))
else
some (((0 : Int32), M22)) : Option (Int32 × zMs))) fun j19 =>
if r15 = 0 then
j19 (1 : Int32)
else
if x7 = 0 then
j19 (2 : Int32)
else
if x14 = 0 then
j19 (3 : Int32)
else
j19 (0 : Int32) : Option (Int32 × zMs))) fun j13 =>
st (fun (u_ : Unit) => (j13 (0 : Int32) : Option (Int32 × zMs))) fun j25 =>
if r8 = 0 then
j25 ()
else
if x7 = 0 then
j25 ()
else
gd (¬ ((((2 : Int32) * i_1) + i_2) < 0 ∨ 4 ≤ (((2 : Int32) * i_1) + i_2).toNatClampNeg)) (
if (20 : Int32) < ((M 50 (((2 : Int32) * i_1) + i_2).toNatClampNeg) + i_3) then
j25 ()
else
j13 (1 : Int32)) : Option (Int32 × zMs))) fun j6 =>
st (fun (u_ : Unit) => (j6 (0 : Int32) : Option (Int32 × zMs))) fun j26 =>
if r1 = 0 then
j26 ()
else
cl (fX10_in M i_3 (1 : Int32) (20 : Int32)) fun r27 =>
if r27 = 0 then
j26 ()
else
j6 (1 : Int32)
abbrev rmX10_load_ : Room := { frames := 2, cells := 0, slots := 0, locals := 42 }
set_option maxHeartbeats 4000000 in
set_option maxRecDepth 100000 in
theorem tX10_load_ (l : Launch) (Γ : zG) (lo : zId → Nat) (S : zSt) (q : Nat → Nat) (M : zMs) (Y : va_W) {i_1 : Int32} {i_2 : Int32} {i_3 : Int32}  {y : (Int32 × zMs)} (hf : fX10_load_ M i_1 i_2 i_3 = some y) : Met l yX10_load_ wsX10_load_ rmX10_load_ (zP0 Γ lo S (mcl Γ q M ++ Y) [.ref (q 0), .int i_1, .int i_2, .int i_3]) (zQ0 Γ lo S S (mcl Γ q y.2 ++ Y) (some (.int y.1)) True) 0 0 (zA Γ) := by
  refine Met.ofW (cc := cX10_load_) (maxL := 6) (ret := (some .int)) (by decide) rfl ?_
  intro p e s m args below meth c s₁ B hml hv
  obtain ⟨rfl, hW, hKK⟩ := hv
  have hx := B.exec
  have hb := B.bytes
  have hr := B.returns
  have hts := atoms_spec (ws := wsX10_load_) B.pre
  have hown : s.vm.findClass RX10 = some m.cls := findClass_of_methodNamed B.named
  have hlocks := B.notSynchronized
  have hS : va_S (zA Γ) s.heap s.heap [] := va_S.rf
  have hm : ∀ c, zV S c = zV S c := fun _ => rfl
  have hl := lv_entry ([.ref (q 0), .int i_1, .int i_2, .int i_3]) (n := 6) (Nat.le_of_ble_eq_true rfl)
  rw [lg_entry_eq]
  generalize (lg_sl ([.ref (q 0), .int i_1, .int i_2, .int i_3]) ++ List.replicate (6 - (lg_sl ([.ref (q 0), .int i_1, .int i_2, .int i_3])).length) Slot.unset).toArray = ls at hl ⊢
  have hl : lv_has ls 6 [(0, .ref (q 0)), (1, .int i_1), (2, .int i_2), (3, .int i_3)] := hl
  obtain ⟨H, hH0⟩ : ∃ H, H = s.heap := ⟨_, rfl⟩
  obtain ⟨locs, hlo0⟩ : ∃ L : List Loc, L = [] := ⟨_, rfl⟩
  have hS : va_S (zA Γ) s.heap H locs := by rw [hH0, hlo0]; exact hS
  have hW : Wd Γ lo S (mcl Γ q M ++ Y) H := by rw [hH0]; exact hW
  rw [← hH0, ← hlo0]
  unfold fX10_load_ at hf
  refine lv_iload_n hx hb dX10_load__0 rfl (lv_at hl 2 rfl) ?_
  refine lv_iconst (v := (0)) hx hb dX10_load__1 (by decide) ?_
  refine lv_iconst (v := (1)) hx hb dX10_load__2 (by decide) ?_
  obtain ⟨r1, hc2, hf⟩ := op_cl hf
  refine z_callS (As := [.int i_2, .int (0 : Int32), .int (1 : Int32)]) (rest := []) ⟨hx, hb, hml, hown, hts⟩ (tX10_in l Γ lo S q M Y  hc2) (va_cwS 3 hts gX10_load__X10_in rfl rfl rfl (by decide +kernel) ⟨Nat.le_of_ble_eq_true rfl, Nat.le_of_ble_eq_true rfl⟩) hKK hW hS rfl hl.1 rfl (Nat.le_of_ble_eq_true rfl) dX10_load__3 ⟨Nat.zero_le _, Nat.zero_le _⟩ (fun H locs hW hS hm1 hE => ?_)
  have b3 := hE
  obtain ⟨j6, ej6, hf⟩ := op_st hf
  have hj6 : ∀ (y4 : Int32) (H : Heap) (locs : List Loc) (ls : Array Slot) (b5 : y4 = 0 ∨ y4 = 1), lv_has ls 6 [(0, .ref (q 0)), (1, .int i_1), (2, .int i_2), (3, .int i_3)] → Wd Γ lo S (mcl Γ q M ++ Y) H → va_S (zA Γ) s.heap H locs → (∀ c, zV S c = zV S c) → j6 y4 = some y → W p l e (headSpec wsX10_load_ rmX10_load_).room s m ([.ref (q 0), .int i_1, .int i_2, .int i_3] : List Value).toArray below meth c H locs 0 0 (MQ below (zQ0 Γ lo S S (mcl Γ q y.2 ++ Y) (some (.int y.1)) True) ([.ref (q 0), .int i_1, .int i_2, .int i_3] : List Value).toArray s 0 0 (zA Γ)) (F0 m 24 ls [.int y4]) := by
    intro y4 H locs ls b5 hl hW hS hm hf
    rw [ej6] at hf
    obtain ⟨x7, ex7, hf⟩ := op_st hf
    have bx7 : x7 = 0 ∨ x7 = 1 := by rw [ex7]; exact b5
    refine z_ist (lv' := [(4, .int x7), (0, .ref (q 0)), (1, .int i_1), (2, .int i_2), (3, .int i_3)]) ex7 hx hb dX10_load__24 hl (by decide) rfl (fun ls hl => ?_)
    refine lv_iload_n hx hb dX10_load__26 rfl (lv_at hl 2 rfl) ?_
    obtain ⟨r8, hc9, hf⟩ := op_cl hf
    refine z_callS (As := [.int i_1]) (rest := []) ⟨hx, hb, hml, hown, hts⟩ (tX10_isVan l Γ lo S q M Y  hc9) (va_cwS 1 hts gX10_load__X10_isVan rfl rfl rfl (by decide +kernel) ⟨Nat.le_of_ble_eq_true rfl, Nat.le_of_ble_eq_true rfl⟩) hKK hW hS rfl hl.1 rfl (Nat.le_of_ble_eq_true rfl) dX10_load__27 ⟨Nat.zero_le _, Nat.zero_le _⟩ (fun H locs hW hS hm1 hE => ?_)
    have b10 := hE
    obtain ⟨j13, ej13, hf⟩ := op_st hf
    have hj13 : ∀ (y11 : Int32) (H : Heap) (locs : List Loc) (ls : Array Slot) (b12 : y11 = 0 ∨ y11 = 1), lv_has ls 6 [(4, .int x7), (0, .ref (q 0)), (1, .int i_1), (2, .int i_2), (3, .int i_3)] → Wd Γ lo S (mcl Γ q M ++ Y) H → va_S (zA Γ) s.heap H locs → (∀ c, zV S c = zV S c) → j13 y11 = some y → W p l e (headSpec wsX10_load_ rmX10_load_).room s m ([.ref (q 0), .int i_1, .int i_2, .int i_3] : List Value).toArray below meth c H locs 0 0 (MQ below (zQ0 Γ lo S S (mcl Γ q y.2 ++ Y) (some (.int y.1)) True) ([.ref (q 0), .int i_1, .int i_2, .int i_3] : List Value).toArray s 0 0 (zA Γ)) (F0 m 60 ls [.int y11]) := by
      intro y11 H locs ls b12 hl hW hS hm hf
      rw [ej13] at hf
      obtain ⟨x14, ex14, hf⟩ := op_st hf
      have bx14 : x14 = 0 ∨ x14 = 1 := by rw [ex14]; exact b12
      refine z_ist (lv' := [(5, .int x14), (4, .int x7), (0, .ref (q 0)), (1, .int i_1), (2, .int i_2), (3, .int i_3)]) ex14 hx hb dX10_load__60 hl (by decide) rfl (fun ls hl => ?_)
      refine lv_aload_n hx hb dX10_load__62 rfl (lv_at hl 2 rfl) ?_
      refine lv_iload_n hx hb dX10_load__63 rfl (lv_at hl 3 rfl) ?_
      obtain ⟨r15, hc16, hf⟩ := op_cl hf
      refine z_callS (As := [.int i_1]) (rest := [.ref (q 0)]) ⟨hx, hb, hml, hown, hts⟩ (tX10_isVan l Γ lo S q M Y  hc16) (va_cwS 1 hts gX10_load__X10_isVan rfl rfl rfl (by decide +kernel) ⟨Nat.le_of_ble_eq_true rfl, Nat.le_of_ble_eq_true rfl⟩) hKK hW hS rfl hl.1 rfl (Nat.le_of_ble_eq_true rfl) dX10_load__64 ⟨Nat.zero_le _, Nat.zero_le _⟩ (fun H locs hW hS hm1 hE => ?_)
      have b17 := hE
      obtain ⟨j19, ej19, hf⟩ := op_st hf
      have hj19 : ∀ (y18 : Int32) (H : Heap) (locs : List Loc) (ls : Array Slot), lv_has ls 6 [(0, .ref (q 0)), (1, .int i_1), (2, .int i_2), (3, .int i_3)] → Wd Γ lo S (mcl Γ q M ++ Y) H → va_S (zA Γ) s.heap H locs → (∀ c, zV S c = zV S c) → j19 y18 = some y → W p l e (headSpec wsX10_load_ rmX10_load_).room s m ([.ref (q 0), .int i_1, .int i_2, .int i_3] : List Value).toArray below meth c H locs 0 0 (MQ below (zQ0 Γ lo S S (mcl Γ q y.2 ++ Y) (some (.int y.1)) True) ([.ref (q 0), .int i_1, .int i_2, .int i_3] : List Value).toArray s 0 0 (zA Γ)) (F0 m 93 ls [.int y18, .ref (q 0)]) := by
        intro y18 H locs ls  hl hW hS hm hf
        rw [ej19] at hf
        obtain ⟨r20, M22, hc21, hf⟩ := op_cl2 hf
        refine z_callV (As := [.int y18]) (rest := []) ⟨hx, hb, hml, hown, hts⟩ (tX10_refused l Γ lo S q M Y  hc21) (cwV 1 hts gX10_load__X10_refused rfl rfl rfl (by decide +kernel) ⟨Nat.le_of_ble_eq_true rfl, Nat.le_of_ble_eq_true rfl⟩) (wd_x hW (k := 0) rfl) rfl hKK hW hS rfl hl.1 rfl (Nat.le_of_ble_eq_true rfl) dX10_load__93 ⟨Nat.zero_le _, Nat.zero_le _⟩ (fun H locs hW hS hm1 hE => ?_)
        have b23 := hE
        refine lv_if_eq (tgt := 101) hx hb dX10_load__96 (by decide) (fun k96 => ?_) (fun k96 => ?_)
        · have hf := (op_if hf).1 k96
          refine lv_aload_n hx hb dX10_load__101 rfl (lv_at hl 0 rfl) ?_
          refine va_get hx hb hts ni_X10_load__X10 hown hKK.1 (wd_x hW (k := 0) rfl) 0 rfl rfl 50 (by decide) (hts (.fieldLink RX10 141 "TiltRouteModel" "spares" "[I") (List.mem_of_getElem? (i := 1) rfl)) (fun _ h => h) rfl dX10_load__102 ?_
          refine lv_iconst (v := (2)) hx hb dX10_load__105 (by decide) ?_
          refine lv_iload_n hx hb dX10_load__106 rfl (lv_at hl 1 rfl) ?_
          refine lv_imul hx hb dX10_load__107 ?_
          refine lv_iload_n hx hb dX10_load__108 rfl (lv_at hl 2 rfl) ?_
          refine lv_iadd hx hb dX10_load__109 ?_
          refine lv_dup2_11 hx hb dX10_load__110 rfl rfl ?_
          obtain ⟨h111, hf⟩ := op_gd hf
          refine va_iald hx hb hKK.1 (wd_x hW (k := 44) rfl) 0 0 (n := 4) rfl rfl h111 dX10_load__111 ?_
          refine lv_iload_n hx hb dX10_load__112 rfl (lv_at hl 3 rfl) ?_
          refine lv_iadd hx hb dX10_load__113 ?_
          obtain ⟨h114, hf⟩ := op_gd hf
          obtain ⟨M24, eM24, hf⟩ := op_st hf
          refine m_iast hx hb hKK.1 hW hS 50 44 4 rfl h114 eM24 (ms_50 Γ q _ Y _ _) dX10_load__114 (fun H locs hW hS => ?_)
          refine lv_aload_n hx hb dX10_load__115 rfl (lv_at hl 0 rfl) ?_
          refine va_get hx hb hts ni_X10_load__X10 hown hKK.1 (wd_x hW (k := 0) rfl) 0 rfl rfl 50 (by decide) (hts (.fieldLink RX10 141 "TiltRouteModel" "spares" "[I") (List.mem_of_getElem? (i := 1) rfl)) (fun _ h => h) rfl dX10_load__116 ?_
          refine lv_iconst (v := (2)) hx hb dX10_load__119 (by decide) ?_
          refine lv_iload_n hx hb dX10_load__120 rfl (lv_at hl 1 rfl) ?_
          refine lv_imul hx hb dX10_load__121 ?_
          refine lv_iload_n hx hb dX10_load__122 rfl (lv_at hl 2 rfl) ?_
          refine lv_iadd hx hb dX10_load__123 ?_
          obtain ⟨h124, hf⟩ := op_gd hf
          refine va_iald hx hb hKK.1 (wd_x hW (k := 44) rfl) 0 0 (n := 4) rfl rfl h124 dX10_load__124 ?_
          have hf := Option.some.inj hf
          rw [← hf]
          exact z_iret hx hb hr hlocks rfl hW hS hm trivial dX10_load__125
        · have hf := (op_if hf).2 k96
          refine lv_iconst (v := (0)) hx hb dX10_load__99 (by decide) ?_
          have hf := Option.some.inj hf
          rw [← hf]
          exact z_iret hx hb hr hlocks rfl hW hS hm trivial dX10_load__100
      refine lv_if_ne (tgt := 74) hx hb dX10_load__67 (by decide) (fun k67 => ?_) (fun k67 => ?_)
      · have hf := (op_if hf).2 k67
        refine lv_iload hx hb dX10_load__74 (lv_at hl 1 rfl) ?_
        refine lv_if_ne (tgt := 83) hx hb dX10_load__76 (by decide) (fun k76 => ?_) (fun k76 => ?_)
        · have hf := (op_if hf).2 k76
          refine lv_iload hx hb dX10_load__83 (lv_at hl 0 rfl) ?_
          refine lv_if_eq (tgt := 92) hx hb dX10_load__85 (by decide) (fun k85 => ?_) (fun k85 => ?_)
          · have hf := (op_if hf).1 k85
            refine lv_iconst (v := (3)) hx hb dX10_load__92 (by decide) ?_
            exact hj19 (3 : Int32) H locs ls  (lv_sub hl [2, 3, 4, 5] rfl) hW hS hm hf
          · have hf := (op_if hf).2 k85
            refine lv_iconst (v := (0)) hx hb dX10_load__88 (by decide) ?_
            refine lv_goto (tgt := 93) hx hb dX10_load__89 (by decide) ?_
            exact hj19 (0 : Int32) H locs ls  (lv_sub hl [2, 3, 4, 5] rfl) hW hS hm hf
        · have hf := (op_if hf).1 k76
          refine lv_iconst (v := (2)) hx hb dX10_load__79 (by decide) ?_
          refine lv_goto (tgt := 93) hx hb dX10_load__80 (by decide) ?_
          exact hj19 (2 : Int32) H locs ls  (lv_sub hl [2, 3, 4, 5] rfl) hW hS hm hf
      · have hf := (op_if hf).1 k67
        refine lv_iconst (v := (1)) hx hb dX10_load__70 (by decide) ?_
        refine lv_goto (tgt := 93) hx hb dX10_load__71 (by decide) ?_
        exact hj19 (1 : Int32) H locs ls  (lv_sub hl [2, 3, 4, 5] rfl) hW hS hm hf
    obtain ⟨j25, ej25, hf⟩ := op_st hf
    have hj25 : ∀ (u_ : Unit) (H : Heap) (locs : List Loc) (ls : Array Slot), lv_has ls 6 [(4, .int x7), (0, .ref (q 0)), (1, .int i_1), (2, .int i_2), (3, .int i_3)] → Wd Γ lo S (mcl Γ q M ++ Y) H → va_S (zA Γ) s.heap H locs → (∀ c, zV S c = zV S c) → j25 () = some y → W p l e (headSpec wsX10_load_ rmX10_load_).room s m ([.ref (q 0), .int i_1, .int i_2, .int i_3] : List Value).toArray below meth c H locs 0 0 (MQ below (zQ0 Γ lo S S (mcl Γ q y.2 ++ Y) (some (.int y.1)) True) ([.ref (q 0), .int i_1, .int i_2, .int i_3] : List Value).toArray s 0 0 (zA Γ)) (F0 m 59 ls []) := by
      intro u_ H locs ls  hl hW hS hm hf
      rw [ej25] at hf
      refine lv_iconst (v := (0)) hx hb dX10_load__59 (by decide) ?_
      exact hj13 (0 : Int32) H locs ls (Or.inl rfl) (lv_sub hl [0, 1, 2, 3, 4] rfl) hW hS hm hf
    refine lv_if_eq (tgt := 59) hx hb dX10_load__30 (by decide) (fun k30 => ?_) (fun k30 => ?_)
    · have hf := (op_if hf).1 k30
      exact hj25 () H locs ls  (lv_sub hl [0, 1, 2, 3, 4] rfl) hW hS hm hf
    · have hf := (op_if hf).2 k30
      refine lv_iload hx hb dX10_load__33 (lv_at hl 0 rfl) ?_
      refine lv_if_eq (tgt := 59) hx hb dX10_load__35 (by decide) (fun k35 => ?_) (fun k35 => ?_)
      · have hf := (op_if hf).1 k35
        exact hj25 () H locs ls  (lv_sub hl [0, 1, 2, 3, 4] rfl) hW hS hm hf
      · have hf := (op_if hf).2 k35
        refine lv_aload_n hx hb dX10_load__38 rfl (lv_at hl 1 rfl) ?_
        refine va_get hx hb hts ni_X10_load__X10 hown hKK.1 (wd_x hW (k := 0) rfl) 0 rfl rfl 50 (by decide) (hts (.fieldLink RX10 141 "TiltRouteModel" "spares" "[I") (List.mem_of_getElem? (i := 1) rfl)) (fun _ h => h) rfl dX10_load__39 ?_
        refine lv_iconst (v := (2)) hx hb dX10_load__42 (by decide) ?_
        refine lv_iload_n hx hb dX10_load__43 rfl (lv_at hl 2 rfl) ?_
        refine lv_imul hx hb dX10_load__44 ?_
        refine lv_iload_n hx hb dX10_load__45 rfl (lv_at hl 3 rfl) ?_
        refine lv_iadd hx hb dX10_load__46 ?_
        obtain ⟨h47, hf⟩ := op_gd hf
        refine va_iald hx hb hKK.1 (wd_x hW (k := 44) rfl) 0 0 (n := 4) rfl rfl h47 dX10_load__47 ?_
        refine lv_iload_n hx hb dX10_load__48 rfl (lv_at hl 4 rfl) ?_
        refine lv_iadd hx hb dX10_load__49 ?_
        refine lv_bipush (v := (20)) hx hb dX10_load__50 (by decide) ?_
        refine lv_icmp_gt (tgt := 59) hx hb dX10_load__52 (by decide) (fun k52 => ?_) (fun k52 => ?_)
        · have hf := (op_if hf).1 k52
          exact hj25 () H locs ls  (lv_sub hl [0, 1, 2, 3, 4] rfl) hW hS hm hf
        · have hf := (op_if hf).2 k52
          refine lv_iconst (v := (1)) hx hb dX10_load__55 (by decide) ?_
          refine lv_goto (tgt := 60) hx hb dX10_load__56 (by decide) ?_
          exact hj13 (1 : Int32) H locs ls (Or.inr rfl) (lv_sub hl [0, 1, 2, 3, 4] rfl) hW hS hm hf
  obtain ⟨j26, ej26, hf⟩ := op_st hf
  have hj26 : ∀ (u_ : Unit) (H : Heap) (locs : List Loc) (ls : Array Slot), lv_has ls 6 [(0, .ref (q 0)), (1, .int i_1), (2, .int i_2), (3, .int i_3)] → Wd Γ lo S (mcl Γ q M ++ Y) H → va_S (zA Γ) s.heap H locs → (∀ c, zV S c = zV S c) → j26 () = some y → W p l e (headSpec wsX10_load_ rmX10_load_).room s m ([.ref (q 0), .int i_1, .int i_2, .int i_3] : List Value).toArray below meth c H locs 0 0 (MQ below (zQ0 Γ lo S S (mcl Γ q y.2 ++ Y) (some (.int y.1)) True) ([.ref (q 0), .int i_1, .int i_2, .int i_3] : List Value).toArray s 0 0 (zA Γ)) (F0 m 23 ls []) := by
    intro u_ H locs ls  hl hW hS hm hf
    rw [ej26] at hf
    refine lv_iconst (v := (0)) hx hb dX10_load__23 (by decide) ?_
    exact hj6 (0 : Int32) H locs ls (Or.inl rfl) (lv_sub hl [0, 1, 2, 3] rfl) hW hS hm hf
  refine lv_if_eq (tgt := 23) hx hb dX10_load__6 (by decide) (fun k6 => ?_) (fun k6 => ?_)
  · have hf := (op_if hf).1 k6
    exact hj26 () H locs ls  (lv_sub hl [0, 1, 2, 3] rfl) hW hS hm hf
  · have hf := (op_if hf).2 k6
    refine lv_iload_n hx hb dX10_load__9 rfl (lv_at hl 3 rfl) ?_
    refine lv_iconst (v := (1)) hx hb dX10_load__10 (by decide) ?_
    refine lv_bipush (v := (20)) hx hb dX10_load__11 (by decide) ?_
    obtain ⟨r27, hc28, hf⟩ := op_cl hf
    refine z_callS (As := [.int i_3, .int (1 : Int32), .int (20 : Int32)]) (rest := []) ⟨hx, hb, hml, hown, hts⟩ (tX10_in l Γ lo S q M Y  hc28) (va_cwS 3 hts gX10_load__X10_in rfl rfl rfl (by decide +kernel) ⟨Nat.le_of_ble_eq_true rfl, Nat.le_of_ble_eq_true rfl⟩) hKK hW hS rfl hl.1 rfl (Nat.le_of_ble_eq_true rfl) dX10_load__13 ⟨Nat.zero_le _, Nat.zero_le _⟩ (fun H locs hW hS hm1 hE => ?_)
    have b29 := hE
    refine lv_if_eq (tgt := 23) hx hb dX10_load__16 (by decide) (fun k16 => ?_) (fun k16 => ?_)
    · have hf := (op_if hf).1 k16
      exact hj26 () H locs ls  (lv_sub hl [0, 1, 2, 3] rfl) hW hS hm hf
    · have hf := (op_if hf).2 k16
      refine lv_iconst (v := (1)) hx hb dX10_load__19 (by decide) ?_
      refine lv_goto (tgt := 24) hx hb dX10_load__20 (by decide) ?_
      exact hj6 (1 : Int32) H locs ls (Or.inr rfl) (lv_sub hl [0, 1, 2, 3] rfl) hW hS hm hf

theorem ni_X10_parts_X10 : ∀ w ∈ wsX100, w ∈ wsX10_parts := by decide +kernel
def fX10_parts (M : zMs) (i_1 : Int32) (i_2 : Int32) : Option (Int32 × zMs) :=
cl (fX10_isVan M i_1) fun r1 =>
st (fun (y4 : Int32) => (cl2 (fX10_refused M y4) fun r6 M8 =>
if r6 = 0 then
gd (¬ ((((2 : Int32) * i_1) + i_2) < 0 ∨ 4 ≤ (((2 : Int32) * i_1) + i_2).toNatClampNeg)) (
some (((M8 50 (((2 : Int32) * i_1) + i_2).toNatClampNeg), M8)))
else
some (((0 : Int32), M8)) : Option (Int32 × zMs))) fun j5 =>
if r1 = 0 then
j5 (1 : Int32)
else
cl (fX10_in M i_2 (0 : Int32) (1 : Int32)) fun r10 =>
if r10 = 0 then
j5 (2 : Int32)
else
j5 (0 : Int32)
abbrev rmX10_parts : Room := { frames := 2, cells := 0, slots := 0, locals := 42 }
set_option maxHeartbeats 4000000 in
set_option maxRecDepth 100000 in
theorem tX10_parts (l : Launch) (Γ : zG) (lo : zId → Nat) (S : zSt) (q : Nat → Nat) (M : zMs) (Y : va_W) {i_1 : Int32} {i_2 : Int32}  {y : (Int32 × zMs)} (hf : fX10_parts M i_1 i_2 = some y) : Met l yX10_parts wsX10_parts rmX10_parts (zP0 Γ lo S (mcl Γ q M ++ Y) [.ref (q 0), .int i_1, .int i_2]) (zQ0 Γ lo S S (mcl Γ q y.2 ++ Y) (some (.int y.1)) True) 0 0 (zA Γ) := by
  refine Met.ofW (cc := cX10_parts) (maxL := 3) (ret := (some .int)) (by decide) rfl ?_
  intro p e s m args below meth c s₁ B hml hv
  obtain ⟨rfl, hW, hKK⟩ := hv
  have hx := B.exec
  have hb := B.bytes
  have hr := B.returns
  have hts := atoms_spec (ws := wsX10_parts) B.pre
  have hown : s.vm.findClass RX10 = some m.cls := findClass_of_methodNamed B.named
  have hlocks := B.notSynchronized
  have hS : va_S (zA Γ) s.heap s.heap [] := va_S.rf
  have hm : ∀ c, zV S c = zV S c := fun _ => rfl
  have hl := lv_entry ([.ref (q 0), .int i_1, .int i_2]) (n := 3) (Nat.le_of_ble_eq_true rfl)
  rw [lg_entry_eq]
  generalize (lg_sl ([.ref (q 0), .int i_1, .int i_2]) ++ List.replicate (3 - (lg_sl ([.ref (q 0), .int i_1, .int i_2])).length) Slot.unset).toArray = ls at hl ⊢
  have hl : lv_has ls 3 [(0, .ref (q 0)), (1, .int i_1), (2, .int i_2)] := hl
  obtain ⟨H, hH0⟩ : ∃ H, H = s.heap := ⟨_, rfl⟩
  obtain ⟨locs, hlo0⟩ : ∃ L : List Loc, L = [] := ⟨_, rfl⟩
  have hS : va_S (zA Γ) s.heap H locs := by rw [hH0, hlo0]; exact hS
  have hW : Wd Γ lo S (mcl Γ q M ++ Y) H := by rw [hH0]; exact hW
  rw [← hH0, ← hlo0]
  unfold fX10_parts at hf
  refine lv_aload_n hx hb dX10_parts_0 rfl (lv_at hl 0 rfl) ?_
  refine lv_iload_n hx hb dX10_parts_1 rfl (lv_at hl 1 rfl) ?_
  obtain ⟨r1, hc2, hf⟩ := op_cl hf
  refine z_callS (As := [.int i_1]) (rest := [.ref (q 0)]) ⟨hx, hb, hml, hown, hts⟩ (tX10_isVan l Γ lo S q M Y  hc2) (va_cwS 1 hts gX10_parts_X10_isVan rfl rfl rfl (by decide +kernel) ⟨Nat.le_of_ble_eq_true rfl, Nat.le_of_ble_eq_true rfl⟩) hKK hW hS rfl hl.1 rfl (Nat.le_of_ble_eq_true rfl) dX10_parts_2 ⟨Nat.zero_le _, Nat.zero_le _⟩ (fun H locs hW hS hm1 hE => ?_)
  have b3 := hE
  obtain ⟨j5, ej5, hf⟩ := op_st hf
  have hj5 : ∀ (y4 : Int32) (H : Heap) (locs : List Loc) (ls : Array Slot), lv_has ls 3 [(0, .ref (q 0)), (1, .int i_1), (2, .int i_2)] → Wd Γ lo S (mcl Γ q M ++ Y) H → va_S (zA Γ) s.heap H locs → (∀ c, zV S c = zV S c) → j5 y4 = some y → W p l e (headSpec wsX10_parts rmX10_parts).room s m ([.ref (q 0), .int i_1, .int i_2] : List Value).toArray below meth c H locs 0 0 (MQ below (zQ0 Γ lo S S (mcl Γ q y.2 ++ Y) (some (.int y.1)) True) ([.ref (q 0), .int i_1, .int i_2] : List Value).toArray s 0 0 (zA Γ)) (F0 m 26 ls [.int y4, .ref (q 0)]) := by
    intro y4 H locs ls  hl hW hS hm hf
    rw [ej5] at hf
    obtain ⟨r6, M8, hc7, hf⟩ := op_cl2 hf
    refine z_callV (As := [.int y4]) (rest := []) ⟨hx, hb, hml, hown, hts⟩ (tX10_refused l Γ lo S q M Y  hc7) (cwV 1 hts gX10_parts_X10_refused rfl rfl rfl (by decide +kernel) ⟨Nat.le_of_ble_eq_true rfl, Nat.le_of_ble_eq_true rfl⟩) (wd_x hW (k := 0) rfl) rfl hKK hW hS rfl hl.1 rfl (Nat.le_of_ble_eq_true rfl) dX10_parts_26 ⟨Nat.zero_le _, Nat.zero_le _⟩ (fun H locs hW hS hm1 hE => ?_)
    have b9 := hE
    refine lv_if_eq (tgt := 36) hx hb dX10_parts_29 (by decide) (fun k29 => ?_) (fun k29 => ?_)
    · have hf := (op_if hf).1 k29
      refine lv_aload_n hx hb dX10_parts_36 rfl (lv_at hl 0 rfl) ?_
      refine va_get hx hb hts ni_X10_parts_X10 hown hKK.1 (wd_x hW (k := 0) rfl) 0 rfl rfl 50 (by decide) (hts (.fieldLink RX10 141 "TiltRouteModel" "spares" "[I") (List.mem_of_getElem? (i := 1) rfl)) (fun _ h => h) rfl dX10_parts_37 ?_
      refine lv_iconst (v := (2)) hx hb dX10_parts_40 (by decide) ?_
      refine lv_iload_n hx hb dX10_parts_41 rfl (lv_at hl 1 rfl) ?_
      refine lv_imul hx hb dX10_parts_42 ?_
      refine lv_iload_n hx hb dX10_parts_43 rfl (lv_at hl 2 rfl) ?_
      refine lv_iadd hx hb dX10_parts_44 ?_
      obtain ⟨h45, hf⟩ := op_gd hf
      refine va_iald hx hb hKK.1 (wd_x hW (k := 44) rfl) 0 0 (n := 4) rfl rfl h45 dX10_parts_45 ?_
      have hf := Option.some.inj hf
      rw [← hf]
      exact z_iret hx hb hr hlocks rfl hW hS hm trivial dX10_parts_46
    · have hf := (op_if hf).2 k29
      refine lv_iconst (v := (0)) hx hb dX10_parts_32 (by decide) ?_
      refine lv_goto (tgt := 46) hx hb dX10_parts_33 (by decide) ?_
      have hf := Option.some.inj hf
      rw [← hf]
      exact z_iret hx hb hr hlocks rfl hW hS hm trivial dX10_parts_46
  refine lv_if_ne (tgt := 12) hx hb dX10_parts_5 (by decide) (fun k5 => ?_) (fun k5 => ?_)
  · have hf := (op_if hf).2 k5
    refine lv_iload_n hx hb dX10_parts_12 rfl (lv_at hl 2 rfl) ?_
    refine lv_iconst (v := (0)) hx hb dX10_parts_13 (by decide) ?_
    refine lv_iconst (v := (1)) hx hb dX10_parts_14 (by decide) ?_
    obtain ⟨r10, hc11, hf⟩ := op_cl hf
    refine z_callS (As := [.int i_2, .int (0 : Int32), .int (1 : Int32)]) (rest := [.ref (q 0)]) ⟨hx, hb, hml, hown, hts⟩ (tX10_in l Γ lo S q M Y  hc11) (va_cwS 3 hts gX10_parts_X10_in rfl rfl rfl (by decide +kernel) ⟨Nat.le_of_ble_eq_true rfl, Nat.le_of_ble_eq_true rfl⟩) hKK hW hS rfl hl.1 rfl (Nat.le_of_ble_eq_true rfl) dX10_parts_15 ⟨Nat.zero_le _, Nat.zero_le _⟩ (fun H locs hW hS hm1 hE => ?_)
    have b12 := hE
    refine lv_if_eq (tgt := 25) hx hb dX10_parts_18 (by decide) (fun k18 => ?_) (fun k18 => ?_)
    · have hf := (op_if hf).1 k18
      refine lv_iconst (v := (2)) hx hb dX10_parts_25 (by decide) ?_
      exact hj5 (2 : Int32) H locs ls  (lv_sub hl [0, 1, 2] rfl) hW hS hm hf
    · have hf := (op_if hf).2 k18
      refine lv_iconst (v := (0)) hx hb dX10_parts_21 (by decide) ?_
      refine lv_goto (tgt := 26) hx hb dX10_parts_22 (by decide) ?_
      exact hj5 (0 : Int32) H locs ls  (lv_sub hl [0, 1, 2] rfl) hW hS hm hf
  · have hf := (op_if hf).1 k5
    refine lv_iconst (v := (1)) hx hb dX10_parts_8 (by decide) ?_
    refine lv_goto (tgt := 26) hx hb dX10_parts_9 (by decide) ?_
    exact hj5 (1 : Int32) H locs ls  (lv_sub hl [0, 1, 2] rfl) hW hS hm hf

theorem ni_X10_isBad_X10 : ∀ w ∈ wsX100, w ∈ wsX10_isBad := by decide +kernel
def fX10_isBad (M : zMs) (i_1 : Int32) (i_2 : Int32) : Option Int32 :=
if i_2 = 0 then
gd (¬ (i_1 < 0 ∨ 48 ≤ i_1.toNatClampNeg)) (
if (M 16 i_1.toNatClampNeg) = (-1 : Int32) then
some ((0 : Int32))
else
some ((1 : Int32)))
else
gd (¬ (i_1 < 0 ∨ 48 ≤ i_1.toNatClampNeg)) (
if (M 15 i_1.toNatClampNeg) < (40 : Int32) then
some ((0 : Int32))
else
some ((1 : Int32)))
abbrev rmX10_isBad : Room := { frames := 0, cells := 0, slots := 0, locals := 0 }
set_option maxHeartbeats 4000000 in
set_option maxRecDepth 100000 in
theorem tX10_isBad (l : Launch) (Γ : zG) (lo : zId → Nat) (S : zSt) (q : Nat → Nat) (M : zMs) (Y : va_W) {i_1 : Int32} {i_2 : Int32}  {y : Int32} (hf : fX10_isBad M i_1 i_2 = some y) : Met l yX10_isBad wsX10_isBad rmX10_isBad (zP0 Γ lo S (mcl Γ q M ++ Y) [.ref (q 0), .int i_1, .int i_2]) (zQ0 Γ lo S S (mcl Γ q M ++ Y) (some (.int y)) (y = 0 ∨ y = 1)) 0 0 (zA Γ) := by
  refine Met.ofW (cc := cX10_isBad) (maxL := 3) (ret := (some .boolean)) (by decide) rfl ?_
  intro p e s m args below meth c s₁ B hml hv
  obtain ⟨rfl, hW, hKK⟩ := hv
  have hx := B.exec
  have hb := B.bytes
  have hr := B.returns
  have hts := atoms_spec (ws := wsX10_isBad) B.pre
  have hown : s.vm.findClass RX10 = some m.cls := findClass_of_methodNamed B.named
  have hlocks := B.notSynchronized
  have hS : va_S (zA Γ) s.heap s.heap [] := va_S.rf
  have hm : ∀ c, zV S c = zV S c := fun _ => rfl
  have hl := lv_entry ([.ref (q 0), .int i_1, .int i_2]) (n := 3) (Nat.le_of_ble_eq_true rfl)
  rw [lg_entry_eq]
  generalize (lg_sl ([.ref (q 0), .int i_1, .int i_2]) ++ List.replicate (3 - (lg_sl ([.ref (q 0), .int i_1, .int i_2])).length) Slot.unset).toArray = ls at hl ⊢
  have hl : lv_has ls 3 [(0, .ref (q 0)), (1, .int i_1), (2, .int i_2)] := hl
  obtain ⟨H, hH0⟩ : ∃ H, H = s.heap := ⟨_, rfl⟩
  obtain ⟨locs, hlo0⟩ : ∃ L : List Loc, L = [] := ⟨_, rfl⟩
  have hS : va_S (zA Γ) s.heap H locs := by rw [hH0, hlo0]; exact hS
  have hW : Wd Γ lo S (mcl Γ q M ++ Y) H := by rw [hH0]; exact hW
  rw [← hH0, ← hlo0]
  unfold fX10_isBad at hf
  refine lv_iload_n hx hb dX10_isBad_0 rfl (lv_at hl 2 rfl) ?_
  refine lv_if_ne (tgt := 22) hx hb dX10_isBad_1 (by decide) (fun k1 => ?_) (fun k1 => ?_)
  · have hf := (op_if hf).2 k1
    refine lv_aload_n hx hb dX10_isBad_22 rfl (lv_at hl 0 rfl) ?_
    refine va_get hx hb hts ni_X10_isBad_X10 hown hKK.1 (wd_x hW (k := 0) rfl) 0 rfl rfl 15 (by decide) (hts (.fieldLink RX10 49 "TiltRouteModel" "wears" "[I") (List.mem_of_getElem? (i := 2) rfl)) (fun _ h => h) rfl dX10_isBad_23 ?_
    refine lv_iload_n hx hb dX10_isBad_26 rfl (lv_at hl 1 rfl) ?_
    obtain ⟨h27, hf⟩ := op_gd hf
    refine va_iald hx hb hKK.1 (wd_x hW (k := 14) rfl) 0 0 (n := 48) rfl rfl h27 dX10_isBad_27 ?_
    refine lv_bipush (v := (40)) hx hb dX10_isBad_28 (by decide) ?_
    refine lv_icmp_lt (tgt := 37) hx hb dX10_isBad_30 (by decide) (fun k30 => ?_) (fun k30 => ?_)
    · have hf := (op_if hf).1 k30
      refine lv_iconst (v := (0)) hx hb dX10_isBad_37 (by decide) ?_
      have hf := Option.some.inj hf
      rw [← hf]
      exact z_iret hx hb hr hlocks (z_bb (Or.inl rfl)) hW hS hm (Or.inl rfl) dX10_isBad_38
    · have hf := (op_if hf).2 k30
      refine lv_iconst (v := (1)) hx hb dX10_isBad_33 (by decide) ?_
      refine lv_goto (tgt := 38) hx hb dX10_isBad_34 (by decide) ?_
      have hf := Option.some.inj hf
      rw [← hf]
      exact z_iret hx hb hr hlocks (z_bb (Or.inr rfl)) hW hS hm (Or.inr rfl) dX10_isBad_38
  · have hf := (op_if hf).1 k1
    refine lv_aload_n hx hb dX10_isBad_4 rfl (lv_at hl 0 rfl) ?_
    refine va_get hx hb hts ni_X10_isBad_X10 hown hKK.1 (wd_x hW (k := 0) rfl) 0 rfl rfl 16 (by decide) (hts (.fieldLink RX10 52 "TiltRouteModel" "stuck" "[I") (List.mem_of_getElem? (i := 1) rfl)) (fun _ h => h) rfl dX10_isBad_5 ?_
    refine lv_iload_n hx hb dX10_isBad_8 rfl (lv_at hl 1 rfl) ?_
    obtain ⟨h9, hf⟩ := op_gd hf
    refine va_iald hx hb hKK.1 (wd_x hW (k := 15) rfl) 0 0 (n := 48) rfl rfl h9 dX10_isBad_9 ?_
    refine lv_iconst (v := (-1)) hx hb dX10_isBad_10 (by decide) ?_
    refine lv_icmp_eq (tgt := 18) hx hb dX10_isBad_11 (by decide) (fun k11 => ?_) (fun k11 => ?_)
    · have hf := (op_if hf).1 k11
      refine lv_iconst (v := (0)) hx hb dX10_isBad_18 (by decide) ?_
      refine lv_goto (tgt := 38) hx hb dX10_isBad_19 (by decide) ?_
      have hf := Option.some.inj hf
      rw [← hf]
      exact z_iret hx hb hr hlocks (z_bb (Or.inl rfl)) hW hS hm (Or.inl rfl) dX10_isBad_38
    · have hf := (op_if hf).2 k11
      refine lv_iconst (v := (1)) hx hb dX10_isBad_14 (by decide) ?_
      refine lv_goto (tgt := 38) hx hb dX10_isBad_15 (by decide) ?_
      have hf := Option.some.inj hf
      rw [← hf]
      exact z_iret hx hb hr hlocks (z_bb (Or.inr rfl)) hW hS hm (Or.inr rfl) dX10_isBad_38

