theorem ni_X10_isOn_X10 : ∀ w ∈ wsX100, w ∈ wsX10_isOn := by decide +kernel
def fX10_isOn (M : zMs) (i_1 : Int32) : Option Int32 :=
st (0 : Int32) fun x1 =>
st (0 : Int32) fun x2 =>
lp (fun (q3 : (Int32 × Int32)) => (if (M 42 0) ≤ q3.2 then
some (.inr (q3.1))
else
st (fun (y10 : Int32) => (st y10 fun x13 =>
st (q3.2 + (1 : Int32)) fun x14 =>
some (.inl (x13, x14)) : Option ((Int32 × Int32) ⊕ Int32))) fun j12 =>
st (fun (u_ : Unit) => (j12 (1 : Int32) : Option ((Int32 × Int32) ⊕ Int32))) fun j15 =>
if q3.1 = 0 then
gd (¬ (q3.2 < 0 ∨ 3 ≤ q3.2.toNatClampNeg)) (
if (M 43 q3.2.toNatClampNeg) = i_1 then
j15 ()
else
j12 (0 : Int32))
else
j15 () : Option ((Int32 × Int32) ⊕ Int32))) 40000 (x1, x2)
abbrev rmX10_isOn : Room := { frames := 0, cells := 0, slots := 0, locals := 0 }
set_option maxHeartbeats 4000000 in
set_option maxRecDepth 100000 in
theorem tX10_isOn (l : Launch) (Γ : zG) (lo : zId → Nat) (S : zSt) (q : Nat → Nat) (M : zMs) (Y : va_W) {i_1 : Int32}  {y : Int32} (hf : fX10_isOn M i_1 = some y) : Met l yX10_isOn wsX10_isOn rmX10_isOn (zP0 Γ lo S (mcl Γ q M ++ Y) [.ref (q 0), .int i_1]) (zQ0 Γ lo S S (mcl Γ q M ++ Y) (some (.int y)) (y = 0 ∨ y = 1)) 0 0 (zA Γ) := by
  refine Met.ofW (cc := cX10_isOn) (maxL := 4) (ret := (some .boolean)) (by decide) rfl ?_
  intro p e s m args below meth c s₁ B hml hv
  obtain ⟨rfl, hW, hKK⟩ := hv
  have hx := B.exec
  have hb := B.bytes
  have hr := B.returns
  have hts := atoms_spec (ws := wsX10_isOn) B.pre
  have hown : s.vm.findClass RX10 = some m.cls := findClass_of_methodNamed B.named
  have hlocks := B.notSynchronized
  have hS : va_S (zA Γ) s.heap s.heap [] := va_S.rf
  have hm : ∀ c, zV S c = zV S c := fun _ => rfl
  have hl := lv_entry ([.ref (q 0), .int i_1]) (n := 4) (Nat.le_of_ble_eq_true rfl)
  rw [lg_entry_eq]
  generalize (lg_sl ([.ref (q 0), .int i_1]) ++ List.replicate (4 - (lg_sl ([.ref (q 0), .int i_1])).length) Slot.unset).toArray = ls at hl ⊢
  have hl : lv_has ls 4 [(0, .ref (q 0)), (1, .int i_1)] := hl
  obtain ⟨H, hH0⟩ : ∃ H, H = s.heap := ⟨_, rfl⟩
  obtain ⟨locs, hlo0⟩ : ∃ L : List Loc, L = [] := ⟨_, rfl⟩
  have hS : va_S (zA Γ) s.heap H locs := by rw [hH0, hlo0]; exact hS
  have hW : Wd Γ lo S (mcl Γ q M ++ Y) H := by rw [hH0]; exact hW
  rw [← hH0, ← hlo0]
  unfold fX10_isOn at hf
  refine lv_iconst (v := (0)) hx hb dX10_isOn_0 (by decide) ?_
  obtain ⟨x1, ex1, hf⟩ := op_st hf
  have bx1 : x1 = 0 ∨ x1 = 1 := Or.inl ex1
  refine z_istn (lv' := [(2, .int x1), (0, .ref (q 0)), (1, .int i_1)]) ex1 hx hb dX10_isOn_1 rfl hl (by decide) rfl (fun ls hl => ?_)
  refine lv_iconst (v := (0)) hx hb dX10_isOn_2 (by decide) ?_
  obtain ⟨x2, ex2, hf⟩ := op_st hf
  have bx2 : x2 = 0 ∨ x2 = 1 := Or.inl ex2
  refine z_istn (lv' := [(3, .int x2), (2, .int x1), (0, .ref (q 0)), (1, .int i_1)]) ex2 hx hb dX10_isOn_3 rfl hl (by decide) rfl (fun ls hl => ?_)
  obtain ⟨w5, q30, ew5, eq30, hf⟩ := op_lb hf
  have hw5 : ∀ n8 : Nat, ∀ (q3 : (Int32 × Int32)) (H : Heap) (locs : List Loc) (ls : Array Slot) (u9 : q3.1 = 0 ∨ q3.1 = 1), lv_has ls 4 [(3, .int q3.2), (2, .int q3.1), (0, .ref (q 0)), (1, .int i_1)] → Wd Γ lo S (mcl Γ q M ++ Y) H → va_S (zA Γ) s.heap H locs → (∀ c, zV S c = zV S c) → lp w5 n8 q3 = some y → W p l e (headSpec wsX10_isOn rmX10_isOn).room s m ([.ref (q 0), .int i_1] : List Value).toArray below meth c H locs 0 0 (MQ below (zQ0 Γ lo S S (mcl Γ q M ++ Y) (some (.int y)) (y = 0 ∨ y = 1)) ([.ref (q 0), .int i_1] : List Value).toArray s 0 0 (zA Γ)) (F0 m 4 ls []) := by
    intro n8
    induction n8 with
    | zero => intro q3 H locs ls u9 hl hW hS hm hf; cases hf
    | succ n8 ih6 =>
      intro q3 H locs ls u9 hl hW hS hm hf
      obtain ⟨n_, r4, hn_, hf, hr7⟩ := op_lq hf
      cases hn_
      rw [ew5] at hf
      refine lv_iload_n hx hb dX10_isOn_4 rfl (lv_at hl 0 rfl) ?_
      refine lv_aload_n hx hb dX10_isOn_5 rfl (lv_at hl 2 rfl) ?_
      refine va_get hx hb hts ni_X10_isOn_X10 hown hKK.1 (wd_x hW (k := 0) rfl) 0 rfl rfl 42 (by decide) (hts (.fieldLink RX10 188 "TiltRouteModel" "depth" "I") (List.mem_of_getElem? (i := 1) rfl)) (fun _ h => h) rfl dX10_isOn_6 ?_
      refine lv_icmp_ge (tgt := 38) hx hb dX10_isOn_9 (by decide) (fun k9 => ?_) (fun k9 => ?_)
      · have hf := (op_if hf).1 k9
        refine lv_iload_n hx hb dX10_isOn_38 rfl (lv_at hl 1 rfl) ?_
        have hf := zr_r hf hr7
        rw [← hf]
        exact z_iret hx hb hr hlocks (z_bb u9) hW hS hm u9 dX10_isOn_39
      · have hf := (op_if hf).2 k9
        refine lv_iload_n hx hb dX10_isOn_12 rfl (lv_at hl 1 rfl) ?_
        obtain ⟨j12, ej12, hf⟩ := op_st hf
        have hj12 : ∀ (y10 : Int32) (H : Heap) (locs : List Loc) (ls : Array Slot) (b11 : y10 = 0 ∨ y10 = 1), lv_has ls 4 [(3, .int q3.2), (0, .ref (q 0)), (1, .int i_1)] → Wd Γ lo S (mcl Γ q M ++ Y) H → va_S (zA Γ) s.heap H locs → (∀ c, zV S c = zV S c) → j12 y10 = some r4 → W p l e (headSpec wsX10_isOn rmX10_isOn).room s m ([.ref (q 0), .int i_1] : List Value).toArray below meth c H locs 0 0 (MQ below (zQ0 Γ lo S S (mcl Γ q M ++ Y) (some (.int y)) (y = 0 ∨ y = 1)) ([.ref (q 0), .int i_1] : List Value).toArray s 0 0 (zA Γ)) (F0 m 31 ls [.int y10]) := by
          intro y10 H locs ls b11 hl hW hS hm hf
          rw [ej12] at hf
          obtain ⟨x13, ex13, hf⟩ := op_st hf
          have bx13 : x13 = 0 ∨ x13 = 1 := by rw [ex13]; exact b11
          refine z_istn (lv' := [(2, .int x13), (3, .int q3.2), (0, .ref (q 0)), (1, .int i_1)]) ex13 hx hb dX10_isOn_31 rfl hl (by decide) rfl (fun ls hl => ?_)
          obtain ⟨x14, ex14, hf⟩ := op_st hf
          refine lv_iinc (v := x14) (lv' := [(3, .int x14), (2, .int x13), (0, .ref (q 0)), (1, .int i_1)]) hx hb dX10_isOn_32 hl (k := 1) rfl (by rw [ex14]; rfl) (by decide) rfl (fun ls hl => ?_)
          refine lv_goto (tgt := 4) hx hb dX10_isOn_35 (by decide) ?_
          have hf := zr_l hf hr7
          exact ih6 (x13, x14) H locs ls bx13 (lv_sub hl [0, 1, 2, 3] rfl) hW hS hm hf
        obtain ⟨j15, ej15, hf⟩ := op_st hf
        have hj15 : ∀ (u_ : Unit) (H : Heap) (locs : List Loc) (ls : Array Slot), lv_has ls 4 [(3, .int q3.2), (0, .ref (q 0)), (1, .int i_1)] → Wd Γ lo S (mcl Γ q M ++ Y) H → va_S (zA Γ) s.heap H locs → (∀ c, zV S c = zV S c) → j15 () = some r4 → W p l e (headSpec wsX10_isOn rmX10_isOn).room s m ([.ref (q 0), .int i_1] : List Value).toArray below meth c H locs 0 0 (MQ below (zQ0 Γ lo S S (mcl Γ q M ++ Y) (some (.int y)) (y = 0 ∨ y = 1)) ([.ref (q 0), .int i_1] : List Value).toArray s 0 0 (zA Γ)) (F0 m 26 ls []) := by
          intro u_ H locs ls  hl hW hS hm hf
          rw [ej15] at hf
          refine lv_iconst (v := (1)) hx hb dX10_isOn_26 (by decide) ?_
          refine lv_goto (tgt := 31) hx hb dX10_isOn_27 (by decide) ?_
          exact hj12 (1 : Int32) H locs ls (Or.inr rfl) (lv_sub hl [0, 1, 2] rfl) hW hS hm hf
        refine lv_if_ne (tgt := 26) hx hb dX10_isOn_13 (by decide) (fun k13 => ?_) (fun k13 => ?_)
        · have hf := (op_if hf).2 k13
          exact hj15 () H locs ls  (lv_sub hl [0, 2, 3] rfl) hW hS hm hf
        · have hf := (op_if hf).1 k13
          refine lv_aload_n hx hb dX10_isOn_16 rfl (lv_at hl 2 rfl) ?_
          refine va_get hx hb hts ni_X10_isOn_X10 hown hKK.1 (wd_x hW (k := 0) rfl) 0 rfl rfl 43 (by decide) (hts (.fieldLink RX10 120 "TiltRouteModel" "stack" "[I") (List.mem_of_getElem? (i := 2) rfl)) (fun _ h => h) rfl dX10_isOn_17 ?_
          refine lv_iload_n hx hb dX10_isOn_20 rfl (lv_at hl 0 rfl) ?_
          obtain ⟨h21, hf⟩ := op_gd hf
          refine va_iald hx hb hKK.1 (wd_x hW (k := 37) rfl) 0 0 (n := 3) rfl rfl h21 dX10_isOn_21 ?_
          refine lv_iload_n hx hb dX10_isOn_22 rfl (lv_at hl 3 rfl) ?_
          refine lv_icmp_ne (tgt := 30) hx hb dX10_isOn_23 (by decide) (fun k23 => ?_) (fun k23 => ?_)
          · have hf := (op_if hf).2 k23
            refine lv_iconst (v := (0)) hx hb dX10_isOn_30 (by decide) ?_
            exact hj12 (0 : Int32) H locs ls (Or.inl rfl) (lv_sub hl [0, 2, 3] rfl) hW hS hm hf
          · have hf := (op_if hf).1 k23
            exact hj15 () H locs ls  (lv_sub hl [0, 2, 3] rfl) hW hS hm hf
  rw [eq30] at hf
  exact hw5 _ (x1, x2) H locs ls bx1 (lv_sub hl [0, 1, 2, 3] rfl) hW hS hm hf

theorem ni_X10_close_X10 : ∀ w ∈ wsX100, w ∈ wsX10_close := by decide +kernel
def fX10_close (M : zMs) (i_1 : Int32) : Option zMs :=
st (fun (y1 : Int32) => (st y1 fun x3 =>
st (fun (y4 : Int32) => (st y4 fun x6 =>
gd (¬ ((((8 : Int32) * (M 40 0)) + i_1) < 0 ∨ 320 ≤ (((8 : Int32) * (M 40 0)) + i_1).toNatClampNeg)) (
st (pM M 41 0 ((M 41 0) + (x6 * (M 28 (((8 : Int32) * (M 40 0)) + i_1).toNatClampNeg)))) fun M7 =>
st (fun (S8 : zMs) => (st (0 : Int32) fun x10 =>
lp (fun (q11 : (Int32)) => (if (4 : Int32) ≤ q11 then
some (.inr (S8))
else
if (3 : Int32) ≤ (S8 42 0) then
some (.inr (S8))
else
gd (¬ ((((4 : Int32) * (S8 40 0)) + q11) < 0 ∨ 160 ≤ (((4 : Int32) * (S8 40 0)) + q11).toNatClampNeg)) (
st (fun (u_ : Unit) => (st (q11 + (1 : Int32)) fun x18 =>
some (.inl (x18)) : Option ((Int32) ⊕ zMs))) fun j17 =>
if (S8 29 (((4 : Int32) * (S8 40 0)) + q11).toNatClampNeg) = i_1 then
cl (fX10_isOn S8 q11) fun r19 =>
if r19 = 0 then
gd (¬ ((S8 42 0) < 0 ∨ 3 ≤ (S8 42 0).toNatClampNeg)) (
st (pM S8 43 (S8 42 0).toNatClampNeg q11) fun M22 =>
gd (¬ ((M22 42 0) < 0 ∨ 3 ≤ (M22 42 0).toNatClampNeg)) (
st (pM M22 44 (M22 42 0).toNatClampNeg (0 : Int32)) fun M23 =>
st (pM M23 42 0 ((M23 42 0) + (1 : Int32))) fun M24 =>
some (.inr (M24))))
else
j17 ()
else
j17 ()) : Option ((Int32) ⊕ zMs))) 40000 (x10) : Option zMs)) fun j9 =>
if (M7 42 0) ≤ 0 then
j9 M7
else
gd (¬ (((M7 42 0) - (1 : Int32)) < 0 ∨ 3 ≤ ((M7 42 0) - (1 : Int32)).toNatClampNeg)) (
gd (¬ (((M7 42 0) - (1 : Int32)) < 0 ∨ 3 ≤ ((M7 42 0) - (1 : Int32)).toNatClampNeg)) (
st (pM M7 44 ((M7 42 0) - (1 : Int32)).toNatClampNeg ((M7 44 ((M7 42 0) - (1 : Int32)).toNatClampNeg) + (1 : Int32))) fun M25 =>
gd (¬ (x3 < 0 ∨ 160 ≤ x3.toNatClampNeg)) (
st (fun (u_ : Unit) => (gd (¬ (x3 < 0 ∨ 160 ≤ x3.toNatClampNeg)) (
st (pM M25 41 0 ((M25 41 0) + (M25 33 x3.toNatClampNeg))) fun M27 =>
st (pM M27 42 0 ((M27 42 0) - (1 : Int32))) fun M28 =>
some (M28)) : Option zMs)) fun j26 =>
if i_1 = (M25 30 x3.toNatClampNeg) then
j26 ()
else
gd (¬ (((M25 42 0) - (1 : Int32)) < 0 ∨ 3 ≤ ((M25 42 0) - (1 : Int32)).toNatClampNeg)) (
gd (¬ (x3 < 0 ∨ 160 ≤ x3.toNatClampNeg)) (
if (M25 44 ((M25 42 0) - (1 : Int32)).toNatClampNeg) = (M25 31 x3.toNatClampNeg) then
j26 ()
else
j9 M25)))))) : Option zMs)) fun j5 =>
if (M 42 0) = 0 then
j5 (1 : Int32)
else
gd (¬ (x3 < 0 ∨ 160 ≤ x3.toNatClampNeg)) (
j5 (M 32 x3.toNatClampNeg)) : Option zMs)) fun j2 =>
if (M 42 0) = 0 then
j2 (-1 : Int32)
else
gd (¬ (((M 42 0) - (1 : Int32)) < 0 ∨ 3 ≤ ((M 42 0) - (1 : Int32)).toNatClampNeg)) (
j2 (((4 : Int32) * (M 40 0)) + (M 43 ((M 42 0) - (1 : Int32)).toNatClampNeg)))
abbrev rmX10_close : Room := { frames := 1, cells := 0, slots := 0, locals := 23 }
set_option maxHeartbeats 4000000 in
set_option maxRecDepth 100000 in
theorem tX10_close (l : Launch) (Γ : zG) (lo : zId → Nat) (S : zSt) (q : Nat → Nat) (M : zMs) (Y : va_W) {i_1 : Int32}  {y : zMs} (hf : fX10_close M i_1 = some y) : Met l yX10_close wsX10_close rmX10_close (zP0 Γ lo S (mcl Γ q M ++ Y) [.ref (q 0), .int i_1]) (zQ0 Γ lo S S (mcl Γ q y ++ Y) none True) 0 0 (zA Γ) := by
  refine Met.ofW (cc := cX10_close) (maxL := 5) (ret := none) (by decide) rfl ?_
  intro p e s m args below meth c s₁ B hml hv
  obtain ⟨rfl, hW, hKK⟩ := hv
  have hx := B.exec
  have hb := B.bytes
  have hr := B.returns
  have hts := atoms_spec (ws := wsX10_close) B.pre
  have hown : s.vm.findClass RX10 = some m.cls := findClass_of_methodNamed B.named
  have hlocks := B.notSynchronized
  have hS : va_S (zA Γ) s.heap s.heap [] := va_S.rf
  have hm : ∀ c, zV S c = zV S c := fun _ => rfl
  have hl := lv_entry ([.ref (q 0), .int i_1]) (n := 5) (Nat.le_of_ble_eq_true rfl)
  rw [lg_entry_eq]
  generalize (lg_sl ([.ref (q 0), .int i_1]) ++ List.replicate (5 - (lg_sl ([.ref (q 0), .int i_1])).length) Slot.unset).toArray = ls at hl ⊢
  have hl : lv_has ls 5 [(0, .ref (q 0)), (1, .int i_1)] := hl
  obtain ⟨H, hH0⟩ : ∃ H, H = s.heap := ⟨_, rfl⟩
  obtain ⟨locs, hlo0⟩ : ∃ L : List Loc, L = [] := ⟨_, rfl⟩
  have hS : va_S (zA Γ) s.heap H locs := by rw [hH0, hlo0]; exact hS
  have hW : Wd Γ lo S (mcl Γ q M ++ Y) H := by rw [hH0]; exact hW
  rw [← hH0, ← hlo0]
  unfold fX10_close at hf
  refine lv_aload_n hx hb dX10_close_0 rfl (lv_at hl 0 rfl) ?_
  refine va_get hx hb hts ni_X10_close_X10 hown hKK.1 (wd_x hW (k := 0) rfl) 0 rfl rfl 42 (by decide) (hts (.fieldLink RX10 188 "TiltRouteModel" "depth" "I") (List.mem_of_getElem? (i := 1) rfl)) (fun _ h => h) rfl dX10_close_1 ?_
  obtain ⟨j2, ej2, hf⟩ := op_st hf
  have hj2 : ∀ (y1 : Int32) (H : Heap) (locs : List Loc) (ls : Array Slot), lv_has ls 5 [(0, .ref (q 0)), (1, .int i_1)] → Wd Γ lo S (mcl Γ q M ++ Y) H → va_S (zA Γ) s.heap H locs → (∀ c, zV S c = zV S c) → j2 y1 = some y → W p l e (headSpec wsX10_close rmX10_close).room s m ([.ref (q 0), .int i_1] : List Value).toArray below meth c H locs 0 0 (MQ below (zQ0 Γ lo S S (mcl Γ q y ++ Y) none True) ([.ref (q 0), .int i_1] : List Value).toArray s 0 0 (zA Γ)) (F0 m 29 ls [.int y1]) := by
    intro y1 H locs ls  hl hW hS hm hf
    rw [ej2] at hf
    obtain ⟨x3, ex3, hf⟩ := op_st hf
    refine z_istn (lv' := [(2, .int x3), (0, .ref (q 0)), (1, .int i_1)]) ex3 hx hb dX10_close_29 rfl hl (by decide) rfl (fun ls hl => ?_)
    refine lv_aload_n hx hb dX10_close_30 rfl (lv_at hl 1 rfl) ?_
    refine va_get hx hb hts ni_X10_close_X10 hown hKK.1 (wd_x hW (k := 0) rfl) 0 rfl rfl 42 (by decide) (hts (.fieldLink RX10 188 "TiltRouteModel" "depth" "I") (List.mem_of_getElem? (i := 1) rfl)) (fun _ h => h) rfl dX10_close_31 ?_
    obtain ⟨j5, ej5, hf⟩ := op_st hf
    have hj5 : ∀ (y4 : Int32) (H : Heap) (locs : List Loc) (ls : Array Slot), lv_has ls 5 [(2, .int x3), (0, .ref (q 0)), (1, .int i_1)] → Wd Γ lo S (mcl Γ q M ++ Y) H → va_S (zA Γ) s.heap H locs → (∀ c, zV S c = zV S c) → j5 y4 = some y → W p l e (headSpec wsX10_close rmX10_close).room s m ([.ref (q 0), .int i_1] : List Value).toArray below meth c H locs 0 0 (MQ below (zQ0 Γ lo S S (mcl Γ q y ++ Y) none True) ([.ref (q 0), .int i_1] : List Value).toArray s 0 0 (zA Γ)) (F0 m 47 ls [.int y4]) := by
      intro y4 H locs ls  hl hW hS hm hf
      rw [ej5] at hf
      obtain ⟨x6, ex6, hf⟩ := op_st hf
      refine z_istn (lv' := [(3, .int x6), (2, .int x3), (0, .ref (q 0)), (1, .int i_1)]) ex6 hx hb dX10_close_47 rfl hl (by decide) rfl (fun ls hl => ?_)
      refine lv_aload_n hx hb dX10_close_48 rfl (lv_at hl 2 rfl) ?_
      refine lv_dup hx hb dX10_close_49 rfl ?_
      refine va_get hx hb hts ni_X10_close_X10 hown hKK.1 (wd_x hW (k := 0) rfl) 0 rfl rfl 41 (by decide) (hts (.fieldLink RX10 194 "TiltRouteModel" "score" "I") (List.mem_of_getElem? (i := 5) rfl)) (fun _ h => h) rfl dX10_close_50 ?_
      refine lv_iload_n hx hb dX10_close_53 rfl (lv_at hl 0 rfl) ?_
      refine lv_aload_n hx hb dX10_close_54 rfl (lv_at hl 2 rfl) ?_
      refine va_get hx hb hts ni_X10_close_X10 hown hKK.1 (wd_x hW (k := 0) rfl) 0 rfl rfl 28 (by decide) (hts (.fieldLink RX10 83 "TiltRouteModel" "ownPoints" "[I") (List.mem_of_getElem? (i := 6) rfl)) (fun _ h => h) rfl dX10_close_55 ?_
      refine lv_bipush (v := (8)) hx hb dX10_close_58 (by decide) ?_
      refine lv_aload_n hx hb dX10_close_60 rfl (lv_at hl 2 rfl) ?_
      refine va_get hx hb hts ni_X10_close_X10 hown hKK.1 (wd_x hW (k := 0) rfl) 0 rfl rfl 40 (by decide) (hts (.fieldLink RX10 191 "TiltRouteModel" "played" "I") (List.mem_of_getElem? (i := 2) rfl)) (fun _ h => h) rfl dX10_close_61 ?_
      refine lv_imul hx hb dX10_close_64 ?_
      refine lv_iload_n hx hb dX10_close_65 rfl (lv_at hl 3 rfl) ?_
      refine lv_iadd hx hb dX10_close_66 ?_
      obtain ⟨h67, hf⟩ := op_gd hf
      refine va_iald hx hb hKK.1 (wd_x hW (k := 25) rfl) 0 0 (n := 320) rfl rfl h67 dX10_close_67 ?_
      refine lv_imul hx hb dX10_close_68 ?_
      refine lv_iadd hx hb dX10_close_69 ?_
      obtain ⟨M7, eM7, hf⟩ := op_st hf
      refine m_put hx hb hts ni_X10_close_X10 hown hKK.1 hW hS 41 (by decide) (hts (.fieldLink RX10 194 "TiltRouteModel" "score" "I") (List.mem_of_getElem? (i := 5) rfl)) rfl rfl rfl eM7 (ms_41 Γ q _ Y _) dX10_close_70 (fun H locs hW hS => ?_)
      refine lv_aload_n hx hb dX10_close_73 rfl (lv_at hl 2 rfl) ?_
      refine va_get hx hb hts ni_X10_close_X10 hown hKK.1 (wd_x hW (k := 0) rfl) 0 rfl rfl 42 (by decide) (hts (.fieldLink RX10 188 "TiltRouteModel" "depth" "I") (List.mem_of_getElem? (i := 1) rfl)) (fun _ h => h) rfl dX10_close_74 ?_
      obtain ⟨j9, ej9, hf⟩ := op_st hf
      have hj9 : ∀ (S8 : zMs) (H : Heap) (locs : List Loc) (ls : Array Slot), lv_has ls 5 [(0, .ref (q 0)), (1, .int i_1)] → Wd Γ lo S (mcl Γ q S8 ++ Y) H → va_S (zA Γ) s.heap H locs → (∀ c, zV S c = zV S c) → j9 S8 = some y → W p l e (headSpec wsX10_close rmX10_close).room s m ([.ref (q 0), .int i_1] : List Value).toArray below meth c H locs 0 0 (MQ below (zQ0 Γ lo S S (mcl Γ q y ++ Y) none True) ([.ref (q 0), .int i_1] : List Value).toArray s 0 0 (zA Γ)) (F0 m 151 ls []) := by
        intro S8 H locs ls  hl hW hS hm hf
        rw [ej9] at hf
        refine lv_iconst (v := (0)) hx hb dX10_close_151 (by decide) ?_
        obtain ⟨x10, ex10, hf⟩ := op_st hf
        have bx10 : x10 = 0 ∨ x10 = 1 := Or.inl ex10
        refine z_ist (lv' := [(4, .int x10), (0, .ref (q 0)), (1, .int i_1)]) ex10 hx hb dX10_close_152 hl (by decide) rfl (fun ls hl => ?_)
        obtain ⟨w13, q110, ew13, eq110, hf⟩ := op_lb hf
        have hw13 : ∀ n16 : Nat, ∀ (q11 : (Int32)) (H : Heap) (locs : List Loc) (ls : Array Slot), lv_has ls 5 [(4, .int q11), (0, .ref (q 0)), (1, .int i_1)] → Wd Γ lo S (mcl Γ q S8 ++ Y) H → va_S (zA Γ) s.heap H locs → (∀ c, zV S c = zV S c) → lp w13 n16 q11 = some y → W p l e (headSpec wsX10_close rmX10_close).room s m ([.ref (q 0), .int i_1] : List Value).toArray below meth c H locs 0 0 (MQ below (zQ0 Γ lo S S (mcl Γ q y ++ Y) none True) ([.ref (q 0), .int i_1] : List Value).toArray s 0 0 (zA Γ)) (F0 m 154 ls []) := by
          intro n16
          induction n16 with
          | zero => intro q11 H locs ls hl hW hS hm hf; cases hf
          | succ n16 ih14 =>
            intro q11 H locs ls hl hW hS hm hf
            obtain ⟨n_, r12, hn_, hf, hr15⟩ := op_lq hf
            cases hn_
            rw [ew13] at hf
            refine lv_iload hx hb dX10_close_154 (lv_at hl 0 rfl) ?_
            refine lv_iconst (v := (4)) hx hb dX10_close_156 (by decide) ?_
            refine lv_icmp_ge (tgt := 233) hx hb dX10_close_157 (by decide) (fun k157 => ?_) (fun k157 => ?_)
            · have hf := (op_if hf).1 k157
              have hf := zr_r hf hr15
              rw [← hf]
              exact z_vret hx hb hr hlocks hW hS hm trivial dX10_close_233
            · have hf := (op_if hf).2 k157
              refine lv_aload_n hx hb dX10_close_160 rfl (lv_at hl 1 rfl) ?_
              refine va_get hx hb hts ni_X10_close_X10 hown hKK.1 (wd_x hW (k := 0) rfl) 0 rfl rfl 42 (by decide) (hts (.fieldLink RX10 188 "TiltRouteModel" "depth" "I") (List.mem_of_getElem? (i := 1) rfl)) (fun _ h => h) rfl dX10_close_161 ?_
              refine lv_iconst (v := (3)) hx hb dX10_close_164 (by decide) ?_
              refine lv_icmp_ge (tgt := 233) hx hb dX10_close_165 (by decide) (fun k165 => ?_) (fun k165 => ?_)
              · have hf := (op_if hf).1 k165
                have hf := zr_r hf hr15
                rw [← hf]
                exact z_vret hx hb hr hlocks hW hS hm trivial dX10_close_233
              · have hf := (op_if hf).2 k165
                refine lv_aload_n hx hb dX10_close_168 rfl (lv_at hl 1 rfl) ?_
                refine va_get hx hb hts ni_X10_close_X10 hown hKK.1 (wd_x hW (k := 0) rfl) 0 rfl rfl 29 (by decide) (hts (.fieldLink RX10 86 "TiltRouteModel" "ownBegins" "[I") (List.mem_of_getElem? (i := 11) rfl)) (fun _ h => h) rfl dX10_close_169 ?_
                refine lv_iconst (v := (4)) hx hb dX10_close_172 (by decide) ?_
                refine lv_aload_n hx hb dX10_close_173 rfl (lv_at hl 1 rfl) ?_
                refine va_get hx hb hts ni_X10_close_X10 hown hKK.1 (wd_x hW (k := 0) rfl) 0 rfl rfl 40 (by decide) (hts (.fieldLink RX10 191 "TiltRouteModel" "played" "I") (List.mem_of_getElem? (i := 2) rfl)) (fun _ h => h) rfl dX10_close_174 ?_
                refine lv_imul hx hb dX10_close_177 ?_
                refine lv_iload hx hb dX10_close_178 (lv_at hl 0 rfl) ?_
                refine lv_iadd hx hb dX10_close_180 ?_
                obtain ⟨h181, hf⟩ := op_gd hf
                refine va_iald hx hb hKK.1 (wd_x hW (k := 26) rfl) 0 0 (n := 160) rfl rfl h181 dX10_close_181 ?_
                refine lv_iload_n hx hb dX10_close_182 rfl (lv_at hl 2 rfl) ?_
                obtain ⟨j17, ej17, hf⟩ := op_st hf
                have hj17 : ∀ (u_ : Unit) (H : Heap) (locs : List Loc) (ls : Array Slot), lv_has ls 5 [(4, .int q11), (0, .ref (q 0)), (1, .int i_1)] → Wd Γ lo S (mcl Γ q S8 ++ Y) H → va_S (zA Γ) s.heap H locs → (∀ c, zV S c = zV S c) → j17 () = some r12 → W p l e (headSpec wsX10_close rmX10_close).room s m ([.ref (q 0), .int i_1] : List Value).toArray below meth c H locs 0 0 (MQ below (zQ0 Γ lo S S (mcl Γ q y ++ Y) none True) ([.ref (q 0), .int i_1] : List Value).toArray s 0 0 (zA Γ)) (F0 m 227 ls []) := by
                  intro u_ H locs ls  hl hW hS hm hf
                  rw [ej17] at hf
                  obtain ⟨x18, ex18, hf⟩ := op_st hf
                  refine lv_iinc (v := x18) (lv' := [(4, .int x18), (0, .ref (q 0)), (1, .int i_1)]) hx hb dX10_close_227 hl (k := 0) rfl (by rw [ex18]; rfl) (by decide) rfl (fun ls hl => ?_)
                  refine lv_goto (tgt := 154) hx hb dX10_close_230 (by decide) ?_
                  have hf := zr_l hf hr15
                  exact ih14 (x18) H locs ls (lv_sub hl [0, 1, 2] rfl) hW hS hm hf
                refine lv_icmp_ne (tgt := 227) hx hb dX10_close_183 (by decide) (fun k183 => ?_) (fun k183 => ?_)
                · have hf := (op_if hf).2 k183
                  exact hj17 () H locs ls  (lv_sub hl [0, 1, 2] rfl) hW hS hm hf
                · have hf := (op_if hf).1 k183
                  refine lv_aload_n hx hb dX10_close_186 rfl (lv_at hl 1 rfl) ?_
                  refine lv_iload hx hb dX10_close_187 (lv_at hl 0 rfl) ?_
                  obtain ⟨r19, hc20, hf⟩ := op_cl hf
                  refine z_callV (As := [.int q11]) (rest := []) ⟨hx, hb, hml, hown, hts⟩ (tX10_isOn l Γ lo S q S8 Y  hc20) (cwV 1 hts gX10_close_X10_isOn rfl rfl rfl (by decide +kernel) ⟨Nat.le_of_ble_eq_true rfl, Nat.le_of_ble_eq_true rfl⟩) (wd_x hW (k := 0) rfl) rfl hKK hW hS rfl hl.1 rfl (Nat.le_of_ble_eq_true rfl) dX10_close_189 ⟨Nat.zero_le _, Nat.zero_le _⟩ (fun H locs hW hS hm1 hE => ?_)
                  have b21 := hE
                  refine lv_if_ne (tgt := 227) hx hb dX10_close_192 (by decide) (fun k192 => ?_) (fun k192 => ?_)
                  · have hf := (op_if hf).2 k192
                    exact hj17 () H locs ls  (lv_sub hl [0, 1, 2] rfl) hW hS hm hf
                  · have hf := (op_if hf).1 k192
                    refine lv_aload_n hx hb dX10_close_195 rfl (lv_at hl 1 rfl) ?_
                    refine va_get hx hb hts ni_X10_close_X10 hown hKK.1 (wd_x hW (k := 0) rfl) 0 rfl rfl 43 (by decide) (hts (.fieldLink RX10 120 "TiltRouteModel" "stack" "[I") (List.mem_of_getElem? (i := 3) rfl)) (fun _ h => h) rfl dX10_close_196 ?_
                    refine lv_aload_n hx hb dX10_close_199 rfl (lv_at hl 1 rfl) ?_
                    refine va_get hx hb hts ni_X10_close_X10 hown hKK.1 (wd_x hW (k := 0) rfl) 0 rfl rfl 42 (by decide) (hts (.fieldLink RX10 188 "TiltRouteModel" "depth" "I") (List.mem_of_getElem? (i := 1) rfl)) (fun _ h => h) rfl dX10_close_200 ?_
                    refine lv_iload hx hb dX10_close_203 (lv_at hl 0 rfl) ?_
                    obtain ⟨h205, hf⟩ := op_gd hf
                    obtain ⟨M22, eM22, hf⟩ := op_st hf
                    refine m_iast hx hb hKK.1 hW hS 43 37 3 rfl h205 eM22 (ms_43 Γ q _ Y _ _) dX10_close_205 (fun H locs hW hS => ?_)
                    refine lv_aload_n hx hb dX10_close_206 rfl (lv_at hl 1 rfl) ?_
                    refine va_get hx hb hts ni_X10_close_X10 hown hKK.1 (wd_x hW (k := 0) rfl) 0 rfl rfl 44 (by decide) (hts (.fieldLink RX10 123 "TiltRouteModel" "hit" "[I") (List.mem_of_getElem? (i := 7) rfl)) (fun _ h => h) rfl dX10_close_207 ?_
                    refine lv_aload_n hx hb dX10_close_210 rfl (lv_at hl 1 rfl) ?_
                    refine va_get hx hb hts ni_X10_close_X10 hown hKK.1 (wd_x hW (k := 0) rfl) 0 rfl rfl 42 (by decide) (hts (.fieldLink RX10 188 "TiltRouteModel" "depth" "I") (List.mem_of_getElem? (i := 1) rfl)) (fun _ h => h) rfl dX10_close_211 ?_
                    refine lv_iconst (v := (0)) hx hb dX10_close_214 (by decide) ?_
                    obtain ⟨h215, hf⟩ := op_gd hf
                    obtain ⟨M23, eM23, hf⟩ := op_st hf
                    refine m_iast hx hb hKK.1 hW hS 44 38 3 rfl h215 eM23 (ms_44 Γ q _ Y _ _) dX10_close_215 (fun H locs hW hS => ?_)
                    refine lv_aload_n hx hb dX10_close_216 rfl (lv_at hl 1 rfl) ?_
                    refine lv_dup hx hb dX10_close_217 rfl ?_
                    refine va_get hx hb hts ni_X10_close_X10 hown hKK.1 (wd_x hW (k := 0) rfl) 0 rfl rfl 42 (by decide) (hts (.fieldLink RX10 188 "TiltRouteModel" "depth" "I") (List.mem_of_getElem? (i := 1) rfl)) (fun _ h => h) rfl dX10_close_218 ?_
                    refine lv_iconst (v := (1)) hx hb dX10_close_221 (by decide) ?_
                    refine lv_iadd hx hb dX10_close_222 ?_
                    obtain ⟨M24, eM24, hf⟩ := op_st hf
                    refine m_put hx hb hts ni_X10_close_X10 hown hKK.1 hW hS 42 (by decide) (hts (.fieldLink RX10 188 "TiltRouteModel" "depth" "I") (List.mem_of_getElem? (i := 1) rfl)) rfl rfl rfl eM24 (ms_42 Γ q _ Y _) dX10_close_223 (fun H locs hW hS => ?_)
                    have hf := zr_r hf hr15
                    rw [← hf]
                    exact z_vret hx hb hr hlocks hW hS hm trivial dX10_close_226
        rw [eq110] at hf
        exact hw13 _ (x10) H locs ls (lv_sub hl [0, 1, 2] rfl) hW hS hm hf
      refine lv_if_le (tgt := 151) hx hb dX10_close_77 (by decide) (fun k77 => ?_) (fun k77 => ?_)
      · have hf := (op_if hf).1 k77
        exact hj9 M7 H locs ls  (lv_sub hl [2, 3] rfl) hW hS hm hf
      · have hf := (op_if hf).2 k77
        refine lv_aload_n hx hb dX10_close_80 rfl (lv_at hl 2 rfl) ?_
        refine va_get hx hb hts ni_X10_close_X10 hown hKK.1 (wd_x hW (k := 0) rfl) 0 rfl rfl 44 (by decide) (hts (.fieldLink RX10 123 "TiltRouteModel" "hit" "[I") (List.mem_of_getElem? (i := 7) rfl)) (fun _ h => h) rfl dX10_close_81 ?_
        refine lv_aload_n hx hb dX10_close_84 rfl (lv_at hl 2 rfl) ?_
        refine va_get hx hb hts ni_X10_close_X10 hown hKK.1 (wd_x hW (k := 0) rfl) 0 rfl rfl 42 (by decide) (hts (.fieldLink RX10 188 "TiltRouteModel" "depth" "I") (List.mem_of_getElem? (i := 1) rfl)) (fun _ h => h) rfl dX10_close_85 ?_
        refine lv_iconst (v := (1)) hx hb dX10_close_88 (by decide) ?_
        refine lv_isub hx hb dX10_close_89 ?_
        refine lv_dup2_11 hx hb dX10_close_90 rfl rfl ?_
        obtain ⟨h91, hf⟩ := op_gd hf
        refine va_iald hx hb hKK.1 (wd_x hW (k := 38) rfl) 0 0 (n := 3) rfl rfl h91 dX10_close_91 ?_
        refine lv_iconst (v := (1)) hx hb dX10_close_92 (by decide) ?_
        refine lv_iadd hx hb dX10_close_93 ?_
        obtain ⟨h94, hf⟩ := op_gd hf
        obtain ⟨M25, eM25, hf⟩ := op_st hf
        refine m_iast hx hb hKK.1 hW hS 44 38 3 rfl h94 eM25 (ms_44 Γ q _ Y _ _) dX10_close_94 (fun H locs hW hS => ?_)
        refine lv_iload_n hx hb dX10_close_95 rfl (lv_at hl 3 rfl) ?_
        refine lv_aload_n hx hb dX10_close_96 rfl (lv_at hl 2 rfl) ?_
        refine va_get hx hb hts ni_X10_close_X10 hown hKK.1 (wd_x hW (k := 0) rfl) 0 rfl rfl 30 (by decide) (hts (.fieldLink RX10 89 "TiltRouteModel" "ownEnds" "[I") (List.mem_of_getElem? (i := 8) rfl)) (fun _ h => h) rfl dX10_close_97 ?_
        refine lv_iload_n hx hb dX10_close_100 rfl (lv_at hl 1 rfl) ?_
        obtain ⟨h101, hf⟩ := op_gd hf
        refine va_iald hx hb hKK.1 (wd_x hW (k := 27) rfl) 0 0 (n := 160) rfl rfl h101 dX10_close_101 ?_
        obtain ⟨j26, ej26, hf⟩ := op_st hf
        have hj26 : ∀ (u_ : Unit) (H : Heap) (locs : List Loc) (ls : Array Slot), lv_has ls 5 [(2, .int x3), (0, .ref (q 0))] → Wd Γ lo S (mcl Γ q M25 ++ Y) H → va_S (zA Γ) s.heap H locs → (∀ c, zV S c = zV S c) → j26 () = some y → W p l e (headSpec wsX10_close rmX10_close).room s m ([.ref (q 0), .int i_1] : List Value).toArray below meth c H locs 0 0 (MQ below (zQ0 Γ lo S S (mcl Γ q y ++ Y) none True) ([.ref (q 0), .int i_1] : List Value).toArray s 0 0 (zA Γ)) (F0 m 125 ls []) := by
          intro u_ H locs ls  hl hW hS hm hf
          rw [ej26] at hf
          refine lv_aload_n hx hb dX10_close_125 rfl (lv_at hl 1 rfl) ?_
          refine lv_dup hx hb dX10_close_126 rfl ?_
          refine va_get hx hb hts ni_X10_close_X10 hown hKK.1 (wd_x hW (k := 0) rfl) 0 rfl rfl 41 (by decide) (hts (.fieldLink RX10 194 "TiltRouteModel" "score" "I") (List.mem_of_getElem? (i := 5) rfl)) (fun _ h => h) rfl dX10_close_127 ?_
          refine lv_aload_n hx hb dX10_close_130 rfl (lv_at hl 1 rfl) ?_
          refine va_get hx hb hts ni_X10_close_X10 hown hKK.1 (wd_x hW (k := 0) rfl) 0 rfl rfl 33 (by decide) (hts (.fieldLink RX10 98 "TiltRouteModel" "ownBonuses" "[I") (List.mem_of_getElem? (i := 10) rfl)) (fun _ h => h) rfl dX10_close_131 ?_
          refine lv_iload_n hx hb dX10_close_134 rfl (lv_at hl 0 rfl) ?_
          obtain ⟨h135, hf⟩ := op_gd hf
          refine va_iald hx hb hKK.1 (wd_x hW (k := 30) rfl) 0 0 (n := 160) rfl rfl h135 dX10_close_135 ?_
          refine lv_iadd hx hb dX10_close_136 ?_
          obtain ⟨M27, eM27, hf⟩ := op_st hf
          refine m_put hx hb hts ni_X10_close_X10 hown hKK.1 hW hS 41 (by decide) (hts (.fieldLink RX10 194 "TiltRouteModel" "score" "I") (List.mem_of_getElem? (i := 5) rfl)) rfl rfl rfl eM27 (ms_41 Γ q _ Y _) dX10_close_137 (fun H locs hW hS => ?_)
          refine lv_aload_n hx hb dX10_close_140 rfl (lv_at hl 1 rfl) ?_
          refine lv_dup hx hb dX10_close_141 rfl ?_
          refine va_get hx hb hts ni_X10_close_X10 hown hKK.1 (wd_x hW (k := 0) rfl) 0 rfl rfl 42 (by decide) (hts (.fieldLink RX10 188 "TiltRouteModel" "depth" "I") (List.mem_of_getElem? (i := 1) rfl)) (fun _ h => h) rfl dX10_close_142 ?_
          refine lv_iconst (v := (1)) hx hb dX10_close_145 (by decide) ?_
          refine lv_isub hx hb dX10_close_146 ?_
          obtain ⟨M28, eM28, hf⟩ := op_st hf
          refine m_put hx hb hts ni_X10_close_X10 hown hKK.1 hW hS 42 (by decide) (hts (.fieldLink RX10 188 "TiltRouteModel" "depth" "I") (List.mem_of_getElem? (i := 1) rfl)) rfl rfl rfl eM28 (ms_42 Γ q _ Y _) dX10_close_147 (fun H locs hW hS => ?_)
          have hf := Option.some.inj hf
          rw [← hf]
          exact z_vret hx hb hr hlocks hW hS hm trivial dX10_close_150
        refine lv_icmp_eq (tgt := 125) hx hb dX10_close_102 (by decide) (fun k102 => ?_) (fun k102 => ?_)
        · have hf := (op_if hf).1 k102
          exact hj26 () H locs ls  (lv_sub hl [1, 2] rfl) hW hS hm hf
        · have hf := (op_if hf).2 k102
          refine lv_aload_n hx hb dX10_close_105 rfl (lv_at hl 2 rfl) ?_
          refine va_get hx hb hts ni_X10_close_X10 hown hKK.1 (wd_x hW (k := 0) rfl) 0 rfl rfl 44 (by decide) (hts (.fieldLink RX10 123 "TiltRouteModel" "hit" "[I") (List.mem_of_getElem? (i := 7) rfl)) (fun _ h => h) rfl dX10_close_106 ?_
          refine lv_aload_n hx hb dX10_close_109 rfl (lv_at hl 2 rfl) ?_
          refine va_get hx hb hts ni_X10_close_X10 hown hKK.1 (wd_x hW (k := 0) rfl) 0 rfl rfl 42 (by decide) (hts (.fieldLink RX10 188 "TiltRouteModel" "depth" "I") (List.mem_of_getElem? (i := 1) rfl)) (fun _ h => h) rfl dX10_close_110 ?_
          refine lv_iconst (v := (1)) hx hb dX10_close_113 (by decide) ?_
          refine lv_isub hx hb dX10_close_114 ?_
          obtain ⟨h115, hf⟩ := op_gd hf
          refine va_iald hx hb hKK.1 (wd_x hW (k := 38) rfl) 0 0 (n := 3) rfl rfl h115 dX10_close_115 ?_
          refine lv_aload_n hx hb dX10_close_116 rfl (lv_at hl 2 rfl) ?_
          refine va_get hx hb hts ni_X10_close_X10 hown hKK.1 (wd_x hW (k := 0) rfl) 0 rfl rfl 31 (by decide) (hts (.fieldLink RX10 92 "TiltRouteModel" "ownLimits" "[I") (List.mem_of_getElem? (i := 9) rfl)) (fun _ h => h) rfl dX10_close_117 ?_
          refine lv_iload_n hx hb dX10_close_120 rfl (lv_at hl 1 rfl) ?_
          obtain ⟨h121, hf⟩ := op_gd hf
          refine va_iald hx hb hKK.1 (wd_x hW (k := 28) rfl) 0 0 (n := 160) rfl rfl h121 dX10_close_121 ?_
          refine lv_icmp_ne (tgt := 151) hx hb dX10_close_122 (by decide) (fun k122 => ?_) (fun k122 => ?_)
          · have hf := (op_if hf).2 k122
            exact hj9 M25 H locs ls  (lv_sub hl [2, 3] rfl) hW hS hm hf
          · have hf := (op_if hf).1 k122
            exact hj26 () H locs ls  (lv_sub hl [1, 2] rfl) hW hS hm hf
    refine lv_if_ne (tgt := 41) hx hb dX10_close_34 (by decide) (fun k34 => ?_) (fun k34 => ?_)
    · have hf := (op_if hf).2 k34
      refine lv_aload_n hx hb dX10_close_41 rfl (lv_at hl 1 rfl) ?_
      refine va_get hx hb hts ni_X10_close_X10 hown hKK.1 (wd_x hW (k := 0) rfl) 0 rfl rfl 32 (by decide) (hts (.fieldLink RX10 95 "TiltRouteModel" "ownTimes" "[I") (List.mem_of_getElem? (i := 4) rfl)) (fun _ h => h) rfl dX10_close_42 ?_
      refine lv_iload_n hx hb dX10_close_45 rfl (lv_at hl 0 rfl) ?_
      obtain ⟨h46, hf⟩ := op_gd hf
      refine va_iald hx hb hKK.1 (wd_x hW (k := 29) rfl) 0 0 (n := 160) rfl rfl h46 dX10_close_46 ?_
      exact hj5 (M 32 x3.toNatClampNeg) H locs ls  (lv_sub hl [0, 1, 2] rfl) hW hS hm hf
    · have hf := (op_if hf).1 k34
      refine lv_iconst (v := (1)) hx hb dX10_close_37 (by decide) ?_
      refine lv_goto (tgt := 47) hx hb dX10_close_38 (by decide) ?_
      exact hj5 (1 : Int32) H locs ls  (lv_sub hl [0, 1, 2] rfl) hW hS hm hf
  refine lv_if_ne (tgt := 11) hx hb dX10_close_4 (by decide) (fun k4 => ?_) (fun k4 => ?_)
  · have hf := (op_if hf).2 k4
    refine lv_iconst (v := (4)) hx hb dX10_close_11 (by decide) ?_
    refine lv_aload_n hx hb dX10_close_12 rfl (lv_at hl 0 rfl) ?_
    refine va_get hx hb hts ni_X10_close_X10 hown hKK.1 (wd_x hW (k := 0) rfl) 0 rfl rfl 40 (by decide) (hts (.fieldLink RX10 191 "TiltRouteModel" "played" "I") (List.mem_of_getElem? (i := 2) rfl)) (fun _ h => h) rfl dX10_close_13 ?_
    refine lv_imul hx hb dX10_close_16 ?_
    refine lv_aload_n hx hb dX10_close_17 rfl (lv_at hl 0 rfl) ?_
    refine va_get hx hb hts ni_X10_close_X10 hown hKK.1 (wd_x hW (k := 0) rfl) 0 rfl rfl 43 (by decide) (hts (.fieldLink RX10 120 "TiltRouteModel" "stack" "[I") (List.mem_of_getElem? (i := 3) rfl)) (fun _ h => h) rfl dX10_close_18 ?_
    refine lv_aload_n hx hb dX10_close_21 rfl (lv_at hl 0 rfl) ?_
    refine va_get hx hb hts ni_X10_close_X10 hown hKK.1 (wd_x hW (k := 0) rfl) 0 rfl rfl 42 (by decide) (hts (.fieldLink RX10 188 "TiltRouteModel" "depth" "I") (List.mem_of_getElem? (i := 1) rfl)) (fun _ h => h) rfl dX10_close_22 ?_
    refine lv_iconst (v := (1)) hx hb dX10_close_25 (by decide) ?_
    refine lv_isub hx hb dX10_close_26 ?_
    obtain ⟨h27, hf⟩ := op_gd hf
    refine va_iald hx hb hKK.1 (wd_x hW (k := 37) rfl) 0 0 (n := 3) rfl rfl h27 dX10_close_27 ?_
    refine lv_iadd hx hb dX10_close_28 ?_
    exact hj2 (((4 : Int32) * (M 40 0)) + (M 43 ((M 42 0) - (1 : Int32)).toNatClampNeg)) H locs ls  (lv_sub hl [0, 1] rfl) hW hS hm hf
  · have hf := (op_if hf).1 k4
    refine lv_iconst (v := (-1)) hx hb dX10_close_7 (by decide) ?_
    refine lv_goto (tgt := 29) hx hb dX10_close_8 (by decide) ?_
    exact hj2 (-1 : Int32) H locs ls  (lv_sub hl [0, 1] rfl) hW hS hm hf

theorem ni_X10_bumperAt_X10 : ∀ w ∈ wsX100, w ∈ wsX10_bumperAt := by decide +kernel
def fX10_bumperAt (M : zMs) (i_1 : Int32) (i_2 : Int32) (i_3 : Int32) : Option Int32 :=
st (-1 : Int32) fun x1 =>
gd (¬ (i_1 < 0 ∨ 6 ≤ i_1.toNatClampNeg)) (
st ((M 8 i_1.toNatClampNeg) - (1 : Int32)) fun x2 =>
lp (fun (q3 : (Int32 × Int32)) => (if q3.2 < 0 then
some (.inr (q3.1))
else
st (((8 : Int32) * i_1) + q3.2) fun x9 =>
gd (¬ (x9 < 0 ∨ 48 ≤ x9.toNatClampNeg)) (
gd (¬ (x9 < 0 ∨ 48 ≤ x9.toNatClampNeg)) (
gd (¬ (x9 < 0 ∨ 48 ≤ x9.toNatClampNeg)) (
cl (fX10_in M i_2 (M 9 x9.toNatClampNeg) (((M 9 x9.toNatClampNeg) + (M 11 x9.toNatClampNeg)) - (1 : Int32))) fun r10 =>
st (fun (y13 : Int32) => (st y13 fun x15 =>
st (q3.2 + (-1 : Int32)) fun x16 =>
some (.inl (x15, x16)) : Option ((Int32 × Int32) ⊕ Int32))) fun j14 =>
st (fun (u_ : Unit) => (j14 q3.1 : Option ((Int32 × Int32) ⊕ Int32))) fun j17 =>
if r10 = 0 then
j17 ()
else
gd (¬ (x9 < 0 ∨ 48 ≤ x9.toNatClampNeg)) (
gd (¬ (x9 < 0 ∨ 48 ≤ x9.toNatClampNeg)) (
gd (¬ (x9 < 0 ∨ 48 ≤ x9.toNatClampNeg)) (
cl (fX10_in M i_3 (M 10 x9.toNatClampNeg) (((M 10 x9.toNatClampNeg) + (M 12 x9.toNatClampNeg)) - (1 : Int32))) fun r18 =>
if r18 = 0 then
j17 ()
else
j14 q3.2)))))) : Option ((Int32 × Int32) ⊕ Int32))) 40000 (x1, x2))
abbrev rmX10_bumperAt : Room := { frames := 1, cells := 0, slots := 0, locals := 22 }
set_option maxHeartbeats 4000000 in
set_option maxRecDepth 100000 in
theorem tX10_bumperAt (l : Launch) (Γ : zG) (lo : zId → Nat) (S : zSt) (q : Nat → Nat) (M : zMs) (Y : va_W) {i_1 : Int32} {i_2 : Int32} {i_3 : Int32}  {y : Int32} (hf : fX10_bumperAt M i_1 i_2 i_3 = some y) : Met l yX10_bumperAt wsX10_bumperAt rmX10_bumperAt (zP0 Γ lo S (mcl Γ q M ++ Y) [.ref (q 0), .int i_1, .int i_2, .int i_3]) (zQ0 Γ lo S S (mcl Γ q M ++ Y) (some (.int y)) True) 0 0 (zA Γ) := by
  refine Met.ofW (cc := cX10_bumperAt) (maxL := 7) (ret := (some .int)) (by decide) rfl ?_
  intro p e s m args below meth c s₁ B hml hv
  obtain ⟨rfl, hW, hKK⟩ := hv
  have hx := B.exec
  have hb := B.bytes
  have hr := B.returns
  have hts := atoms_spec (ws := wsX10_bumperAt) B.pre
  have hown : s.vm.findClass RX10 = some m.cls := findClass_of_methodNamed B.named
  have hlocks := B.notSynchronized
  have hS : va_S (zA Γ) s.heap s.heap [] := va_S.rf
  have hm : ∀ c, zV S c = zV S c := fun _ => rfl
  have hl := lv_entry ([.ref (q 0), .int i_1, .int i_2, .int i_3]) (n := 7) (Nat.le_of_ble_eq_true rfl)
  rw [lg_entry_eq]
  generalize (lg_sl ([.ref (q 0), .int i_1, .int i_2, .int i_3]) ++ List.replicate (7 - (lg_sl ([.ref (q 0), .int i_1, .int i_2, .int i_3])).length) Slot.unset).toArray = ls at hl ⊢
  have hl : lv_has ls 7 [(0, .ref (q 0)), (1, .int i_1), (2, .int i_2), (3, .int i_3)] := hl
  obtain ⟨H, hH0⟩ : ∃ H, H = s.heap := ⟨_, rfl⟩
  obtain ⟨locs, hlo0⟩ : ∃ L : List Loc, L = [] := ⟨_, rfl⟩
  have hS : va_S (zA Γ) s.heap H locs := by rw [hH0, hlo0]; exact hS
  have hW : Wd Γ lo S (mcl Γ q M ++ Y) H := by rw [hH0]; exact hW
  rw [← hH0, ← hlo0]
  unfold fX10_bumperAt at hf
  refine lv_iconst (v := (-1)) hx hb dX10_bumperAt_0 (by decide) ?_
  obtain ⟨x1, ex1, hf⟩ := op_st hf
  refine z_ist (lv' := [(4, .int x1), (0, .ref (q 0)), (1, .int i_1), (2, .int i_2), (3, .int i_3)]) ex1 hx hb dX10_bumperAt_1 hl (by decide) rfl (fun ls hl => ?_)
  refine lv_aload_n hx hb dX10_bumperAt_3 rfl (lv_at hl 1 rfl) ?_
  refine va_get hx hb hts ni_X10_bumperAt_X10 hown hKK.1 (wd_x hW (k := 0) rfl) 0 rfl rfl 8 (by decide) (hts (.fieldLink RX10 28 "TiltRouteModel" "bumpers" "[I") (List.mem_of_getElem? (i := 1) rfl)) (fun _ h => h) rfl dX10_bumperAt_4 ?_
  refine lv_iload_n hx hb dX10_bumperAt_7 rfl (lv_at hl 2 rfl) ?_
  obtain ⟨h8, hf⟩ := op_gd hf
  refine va_iald hx hb hKK.1 (wd_x hW (k := 7) rfl) 0 0 (n := 6) rfl rfl h8 dX10_bumperAt_8 ?_
  refine lv_iconst (v := (1)) hx hb dX10_bumperAt_9 (by decide) ?_
  refine lv_isub hx hb dX10_bumperAt_10 ?_
  obtain ⟨x2, ex2, hf⟩ := op_st hf
  refine z_ist (lv' := [(5, .int x2), (4, .int x1), (0, .ref (q 0)), (1, .int i_1), (2, .int i_2), (3, .int i_3)]) ex2 hx hb dX10_bumperAt_11 hl (by decide) rfl (fun ls hl => ?_)
  obtain ⟨w5, q30, ew5, eq30, hf⟩ := op_lb hf
  have hw5 : ∀ n8 : Nat, ∀ (q3 : (Int32 × Int32)) (H : Heap) (locs : List Loc) (ls : Array Slot), lv_has ls 7 [(5, .int q3.2), (4, .int q3.1), (0, .ref (q 0)), (1, .int i_1), (2, .int i_2), (3, .int i_3)] → Wd Γ lo S (mcl Γ q M ++ Y) H → va_S (zA Γ) s.heap H locs → (∀ c, zV S c = zV S c) → lp w5 n8 q3 = some y → W p l e (headSpec wsX10_bumperAt rmX10_bumperAt).room s m ([.ref (q 0), .int i_1, .int i_2, .int i_3] : List Value).toArray below meth c H locs 0 0 (MQ below (zQ0 Γ lo S S (mcl Γ q M ++ Y) (some (.int y)) True) ([.ref (q 0), .int i_1, .int i_2, .int i_3] : List Value).toArray s 0 0 (zA Γ)) (F0 m 13 ls []) := by
    intro n8
    induction n8 with
    | zero => intro q3 H locs ls hl hW hS hm hf; cases hf
    | succ n8 ih6 =>
      intro q3 H locs ls hl hW hS hm hf
      obtain ⟨n_, r4, hn_, hf, hr7⟩ := op_lq hf
      cases hn_
      rw [ew5] at hf
      refine lv_iload hx hb dX10_bumperAt_13 (lv_at hl 0 rfl) ?_
      refine lv_if_lt (tgt := 104) hx hb dX10_bumperAt_15 (by decide) (fun k15 => ?_) (fun k15 => ?_)
      · have hf := (op_if hf).1 k15
        refine lv_iload hx hb dX10_bumperAt_104 (lv_at hl 1 rfl) ?_
        have hf := zr_r hf hr7
        rw [← hf]
        exact z_iret hx hb hr hlocks rfl hW hS hm trivial dX10_bumperAt_106
      · have hf := (op_if hf).2 k15
        refine lv_bipush (v := (8)) hx hb dX10_bumperAt_18 (by decide) ?_
        refine lv_iload_n hx hb dX10_bumperAt_20 rfl (lv_at hl 3 rfl) ?_
        refine lv_imul hx hb dX10_bumperAt_21 ?_
        refine lv_iload hx hb dX10_bumperAt_22 (lv_at hl 0 rfl) ?_
        refine lv_iadd hx hb dX10_bumperAt_24 ?_
        obtain ⟨x9, ex9, hf⟩ := op_st hf
        refine z_ist (lv' := [(6, .int x9), (5, .int q3.2), (4, .int q3.1), (0, .ref (q 0)), (1, .int i_1), (2, .int i_2), (3, .int i_3)]) ex9 hx hb dX10_bumperAt_25 hl (by decide) rfl (fun ls hl => ?_)
        refine lv_iload_n hx hb dX10_bumperAt_27 rfl (lv_at hl 5 rfl) ?_
        refine lv_aload_n hx hb dX10_bumperAt_28 rfl (lv_at hl 3 rfl) ?_
        refine va_get hx hb hts ni_X10_bumperAt_X10 hown hKK.1 (wd_x hW (k := 0) rfl) 0 rfl rfl 9 (by decide) (hts (.fieldLink RX10 31 "TiltRouteModel" "lefts" "[I") (List.mem_of_getElem? (i := 2) rfl)) (fun _ h => h) rfl dX10_bumperAt_29 ?_
        refine lv_iload hx hb dX10_bumperAt_32 (lv_at hl 0 rfl) ?_
        obtain ⟨h34, hf⟩ := op_gd hf
        refine va_iald hx hb hKK.1 (wd_x hW (k := 8) rfl) 0 0 (n := 48) rfl rfl h34 dX10_bumperAt_34 ?_
        refine lv_aload_n hx hb dX10_bumperAt_35 rfl (lv_at hl 3 rfl) ?_
        refine va_get hx hb hts ni_X10_bumperAt_X10 hown hKK.1 (wd_x hW (k := 0) rfl) 0 rfl rfl 9 (by decide) (hts (.fieldLink RX10 31 "TiltRouteModel" "lefts" "[I") (List.mem_of_getElem? (i := 2) rfl)) (fun _ h => h) rfl dX10_bumperAt_36 ?_
        refine lv_iload hx hb dX10_bumperAt_39 (lv_at hl 0 rfl) ?_
        obtain ⟨h41, hf⟩ := op_gd hf
        refine va_iald hx hb hKK.1 (wd_x hW (k := 8) rfl) 0 0 (n := 48) rfl rfl h41 dX10_bumperAt_41 ?_
        refine lv_aload_n hx hb dX10_bumperAt_42 rfl (lv_at hl 3 rfl) ?_
        refine va_get hx hb hts ni_X10_bumperAt_X10 hown hKK.1 (wd_x hW (k := 0) rfl) 0 rfl rfl 11 (by decide) (hts (.fieldLink RX10 37 "TiltRouteModel" "widths" "[I") (List.mem_of_getElem? (i := 3) rfl)) (fun _ h => h) rfl dX10_bumperAt_43 ?_
        refine lv_iload hx hb dX10_bumperAt_46 (lv_at hl 0 rfl) ?_
        obtain ⟨h48, hf⟩ := op_gd hf
        refine va_iald hx hb hKK.1 (wd_x hW (k := 10) rfl) 0 0 (n := 48) rfl rfl h48 dX10_bumperAt_48 ?_
        refine lv_iadd hx hb dX10_bumperAt_49 ?_
        refine lv_iconst (v := (1)) hx hb dX10_bumperAt_50 (by decide) ?_
        refine lv_isub hx hb dX10_bumperAt_51 ?_
        obtain ⟨r10, hc11, hf⟩ := op_cl hf
        refine z_callS (As := [.int i_2, .int (M 9 x9.toNatClampNeg), .int (((M 9 x9.toNatClampNeg) + (M 11 x9.toNatClampNeg)) - (1 : Int32))]) (rest := []) ⟨hx, hb, hml, hown, hts⟩ (tX10_in l Γ lo S q M Y  hc11) (va_cwS 3 hts gX10_bumperAt_X10_in rfl rfl rfl (by decide +kernel) ⟨Nat.le_of_ble_eq_true rfl, Nat.le_of_ble_eq_true rfl⟩) hKK hW hS rfl hl.1 rfl (Nat.le_of_ble_eq_true rfl) dX10_bumperAt_52 ⟨Nat.zero_le _, Nat.zero_le _⟩ (fun H locs hW hS hm1 hE => ?_)
        have b12 := hE
        obtain ⟨j14, ej14, hf⟩ := op_st hf
        have hj14 : ∀ (y13 : Int32) (H : Heap) (locs : List Loc) (ls : Array Slot), lv_has ls 7 [(5, .int q3.2), (0, .ref (q 0)), (1, .int i_1), (2, .int i_2), (3, .int i_3)] → Wd Γ lo S (mcl Γ q M ++ Y) H → va_S (zA Γ) s.heap H locs → (∀ c, zV S c = zV S c) → j14 y13 = some r4 → W p l e (headSpec wsX10_bumperAt rmX10_bumperAt).room s m ([.ref (q 0), .int i_1, .int i_2, .int i_3] : List Value).toArray below meth c H locs 0 0 (MQ below (zQ0 Γ lo S S (mcl Γ q M ++ Y) (some (.int y)) True) ([.ref (q 0), .int i_1, .int i_2, .int i_3] : List Value).toArray s 0 0 (zA Γ)) (F0 m 96 ls [.int y13]) := by
          intro y13 H locs ls  hl hW hS hm hf
          rw [ej14] at hf
          obtain ⟨x15, ex15, hf⟩ := op_st hf
          refine z_ist (lv' := [(4, .int x15), (5, .int q3.2), (0, .ref (q 0)), (1, .int i_1), (2, .int i_2), (3, .int i_3)]) ex15 hx hb dX10_bumperAt_96 hl (by decide) rfl (fun ls hl => ?_)
          obtain ⟨x16, ex16, hf⟩ := op_st hf
          refine lv_iinc (v := x16) (lv' := [(5, .int x16), (4, .int x15), (0, .ref (q 0)), (1, .int i_1), (2, .int i_2), (3, .int i_3)]) hx hb dX10_bumperAt_98 hl (k := 1) rfl (by rw [ex16]; rfl) (by decide) rfl (fun ls hl => ?_)
          refine lv_goto (tgt := 13) hx hb dX10_bumperAt_101 (by decide) ?_
          have hf := zr_l hf hr7
          exact ih6 (x15, x16) H locs ls (lv_sub hl [0, 1, 2, 3, 4, 5] rfl) hW hS hm hf
        obtain ⟨j17, ej17, hf⟩ := op_st hf
        have hj17 : ∀ (u_ : Unit) (H : Heap) (locs : List Loc) (ls : Array Slot), lv_has ls 7 [(5, .int q3.2), (4, .int q3.1), (0, .ref (q 0)), (1, .int i_1), (2, .int i_2), (3, .int i_3)] → Wd Γ lo S (mcl Γ q M ++ Y) H → va_S (zA Γ) s.heap H locs → (∀ c, zV S c = zV S c) → j17 () = some r4 → W p l e (headSpec wsX10_bumperAt rmX10_bumperAt).room s m ([.ref (q 0), .int i_1, .int i_2, .int i_3] : List Value).toArray below meth c H locs 0 0 (MQ below (zQ0 Γ lo S S (mcl Γ q M ++ Y) (some (.int y)) True) ([.ref (q 0), .int i_1, .int i_2, .int i_3] : List Value).toArray s 0 0 (zA Γ)) (F0 m 94 ls []) := by
          intro u_ H locs ls  hl hW hS hm hf
          rw [ej17] at hf
          refine lv_iload hx hb dX10_bumperAt_94 (lv_at hl 1 rfl) ?_
          exact hj14 q3.1 H locs ls  (lv_sub hl [0, 2, 3, 4, 5] rfl) hW hS hm hf
        refine lv_if_eq (tgt := 94) hx hb dX10_bumperAt_55 (by decide) (fun k55 => ?_) (fun k55 => ?_)
        · have hf := (op_if hf).1 k55
          exact hj17 () H locs ls  (lv_sub hl [1, 2, 3, 4, 5, 6] rfl) hW hS hm hf
        · have hf := (op_if hf).2 k55
          refine lv_iload_n hx hb dX10_bumperAt_58 rfl (lv_at hl 6 rfl) ?_
          refine lv_aload_n hx hb dX10_bumperAt_59 rfl (lv_at hl 3 rfl) ?_
          refine va_get hx hb hts ni_X10_bumperAt_X10 hown hKK.1 (wd_x hW (k := 0) rfl) 0 rfl rfl 10 (by decide) (hts (.fieldLink RX10 34 "TiltRouteModel" "tops" "[I") (List.mem_of_getElem? (i := 4) rfl)) (fun _ h => h) rfl dX10_bumperAt_60 ?_
          refine lv_iload hx hb dX10_bumperAt_63 (lv_at hl 0 rfl) ?_
          obtain ⟨h65, hf⟩ := op_gd hf
          refine va_iald hx hb hKK.1 (wd_x hW (k := 9) rfl) 0 0 (n := 48) rfl rfl h65 dX10_bumperAt_65 ?_
          refine lv_aload_n hx hb dX10_bumperAt_66 rfl (lv_at hl 3 rfl) ?_
          refine va_get hx hb hts ni_X10_bumperAt_X10 hown hKK.1 (wd_x hW (k := 0) rfl) 0 rfl rfl 10 (by decide) (hts (.fieldLink RX10 34 "TiltRouteModel" "tops" "[I") (List.mem_of_getElem? (i := 4) rfl)) (fun _ h => h) rfl dX10_bumperAt_67 ?_
          refine lv_iload hx hb dX10_bumperAt_70 (lv_at hl 0 rfl) ?_
          obtain ⟨h72, hf⟩ := op_gd hf
          refine va_iald hx hb hKK.1 (wd_x hW (k := 9) rfl) 0 0 (n := 48) rfl rfl h72 dX10_bumperAt_72 ?_
          refine lv_aload_n hx hb dX10_bumperAt_73 rfl (lv_at hl 3 rfl) ?_
          refine va_get hx hb hts ni_X10_bumperAt_X10 hown hKK.1 (wd_x hW (k := 0) rfl) 0 rfl rfl 12 (by decide) (hts (.fieldLink RX10 40 "TiltRouteModel" "heights" "[I") (List.mem_of_getElem? (i := 5) rfl)) (fun _ h => h) rfl dX10_bumperAt_74 ?_
          refine lv_iload hx hb dX10_bumperAt_77 (lv_at hl 0 rfl) ?_
          obtain ⟨h79, hf⟩ := op_gd hf
          refine va_iald hx hb hKK.1 (wd_x hW (k := 11) rfl) 0 0 (n := 48) rfl rfl h79 dX10_bumperAt_79 ?_
          refine lv_iadd hx hb dX10_bumperAt_80 ?_
          refine lv_iconst (v := (1)) hx hb dX10_bumperAt_81 (by decide) ?_
          refine lv_isub hx hb dX10_bumperAt_82 ?_
          obtain ⟨r18, hc19, hf⟩ := op_cl hf
          refine z_callS (As := [.int i_3, .int (M 10 x9.toNatClampNeg), .int (((M 10 x9.toNatClampNeg) + (M 12 x9.toNatClampNeg)) - (1 : Int32))]) (rest := []) ⟨hx, hb, hml, hown, hts⟩ (tX10_in l Γ lo S q M Y  hc19) (va_cwS 3 hts gX10_bumperAt_X10_in rfl rfl rfl (by decide +kernel) ⟨Nat.le_of_ble_eq_true rfl, Nat.le_of_ble_eq_true rfl⟩) hKK hW hS rfl hl.1 rfl (Nat.le_of_ble_eq_true rfl) dX10_bumperAt_83 ⟨Nat.zero_le _, Nat.zero_le _⟩ (fun H locs hW hS hm1 hE => ?_)
          have b20 := hE
          refine lv_if_eq (tgt := 94) hx hb dX10_bumperAt_86 (by decide) (fun k86 => ?_) (fun k86 => ?_)
          · have hf := (op_if hf).1 k86
            exact hj17 () H locs ls  (lv_sub hl [1, 2, 3, 4, 5, 6] rfl) hW hS hm hf
          · have hf := (op_if hf).2 k86
            refine lv_iload hx hb dX10_bumperAt_89 (lv_at hl 1 rfl) ?_
            refine lv_goto (tgt := 96) hx hb dX10_bumperAt_91 (by decide) ?_
            exact hj14 q3.2 H locs ls  (lv_sub hl [1, 3, 4, 5, 6] rfl) hW hS hm hf
  rw [eq30] at hf
  exact hw5 _ (x1, x2) H locs ls (lv_sub hl [0, 1, 2, 3, 4, 5] rfl) hW hS hm hf

theorem ni_X10_kicked_X10 : ∀ w ∈ wsX100, w ∈ wsX10_kicked := by decide +kernel
def fX10_kicked (M : zMs) (i_1 : Int32) (i_2 : Int32) (i_3 : Int32) : Option Int32 :=
st (((8 : Int32) * i_1) + i_2) fun x1 =>
st (-i_3) fun x2 =>
if x2 = 0 then
some (x2)
else
gd (¬ (x1 < 0 ∨ 48 ≤ x1.toNatClampNeg)) (
if (M 15 x1.toNatClampNeg) < (40 : Int32) then
st (fun (y3 : Int32) => (gd (¬ (x1 < 0 ∨ 48 ≤ x1.toNatClampNeg)) (
st (y3 + (M 13 x1.toNatClampNeg)) fun x5 =>
st (fun (y6 : Int32) => (st y6 fun x8 =>
if 0 ≤ x2 then
some (x8)
else
some ((-x8)) : Option Int32)) fun j7 =>
if x5 ≤ (30 : Int32) then
j7 x5
else
j7 (30 : Int32)) : Option Int32)) fun j4 =>
if 0 ≤ x2 then
j4 x2
else
j4 (-x2)
else
some (x2))
abbrev rmX10_kicked : Room := { frames := 0, cells := 0, slots := 0, locals := 0 }
set_option maxHeartbeats 4000000 in
set_option maxRecDepth 100000 in
theorem tX10_kicked (l : Launch) (Γ : zG) (lo : zId → Nat) (S : zSt) (q : Nat → Nat) (M : zMs) (Y : va_W) {i_1 : Int32} {i_2 : Int32} {i_3 : Int32}  {y : Int32} (hf : fX10_kicked M i_1 i_2 i_3 = some y) : Met l yX10_kicked wsX10_kicked rmX10_kicked (zP0 Γ lo S (mcl Γ q M ++ Y) [.ref (q 0), .int i_1, .int i_2, .int i_3]) (zQ0 Γ lo S S (mcl Γ q M ++ Y) (some (.int y)) True) 0 0 (zA Γ) := by
  refine Met.ofW (cc := cX10_kicked) (maxL := 7) (ret := (some .int)) (by decide) rfl ?_
  intro p e s m args below meth c s₁ B hml hv
  obtain ⟨rfl, hW, hKK⟩ := hv
  have hx := B.exec
  have hb := B.bytes
  have hr := B.returns
  have hts := atoms_spec (ws := wsX10_kicked) B.pre
  have hown : s.vm.findClass RX10 = some m.cls := findClass_of_methodNamed B.named
  have hlocks := B.notSynchronized
  have hS : va_S (zA Γ) s.heap s.heap [] := va_S.rf
  have hm : ∀ c, zV S c = zV S c := fun _ => rfl
  have hl := lv_entry ([.ref (q 0), .int i_1, .int i_2, .int i_3]) (n := 7) (Nat.le_of_ble_eq_true rfl)
  rw [lg_entry_eq]
  generalize (lg_sl ([.ref (q 0), .int i_1, .int i_2, .int i_3]) ++ List.replicate (7 - (lg_sl ([.ref (q 0), .int i_1, .int i_2, .int i_3])).length) Slot.unset).toArray = ls at hl ⊢
  have hl : lv_has ls 7 [(0, .ref (q 0)), (1, .int i_1), (2, .int i_2), (3, .int i_3)] := hl
  obtain ⟨H, hH0⟩ : ∃ H, H = s.heap := ⟨_, rfl⟩
  obtain ⟨locs, hlo0⟩ : ∃ L : List Loc, L = [] := ⟨_, rfl⟩
  have hS : va_S (zA Γ) s.heap H locs := by rw [hH0, hlo0]; exact hS
  have hW : Wd Γ lo S (mcl Γ q M ++ Y) H := by rw [hH0]; exact hW
  rw [← hH0, ← hlo0]
  unfold fX10_kicked at hf
  refine lv_bipush (v := (8)) hx hb dX10_kicked_0 (by decide) ?_
  refine lv_iload_n hx hb dX10_kicked_2 rfl (lv_at hl 1 rfl) ?_
  refine lv_imul hx hb dX10_kicked_3 ?_
  refine lv_iload_n hx hb dX10_kicked_4 rfl (lv_at hl 2 rfl) ?_
  refine lv_iadd hx hb dX10_kicked_5 ?_
  obtain ⟨x1, ex1, hf⟩ := op_st hf
  refine z_ist (lv' := [(4, .int x1), (0, .ref (q 0)), (1, .int i_1), (2, .int i_2), (3, .int i_3)]) ex1 hx hb dX10_kicked_6 hl (by decide) rfl (fun ls hl => ?_)
  refine lv_iload_n hx hb dX10_kicked_8 rfl (lv_at hl 4 rfl) ?_
  refine lv_ineg hx hb dX10_kicked_9 ?_
  obtain ⟨x2, ex2, hf⟩ := op_st hf
  refine z_ist (lv' := [(5, .int x2), (4, .int x1), (0, .ref (q 0)), (1, .int i_1), (2, .int i_2), (3, .int i_3)]) ex2 hx hb dX10_kicked_10 hl (by decide) rfl (fun ls hl => ?_)
  refine lv_iload hx hb dX10_kicked_12 (lv_at hl 0 rfl) ?_
  refine lv_if_eq (tgt := 29) hx hb dX10_kicked_14 (by decide) (fun k14 => ?_) (fun k14 => ?_)
  · have hf := (op_if hf).1 k14
    refine lv_iload hx hb dX10_kicked_29 (lv_at hl 0 rfl) ?_
    have hf := Option.some.inj hf
    rw [← hf]
    exact z_iret hx hb hr hlocks rfl hW hS hm trivial dX10_kicked_31
  · have hf := (op_if hf).2 k14
    refine lv_aload_n hx hb dX10_kicked_17 rfl (lv_at hl 2 rfl) ?_
    refine va_get hx hb hts ni_X10_kicked_X10 hown hKK.1 (wd_x hW (k := 0) rfl) 0 rfl rfl 15 (by decide) (hts (.fieldLink RX10 49 "TiltRouteModel" "wears" "[I") (List.mem_of_getElem? (i := 1) rfl)) (fun _ h => h) rfl dX10_kicked_18 ?_
    refine lv_iload hx hb dX10_kicked_21 (lv_at hl 1 rfl) ?_
    obtain ⟨h23, hf⟩ := op_gd hf
    refine va_iald hx hb hKK.1 (wd_x hW (k := 14) rfl) 0 0 (n := 48) rfl rfl h23 dX10_kicked_23 ?_
    refine lv_bipush (v := (40)) hx hb dX10_kicked_24 (by decide) ?_
    refine lv_icmp_lt (tgt := 32) hx hb dX10_kicked_26 (by decide) (fun k26 => ?_) (fun k26 => ?_)
    · have hf := (op_if hf).1 k26
      refine lv_iload hx hb dX10_kicked_32 (lv_at hl 0 rfl) ?_
      obtain ⟨j4, ej4, hf⟩ := op_st hf
      have hj4 : ∀ (y3 : Int32) (H : Heap) (locs : List Loc) (ls : Array Slot), lv_has ls 7 [(5, .int x2), (4, .int x1), (0, .ref (q 0))] → Wd Γ lo S (mcl Γ q M ++ Y) H → va_S (zA Γ) s.heap H locs → (∀ c, zV S c = zV S c) → j4 y3 = some y → W p l e (headSpec wsX10_kicked rmX10_kicked).room s m ([.ref (q 0), .int i_1, .int i_2, .int i_3] : List Value).toArray below meth c H locs 0 0 (MQ below (zQ0 Γ lo S S (mcl Γ q M ++ Y) (some (.int y)) True) ([.ref (q 0), .int i_1, .int i_2, .int i_3] : List Value).toArray s 0 0 (zA Γ)) (F0 m 45 ls [.int y3]) := by
        intro y3 H locs ls  hl hW hS hm hf
        rw [ej4] at hf
        refine lv_aload_n hx hb dX10_kicked_45 rfl (lv_at hl 2 rfl) ?_
        refine va_get hx hb hts ni_X10_kicked_X10 hown hKK.1 (wd_x hW (k := 0) rfl) 0 rfl rfl 13 (by decide) (hts (.fieldLink RX10 43 "TiltRouteModel" "kicks" "[I") (List.mem_of_getElem? (i := 2) rfl)) (fun _ h => h) rfl dX10_kicked_46 ?_
        refine lv_iload hx hb dX10_kicked_49 (lv_at hl 1 rfl) ?_
        obtain ⟨h51, hf⟩ := op_gd hf
        refine va_iald hx hb hKK.1 (wd_x hW (k := 12) rfl) 0 0 (n := 48) rfl rfl h51 dX10_kicked_51 ?_
        refine lv_iadd hx hb dX10_kicked_52 ?_
        obtain ⟨x5, ex5, hf⟩ := op_st hf
        refine z_ist (lv' := [(6, .int x5), (5, .int x2), (4, .int x1), (0, .ref (q 0))]) ex5 hx hb dX10_kicked_53 hl (by decide) rfl (fun ls hl => ?_)
        refine lv_iload hx hb dX10_kicked_55 (lv_at hl 0 rfl) ?_
        refine lv_bipush (v := (30)) hx hb dX10_kicked_57 (by decide) ?_
        obtain ⟨j7, ej7, hf⟩ := op_st hf
        have hj7 : ∀ (y6 : Int32) (H : Heap) (locs : List Loc) (ls : Array Slot), lv_has ls 7 [(5, .int x2)] → Wd Γ lo S (mcl Γ q M ++ Y) H → va_S (zA Γ) s.heap H locs → (∀ c, zV S c = zV S c) → j7 y6 = some y → W p l e (headSpec wsX10_kicked rmX10_kicked).room s m ([.ref (q 0), .int i_1, .int i_2, .int i_3] : List Value).toArray below meth c H locs 0 0 (MQ below (zQ0 Γ lo S S (mcl Γ q M ++ Y) (some (.int y)) True) ([.ref (q 0), .int i_1, .int i_2, .int i_3] : List Value).toArray s 0 0 (zA Γ)) (F0 m 69 ls [.int y6]) := by
          intro y6 H locs ls  hl hW hS hm hf
          rw [ej7] at hf
          obtain ⟨x8, ex8, hf⟩ := op_st hf
          refine z_ist (lv' := [(6, .int x8), (5, .int x2)]) ex8 hx hb dX10_kicked_69 hl (by decide) rfl (fun ls hl => ?_)
          refine lv_iload hx hb dX10_kicked_71 (lv_at hl 1 rfl) ?_
          refine lv_if_ge (tgt := 82) hx hb dX10_kicked_73 (by decide) (fun k73 => ?_) (fun k73 => ?_)
          · have hf := (op_if hf).1 k73
            refine lv_iload hx hb dX10_kicked_82 (lv_at hl 0 rfl) ?_
            have hf := Option.some.inj hf
            rw [← hf]
            exact z_iret hx hb hr hlocks rfl hW hS hm trivial dX10_kicked_84
          · have hf := (op_if hf).2 k73
            refine lv_iload hx hb dX10_kicked_76 (lv_at hl 0 rfl) ?_
            refine lv_ineg hx hb dX10_kicked_78 ?_
            refine lv_goto (tgt := 84) hx hb dX10_kicked_79 (by decide) ?_
            have hf := Option.some.inj hf
            rw [← hf]
            exact z_iret hx hb hr hlocks rfl hW hS hm trivial dX10_kicked_84
        refine lv_icmp_le (tgt := 67) hx hb dX10_kicked_59 (by decide) (fun k59 => ?_) (fun k59 => ?_)
        · have hf := (op_if hf).1 k59
          refine lv_iload hx hb dX10_kicked_67 (lv_at hl 0 rfl) ?_
          exact hj7 x5 H locs ls  (lv_sub hl [1] rfl) hW hS hm hf
        · have hf := (op_if hf).2 k59
          refine lv_bipush (v := (30)) hx hb dX10_kicked_62 (by decide) ?_
          refine lv_goto (tgt := 69) hx hb dX10_kicked_64 (by decide) ?_
          exact hj7 (30 : Int32) H locs ls  (lv_sub hl [1] rfl) hW hS hm hf
      refine lv_if_ge (tgt := 43) hx hb dX10_kicked_34 (by decide) (fun k34 => ?_) (fun k34 => ?_)
      · have hf := (op_if hf).1 k34
        refine lv_iload hx hb dX10_kicked_43 (lv_at hl 0 rfl) ?_
        exact hj4 x2 H locs ls  (lv_sub hl [0, 1, 2] rfl) hW hS hm hf
      · have hf := (op_if hf).2 k34
        refine lv_iload hx hb dX10_kicked_37 (lv_at hl 0 rfl) ?_
        refine lv_ineg hx hb dX10_kicked_39 ?_
        refine lv_goto (tgt := 45) hx hb dX10_kicked_40 (by decide) ?_
        exact hj4 (-x2) H locs ls  (lv_sub hl [0, 1, 2] rfl) hW hS hm hf
    · have hf := (op_if hf).2 k26
      refine lv_iload hx hb dX10_kicked_29 (lv_at hl 0 rfl) ?_
      have hf := Option.some.inj hf
      rw [← hf]
      exact z_iret hx hb hr hlocks rfl hW hS hm trivial dX10_kicked_31

theorem ni_X10_strike_X10 : ∀ w ∈ wsX100, w ∈ wsX10_strike := by decide +kernel
def fX10_strike (M : zMs) (i_1 : Int32) (i_2 : Int32) : Option (Int32 × zMs) :=
if i_2 = (-1 : Int32) then
some (((0 : Int32), M))
else
gd (¬ ((((8 : Int32) * i_1) + i_2) < 0 ∨ 48 ≤ (((8 : Int32) * i_1) + i_2).toNatClampNeg)) (
gd (¬ ((((8 : Int32) * i_1) + i_2) < 0 ∨ 48 ≤ (((8 : Int32) * i_1) + i_2).toNatClampNeg)) (
st (pM M 15 (((8 : Int32) * i_1) + i_2).toNatClampNeg ((M 15 (((8 : Int32) * i_1) + i_2).toNatClampNeg) + (1 : Int32))) fun M1 =>
gd (¬ ((((8 : Int32) * i_1) + i_2) < 0 ∨ 48 ≤ (((8 : Int32) * i_1) + i_2).toNatClampNeg)) (
if (M1 16 (((8 : Int32) * i_1) + i_2).toNatClampNeg) = (-1 : Int32) then
cl (fX10_close M1 i_2) fun M4 =>
some (((i_2 + (1 : Int32)), M4))
else
some (((0 : Int32), M1)))))
abbrev rmX10_strike : Room := { frames := 2, cells := 0, slots := 0, locals := 47 }
set_option maxHeartbeats 4000000 in
set_option maxRecDepth 100000 in
theorem tX10_strike (l : Launch) (Γ : zG) (lo : zId → Nat) (S : zSt) (q : Nat → Nat) (M : zMs) (Y : va_W) {i_1 : Int32} {i_2 : Int32}  {y : (Int32 × zMs)} (hf : fX10_strike M i_1 i_2 = some y) : Met l yX10_strike wsX10_strike rmX10_strike (zP0 Γ lo S (mcl Γ q M ++ Y) [.ref (q 0), .int i_1, .int i_2]) (zQ0 Γ lo S S (mcl Γ q y.2 ++ Y) (some (.int y.1)) True) 0 0 (zA Γ) := by
  refine Met.ofW (cc := cX10_strike) (maxL := 3) (ret := (some .int)) (by decide) rfl ?_
  intro p e s m args below meth c s₁ B hml hv
  obtain ⟨rfl, hW, hKK⟩ := hv
  have hx := B.exec
  have hb := B.bytes
  have hr := B.returns
  have hts := atoms_spec (ws := wsX10_strike) B.pre
  have hown : s.vm.findClass RX10 = some m.cls := findClass_of_methodNamed B.named
  have hlocks := B.notSynchronized
  have hS : va_S (zA Γ) s.heap s.heap [] := va_S.rf
  have hm : ∀ c, zV S c = zV S c := fun _ => rfl
  have hl := lv_entry ([.ref (q 0), .int i_1, .int i_2]) (n := 3) (Nat.le_of_ble_eq_true rfl)
  rw [lg_entry_eq]
  generalize (lg_sl ([.ref (q 0), .int i_1, .int i_2]) ++ List.replicate (3 - (lg_sl ([.ref (q 0), .int i_1, .int i_2])).length) Slot.unset).toArray = ls at hl ⊢
  have hl : lv_has ls 3 [(0, .ref (q 0)), (1, .int i_1), (2, .int i_2)] := hl
  obtain ⟨H, hH0⟩ : ∃ H, H = s.heap := ⟨_, rfl⟩
  obtain ⟨locs, hlo0⟩ : ∃ L : List Loc, L = [] := ⟨_, rfl⟩
  have hS : va_S (zA Γ) s.heap H locs := by rw [hH0, hlo0]; exact hS
  have hW : Wd Γ lo S (mcl Γ q M ++ Y) H := by rw [hH0]; exact hW
  rw [← hH0, ← hlo0]
  unfold fX10_strike at hf
  refine lv_iload_n hx hb dX10_strike_0 rfl (lv_at hl 2 rfl) ?_
  refine lv_iconst (v := (-1)) hx hb dX10_strike_1 (by decide) ?_
  refine lv_icmp_ne (tgt := 7) hx hb dX10_strike_2 (by decide) (fun k2 => ?_) (fun k2 => ?_)
  · have hf := (op_if hf).2 k2
    refine lv_aload_n hx hb dX10_strike_7 rfl (lv_at hl 0 rfl) ?_
    refine va_get hx hb hts ni_X10_strike_X10 hown hKK.1 (wd_x hW (k := 0) rfl) 0 rfl rfl 15 (by decide) (hts (.fieldLink RX10 49 "TiltRouteModel" "wears" "[I") (List.mem_of_getElem? (i := 1) rfl)) (fun _ h => h) rfl dX10_strike_8 ?_
    refine lv_bipush (v := (8)) hx hb dX10_strike_11 (by decide) ?_
    refine lv_iload_n hx hb dX10_strike_13 rfl (lv_at hl 1 rfl) ?_
    refine lv_imul hx hb dX10_strike_14 ?_
    refine lv_iload_n hx hb dX10_strike_15 rfl (lv_at hl 2 rfl) ?_
    refine lv_iadd hx hb dX10_strike_16 ?_
    refine lv_dup2_11 hx hb dX10_strike_17 rfl rfl ?_
    obtain ⟨h18, hf⟩ := op_gd hf
    refine va_iald hx hb hKK.1 (wd_x hW (k := 14) rfl) 0 0 (n := 48) rfl rfl h18 dX10_strike_18 ?_
    refine lv_iconst (v := (1)) hx hb dX10_strike_19 (by decide) ?_
    refine lv_iadd hx hb dX10_strike_20 ?_
    obtain ⟨h21, hf⟩ := op_gd hf
    obtain ⟨M1, eM1, hf⟩ := op_st hf
    refine m_iast hx hb hKK.1 hW hS 15 14 48 rfl h21 eM1 (ms_15 Γ q _ Y _ _) dX10_strike_21 (fun H locs hW hS => ?_)
    refine lv_aload_n hx hb dX10_strike_22 rfl (lv_at hl 0 rfl) ?_
    refine va_get hx hb hts ni_X10_strike_X10 hown hKK.1 (wd_x hW (k := 0) rfl) 0 rfl rfl 16 (by decide) (hts (.fieldLink RX10 52 "TiltRouteModel" "stuck" "[I") (List.mem_of_getElem? (i := 2) rfl)) (fun _ h => h) rfl dX10_strike_23 ?_
    refine lv_bipush (v := (8)) hx hb dX10_strike_26 (by decide) ?_
    refine lv_iload_n hx hb dX10_strike_28 rfl (lv_at hl 1 rfl) ?_
    refine lv_imul hx hb dX10_strike_29 ?_
    refine lv_iload_n hx hb dX10_strike_30 rfl (lv_at hl 2 rfl) ?_
    refine lv_iadd hx hb dX10_strike_31 ?_
    obtain ⟨h32, hf⟩ := op_gd hf
    refine va_iald hx hb hKK.1 (wd_x hW (k := 15) rfl) 0 0 (n := 48) rfl rfl h32 dX10_strike_32 ?_
    refine lv_iconst (v := (-1)) hx hb dX10_strike_33 (by decide) ?_
    refine lv_icmp_eq (tgt := 39) hx hb dX10_strike_34 (by decide) (fun k34 => ?_) (fun k34 => ?_)
    · have hf := (op_if hf).1 k34
      refine lv_aload_n hx hb dX10_strike_39 rfl (lv_at hl 0 rfl) ?_
      refine lv_iload_n hx hb dX10_strike_40 rfl (lv_at hl 2 rfl) ?_
      obtain ⟨M4, hc3, hf⟩ := op_cl hf
      refine z_callV (As := [.int i_2]) (rest := []) ⟨hx, hb, hml, hown, hts⟩ (tX10_close l Γ lo S q M1 Y  hc3) (cwV 1 hts gX10_strike_X10_close rfl rfl rfl (by decide +kernel) ⟨Nat.le_of_ble_eq_true rfl, Nat.le_of_ble_eq_true rfl⟩) (wd_x hW (k := 0) rfl) rfl hKK hW hS rfl hl.1 rfl (Nat.le_of_ble_eq_true rfl) dX10_strike_41 ⟨Nat.zero_le _, Nat.zero_le _⟩ (fun H locs hW hS hm1 hE => ?_)
      refine lv_iload_n hx hb dX10_strike_44 rfl (lv_at hl 2 rfl) ?_
      refine lv_iconst (v := (1)) hx hb dX10_strike_45 (by decide) ?_
      refine lv_iadd hx hb dX10_strike_46 ?_
      have hf := Option.some.inj hf
      rw [← hf]
      exact z_iret hx hb hr hlocks rfl hW hS hm trivial dX10_strike_47
    · have hf := (op_if hf).2 k34
      refine lv_iconst (v := (0)) hx hb dX10_strike_37 (by decide) ?_
      have hf := Option.some.inj hf
      rw [← hf]
      exact z_iret hx hb hr hlocks rfl hW hS hm trivial dX10_strike_38
  · have hf := (op_if hf).1 k2
    refine lv_iconst (v := (0)) hx hb dX10_strike_5 (by decide) ?_
    have hf := Option.some.inj hf
    rw [← hf]
    exact z_iret hx hb hr hlocks rfl hW hS hm trivial dX10_strike_6

theorem ni_X10_keep_X10 : ∀ w ∈ wsX100, w ∈ wsX10_keep := by decide +kernel
def fX10_keep (M : zMs) (i_1 : Int32) : Option zMs :=
gd (¬ (i_1 < 0 ∨ 40 ≤ i_1.toNatClampNeg)) (
st (pM M 27 i_1.toNatClampNeg (M 41 0)) fun M1 =>
gd (¬ (i_1 < 0 ∨ 40 ≤ i_1.toNatClampNeg)) (
st (pM M1 34 i_1.toNatClampNeg (M1 42 0)) fun M2 =>
st (0 : Int32) fun x3 =>
lp (fun (q4 : (Int32 × zMs)) => (if (3 : Int32) ≤ q4.1 then
some (.inr (q4.2))
else
gd (¬ (q4.1 < 0 ∨ 3 ≤ q4.1.toNatClampNeg)) (
gd (¬ ((((3 : Int32) * i_1) + q4.1) < 0 ∨ 120 ≤ (((3 : Int32) * i_1) + q4.1).toNatClampNeg)) (
st (pM q4.2 35 (((3 : Int32) * i_1) + q4.1).toNatClampNeg (q4.2 43 q4.1.toNatClampNeg)) fun M10 =>
gd (¬ (q4.1 < 0 ∨ 3 ≤ q4.1.toNatClampNeg)) (
gd (¬ ((((3 : Int32) * i_1) + q4.1) < 0 ∨ 120 ≤ (((3 : Int32) * i_1) + q4.1).toNatClampNeg)) (
st (pM M10 36 (((3 : Int32) * i_1) + q4.1).toNatClampNeg (M10 44 q4.1.toNatClampNeg)) fun M11 =>
st (q4.1 + (1 : Int32)) fun x12 =>
some (.inl (x12, M11)))))) : Option ((Int32 × zMs) ⊕ zMs))) 40000 (x3, M2)))
abbrev rmX10_keep : Room := { frames := 0, cells := 0, slots := 0, locals := 0 }
set_option maxHeartbeats 4000000 in
set_option maxRecDepth 100000 in
theorem tX10_keep (l : Launch) (Γ : zG) (lo : zId → Nat) (S : zSt) (q : Nat → Nat) (M : zMs) (Y : va_W) {i_1 : Int32}  {y : zMs} (hf : fX10_keep M i_1 = some y) : Met l yX10_keep wsX10_keep rmX10_keep (zP0 Γ lo S (mcl Γ q M ++ Y) [.ref (q 0), .int i_1]) (zQ0 Γ lo S S (mcl Γ q y ++ Y) none True) 0 0 (zA Γ) := by
  refine Met.ofW (cc := cX10_keep) (maxL := 3) (ret := none) (by decide) rfl ?_
  intro p e s m args below meth c s₁ B hml hv
  obtain ⟨rfl, hW, hKK⟩ := hv
  have hx := B.exec
  have hb := B.bytes
  have hr := B.returns
  have hts := atoms_spec (ws := wsX10_keep) B.pre
  have hown : s.vm.findClass RX10 = some m.cls := findClass_of_methodNamed B.named
  have hlocks := B.notSynchronized
  have hS : va_S (zA Γ) s.heap s.heap [] := va_S.rf
  have hm : ∀ c, zV S c = zV S c := fun _ => rfl
  have hl := lv_entry ([.ref (q 0), .int i_1]) (n := 3) (Nat.le_of_ble_eq_true rfl)
  rw [lg_entry_eq]
  generalize (lg_sl ([.ref (q 0), .int i_1]) ++ List.replicate (3 - (lg_sl ([.ref (q 0), .int i_1])).length) Slot.unset).toArray = ls at hl ⊢
  have hl : lv_has ls 3 [(0, .ref (q 0)), (1, .int i_1)] := hl
  obtain ⟨H, hH0⟩ : ∃ H, H = s.heap := ⟨_, rfl⟩
  obtain ⟨locs, hlo0⟩ : ∃ L : List Loc, L = [] := ⟨_, rfl⟩
  have hS : va_S (zA Γ) s.heap H locs := by rw [hH0, hlo0]; exact hS
  have hW : Wd Γ lo S (mcl Γ q M ++ Y) H := by rw [hH0]; exact hW
  rw [← hH0, ← hlo0]
  unfold fX10_keep at hf
  refine lv_aload_n hx hb dX10_keep_0 rfl (lv_at hl 0 rfl) ?_
  refine va_get hx hb hts ni_X10_keep_X10 hown hKK.1 (wd_x hW (k := 0) rfl) 0 rfl rfl 27 (by decide) (hts (.fieldLink RX10 80 "TiltRouteModel" "scores" "[I") (List.mem_of_getElem? (i := 1) rfl)) (fun _ h => h) rfl dX10_keep_1 ?_
  refine lv_iload_n hx hb dX10_keep_4 rfl (lv_at hl 1 rfl) ?_
  refine lv_aload_n hx hb dX10_keep_5 rfl (lv_at hl 0 rfl) ?_
  refine va_get hx hb hts ni_X10_keep_X10 hown hKK.1 (wd_x hW (k := 0) rfl) 0 rfl rfl 41 (by decide) (hts (.fieldLink RX10 194 "TiltRouteModel" "score" "I") (List.mem_of_getElem? (i := 2) rfl)) (fun _ h => h) rfl dX10_keep_6 ?_
  obtain ⟨h9, hf⟩ := op_gd hf
  obtain ⟨M1, eM1, hf⟩ := op_st hf
  refine m_iast hx hb hKK.1 hW hS 27 24 40 rfl h9 eM1 (ms_27 Γ q _ Y _ _) dX10_keep_9 (fun H locs hW hS => ?_)
  refine lv_aload_n hx hb dX10_keep_10 rfl (lv_at hl 0 rfl) ?_
  refine va_get hx hb hts ni_X10_keep_X10 hown hKK.1 (wd_x hW (k := 0) rfl) 0 rfl rfl 34 (by decide) (hts (.fieldLink RX10 101 "TiltRouteModel" "depths" "[I") (List.mem_of_getElem? (i := 3) rfl)) (fun _ h => h) rfl dX10_keep_11 ?_
  refine lv_iload_n hx hb dX10_keep_14 rfl (lv_at hl 1 rfl) ?_
  refine lv_aload_n hx hb dX10_keep_15 rfl (lv_at hl 0 rfl) ?_
  refine va_get hx hb hts ni_X10_keep_X10 hown hKK.1 (wd_x hW (k := 0) rfl) 0 rfl rfl 42 (by decide) (hts (.fieldLink RX10 188 "TiltRouteModel" "depth" "I") (List.mem_of_getElem? (i := 4) rfl)) (fun _ h => h) rfl dX10_keep_16 ?_
  obtain ⟨h19, hf⟩ := op_gd hf
  obtain ⟨M2, eM2, hf⟩ := op_st hf
  refine m_iast hx hb hKK.1 hW hS 34 31 40 rfl h19 eM2 (ms_34 Γ q _ Y _ _) dX10_keep_19 (fun H locs hW hS => ?_)
  refine lv_iconst (v := (0)) hx hb dX10_keep_20 (by decide) ?_
  obtain ⟨x3, ex3, hf⟩ := op_st hf
  have bx3 : x3 = 0 ∨ x3 = 1 := Or.inl ex3
  refine z_istn (lv' := [(2, .int x3), (0, .ref (q 0)), (1, .int i_1)]) ex3 hx hb dX10_keep_21 rfl hl (by decide) rfl (fun ls hl => ?_)
  obtain ⟨w6, q40, ew6, eq40, hf⟩ := op_lb hf
  have hw6 : ∀ n9 : Nat, ∀ (q4 : (Int32 × zMs)) (H : Heap) (locs : List Loc) (ls : Array Slot), lv_has ls 3 [(2, .int q4.1), (0, .ref (q 0)), (1, .int i_1)] → Wd Γ lo S (mcl Γ q q4.2 ++ Y) H → va_S (zA Γ) s.heap H locs → (∀ c, zV S c = zV S c) → lp w6 n9 q4 = some y → W p l e (headSpec wsX10_keep rmX10_keep).room s m ([.ref (q 0), .int i_1] : List Value).toArray below meth c H locs 0 0 (MQ below (zQ0 Γ lo S S (mcl Γ q y ++ Y) none True) ([.ref (q 0), .int i_1] : List Value).toArray s 0 0 (zA Γ)) (F0 m 22 ls []) := by
    intro n9
    induction n9 with
    | zero => intro q4 H locs ls hl hW hS hm hf; cases hf
    | succ n9 ih7 =>
      intro q4 H locs ls hl hW hS hm hf
      obtain ⟨n_, r5, hn_, hf, hr8⟩ := op_lq hf
      cases hn_
      rw [ew6] at hf
      refine lv_iload_n hx hb dX10_keep_22 rfl (lv_at hl 0 rfl) ?_
      refine lv_iconst (v := (3)) hx hb dX10_keep_23 (by decide) ?_
      refine lv_icmp_ge (tgt := 65) hx hb dX10_keep_24 (by decide) (fun k24 => ?_) (fun k24 => ?_)
      · have hf := (op_if hf).1 k24
        have hf := zr_r hf hr8
        rw [← hf]
        exact z_vret hx hb hr hlocks hW hS hm trivial dX10_keep_65
      · have hf := (op_if hf).2 k24
        refine lv_aload_n hx hb dX10_keep_27 rfl (lv_at hl 1 rfl) ?_
        refine va_get hx hb hts ni_X10_keep_X10 hown hKK.1 (wd_x hW (k := 0) rfl) 0 rfl rfl 35 (by decide) (hts (.fieldLink RX10 104 "TiltRouteModel" "stacks" "[I") (List.mem_of_getElem? (i := 5) rfl)) (fun _ h => h) rfl dX10_keep_28 ?_
        refine lv_iconst (v := (3)) hx hb dX10_keep_31 (by decide) ?_
        refine lv_iload_n hx hb dX10_keep_32 rfl (lv_at hl 2 rfl) ?_
        refine lv_imul hx hb dX10_keep_33 ?_
        refine lv_iload_n hx hb dX10_keep_34 rfl (lv_at hl 0 rfl) ?_
        refine lv_iadd hx hb dX10_keep_35 ?_
        refine lv_aload_n hx hb dX10_keep_36 rfl (lv_at hl 1 rfl) ?_
        refine va_get hx hb hts ni_X10_keep_X10 hown hKK.1 (wd_x hW (k := 0) rfl) 0 rfl rfl 43 (by decide) (hts (.fieldLink RX10 120 "TiltRouteModel" "stack" "[I") (List.mem_of_getElem? (i := 6) rfl)) (fun _ h => h) rfl dX10_keep_37 ?_
        refine lv_iload_n hx hb dX10_keep_40 rfl (lv_at hl 0 rfl) ?_
        obtain ⟨h41, hf⟩ := op_gd hf
        refine va_iald hx hb hKK.1 (wd_x hW (k := 37) rfl) 0 0 (n := 3) rfl rfl h41 dX10_keep_41 ?_
        obtain ⟨h42, hf⟩ := op_gd hf
        obtain ⟨M10, eM10, hf⟩ := op_st hf
        refine m_iast hx hb hKK.1 hW hS 35 32 120 rfl h42 eM10 (ms_35 Γ q _ Y _ _) dX10_keep_42 (fun H locs hW hS => ?_)
        refine lv_aload_n hx hb dX10_keep_43 rfl (lv_at hl 1 rfl) ?_
        refine va_get hx hb hts ni_X10_keep_X10 hown hKK.1 (wd_x hW (k := 0) rfl) 0 rfl rfl 36 (by decide) (hts (.fieldLink RX10 107 "TiltRouteModel" "hits" "[I") (List.mem_of_getElem? (i := 7) rfl)) (fun _ h => h) rfl dX10_keep_44 ?_
        refine lv_iconst (v := (3)) hx hb dX10_keep_47 (by decide) ?_
        refine lv_iload_n hx hb dX10_keep_48 rfl (lv_at hl 2 rfl) ?_
        refine lv_imul hx hb dX10_keep_49 ?_
        refine lv_iload_n hx hb dX10_keep_50 rfl (lv_at hl 0 rfl) ?_
        refine lv_iadd hx hb dX10_keep_51 ?_
        refine lv_aload_n hx hb dX10_keep_52 rfl (lv_at hl 1 rfl) ?_
        refine va_get hx hb hts ni_X10_keep_X10 hown hKK.1 (wd_x hW (k := 0) rfl) 0 rfl rfl 44 (by decide) (hts (.fieldLink RX10 123 "TiltRouteModel" "hit" "[I") (List.mem_of_getElem? (i := 8) rfl)) (fun _ h => h) rfl dX10_keep_53 ?_
        refine lv_iload_n hx hb dX10_keep_56 rfl (lv_at hl 0 rfl) ?_
        obtain ⟨h57, hf⟩ := op_gd hf
        refine va_iald hx hb hKK.1 (wd_x hW (k := 38) rfl) 0 0 (n := 3) rfl rfl h57 dX10_keep_57 ?_
        obtain ⟨h58, hf⟩ := op_gd hf
        obtain ⟨M11, eM11, hf⟩ := op_st hf
        refine m_iast hx hb hKK.1 hW hS 36 33 120 rfl h58 eM11 (ms_36 Γ q _ Y _ _) dX10_keep_58 (fun H locs hW hS => ?_)
        obtain ⟨x12, ex12, hf⟩ := op_st hf
        refine lv_iinc (v := x12) (lv' := [(2, .int x12), (0, .ref (q 0)), (1, .int i_1)]) hx hb dX10_keep_59 hl (k := 0) rfl (by rw [ex12]; rfl) (by decide) rfl (fun ls hl => ?_)
        refine lv_goto (tgt := 22) hx hb dX10_keep_62 (by decide) ?_
        have hf := zr_l hf hr8
        exact ih7 (x12, M11) H locs ls (lv_sub hl [0, 1, 2] rfl) hW hS hm hf
  rw [eq40] at hf
  exact hw6 _ (x3, M2) H locs ls (lv_sub hl [0, 1, 2] rfl) hW hS hm hf

theorem ni_X10_load_X10 : ∀ w ∈ wsX100, w ∈ wsX10_load := by decide +kernel
def fX10_load (M : zMs) (i_1 : Int32) : Option zMs :=
st (pM M 40 0 i_1) fun M1 =>
gd (¬ (i_1 < 0 ∨ 40 ≤ i_1.toNatClampNeg)) (
st (pM M1 41 0 (M1 27 i_1.toNatClampNeg)) fun M2 =>
gd (¬ (i_1 < 0 ∨ 40 ≤ i_1.toNatClampNeg)) (
st (pM M2 42 0 (M2 34 i_1.toNatClampNeg)) fun M3 =>
st (0 : Int32) fun x4 =>
lp (fun (q5 : (Int32 × zMs)) => (if (3 : Int32) ≤ q5.1 then
some (.inr (q5.2))
else
gd (¬ ((((3 : Int32) * i_1) + q5.1) < 0 ∨ 120 ≤ (((3 : Int32) * i_1) + q5.1).toNatClampNeg)) (
gd (¬ (q5.1 < 0 ∨ 3 ≤ q5.1.toNatClampNeg)) (
st (pM q5.2 43 q5.1.toNatClampNeg (q5.2 35 (((3 : Int32) * i_1) + q5.1).toNatClampNeg)) fun M11 =>
gd (¬ ((((3 : Int32) * i_1) + q5.1) < 0 ∨ 120 ≤ (((3 : Int32) * i_1) + q5.1).toNatClampNeg)) (
gd (¬ (q5.1 < 0 ∨ 3 ≤ q5.1.toNatClampNeg)) (
st (pM M11 44 q5.1.toNatClampNeg (M11 36 (((3 : Int32) * i_1) + q5.1).toNatClampNeg)) fun M12 =>
st (q5.1 + (1 : Int32)) fun x13 =>
some (.inl (x13, M12)))))) : Option ((Int32 × zMs) ⊕ zMs))) 40000 (x4, M3)))
abbrev rmX10_load : Room := { frames := 0, cells := 0, slots := 0, locals := 0 }
set_option maxHeartbeats 4000000 in
set_option maxRecDepth 100000 in
theorem tX10_load (l : Launch) (Γ : zG) (lo : zId → Nat) (S : zSt) (q : Nat → Nat) (M : zMs) (Y : va_W) {i_1 : Int32}  {y : zMs} (hf : fX10_load M i_1 = some y) : Met l yX10_load wsX10_load rmX10_load (zP0 Γ lo S (mcl Γ q M ++ Y) [.ref (q 0), .int i_1]) (zQ0 Γ lo S S (mcl Γ q y ++ Y) none True) 0 0 (zA Γ) := by
  refine Met.ofW (cc := cX10_load) (maxL := 3) (ret := none) (by decide) rfl ?_
  intro p e s m args below meth c s₁ B hml hv
  obtain ⟨rfl, hW, hKK⟩ := hv
  have hx := B.exec
  have hb := B.bytes
  have hr := B.returns
  have hts := atoms_spec (ws := wsX10_load) B.pre
  have hown : s.vm.findClass RX10 = some m.cls := findClass_of_methodNamed B.named
  have hlocks := B.notSynchronized
  have hS : va_S (zA Γ) s.heap s.heap [] := va_S.rf
  have hm : ∀ c, zV S c = zV S c := fun _ => rfl
  have hl := lv_entry ([.ref (q 0), .int i_1]) (n := 3) (Nat.le_of_ble_eq_true rfl)
  rw [lg_entry_eq]
  generalize (lg_sl ([.ref (q 0), .int i_1]) ++ List.replicate (3 - (lg_sl ([.ref (q 0), .int i_1])).length) Slot.unset).toArray = ls at hl ⊢
  have hl : lv_has ls 3 [(0, .ref (q 0)), (1, .int i_1)] := hl
  obtain ⟨H, hH0⟩ : ∃ H, H = s.heap := ⟨_, rfl⟩
  obtain ⟨locs, hlo0⟩ : ∃ L : List Loc, L = [] := ⟨_, rfl⟩
  have hS : va_S (zA Γ) s.heap H locs := by rw [hH0, hlo0]; exact hS
  have hW : Wd Γ lo S (mcl Γ q M ++ Y) H := by rw [hH0]; exact hW
  rw [← hH0, ← hlo0]
  unfold fX10_load at hf
  refine lv_aload_n hx hb dX10_load_0 rfl (lv_at hl 0 rfl) ?_
  refine lv_iload_n hx hb dX10_load_1 rfl (lv_at hl 1 rfl) ?_
  obtain ⟨M1, eM1, hf⟩ := op_st hf
  refine m_put hx hb hts ni_X10_load_X10 hown hKK.1 hW hS 40 (by decide) (hts (.fieldLink RX10 191 "TiltRouteModel" "played" "I") (List.mem_of_getElem? (i := 1) rfl)) rfl rfl rfl eM1 (ms_40 Γ q _ Y _) dX10_load_2 (fun H locs hW hS => ?_)
  refine lv_aload_n hx hb dX10_load_5 rfl (lv_at hl 0 rfl) ?_
  refine lv_aload_n hx hb dX10_load_6 rfl (lv_at hl 0 rfl) ?_
  refine va_get hx hb hts ni_X10_load_X10 hown hKK.1 (wd_x hW (k := 0) rfl) 0 rfl rfl 27 (by decide) (hts (.fieldLink RX10 80 "TiltRouteModel" "scores" "[I") (List.mem_of_getElem? (i := 2) rfl)) (fun _ h => h) rfl dX10_load_7 ?_
  refine lv_iload_n hx hb dX10_load_10 rfl (lv_at hl 1 rfl) ?_
  obtain ⟨h11, hf⟩ := op_gd hf
  refine va_iald hx hb hKK.1 (wd_x hW (k := 24) rfl) 0 0 (n := 40) rfl rfl h11 dX10_load_11 ?_
  obtain ⟨M2, eM2, hf⟩ := op_st hf
  refine m_put hx hb hts ni_X10_load_X10 hown hKK.1 hW hS 41 (by decide) (hts (.fieldLink RX10 194 "TiltRouteModel" "score" "I") (List.mem_of_getElem? (i := 3) rfl)) rfl rfl rfl eM2 (ms_41 Γ q _ Y _) dX10_load_12 (fun H locs hW hS => ?_)
  refine lv_aload_n hx hb dX10_load_15 rfl (lv_at hl 0 rfl) ?_
  refine lv_aload_n hx hb dX10_load_16 rfl (lv_at hl 0 rfl) ?_
  refine va_get hx hb hts ni_X10_load_X10 hown hKK.1 (wd_x hW (k := 0) rfl) 0 rfl rfl 34 (by decide) (hts (.fieldLink RX10 101 "TiltRouteModel" "depths" "[I") (List.mem_of_getElem? (i := 4) rfl)) (fun _ h => h) rfl dX10_load_17 ?_
  refine lv_iload_n hx hb dX10_load_20 rfl (lv_at hl 1 rfl) ?_
  obtain ⟨h21, hf⟩ := op_gd hf
  refine va_iald hx hb hKK.1 (wd_x hW (k := 31) rfl) 0 0 (n := 40) rfl rfl h21 dX10_load_21 ?_
  obtain ⟨M3, eM3, hf⟩ := op_st hf
  refine m_put hx hb hts ni_X10_load_X10 hown hKK.1 hW hS 42 (by decide) (hts (.fieldLink RX10 188 "TiltRouteModel" "depth" "I") (List.mem_of_getElem? (i := 5) rfl)) rfl rfl rfl eM3 (ms_42 Γ q _ Y _) dX10_load_22 (fun H locs hW hS => ?_)
  refine lv_iconst (v := (0)) hx hb dX10_load_25 (by decide) ?_
  obtain ⟨x4, ex4, hf⟩ := op_st hf
  have bx4 : x4 = 0 ∨ x4 = 1 := Or.inl ex4
  refine z_istn (lv' := [(2, .int x4), (0, .ref (q 0)), (1, .int i_1)]) ex4 hx hb dX10_load_26 rfl hl (by decide) rfl (fun ls hl => ?_)
  obtain ⟨w7, q50, ew7, eq50, hf⟩ := op_lb hf
  have hw7 : ∀ n10 : Nat, ∀ (q5 : (Int32 × zMs)) (H : Heap) (locs : List Loc) (ls : Array Slot), lv_has ls 3 [(2, .int q5.1), (0, .ref (q 0)), (1, .int i_1)] → Wd Γ lo S (mcl Γ q q5.2 ++ Y) H → va_S (zA Γ) s.heap H locs → (∀ c, zV S c = zV S c) → lp w7 n10 q5 = some y → W p l e (headSpec wsX10_load rmX10_load).room s m ([.ref (q 0), .int i_1] : List Value).toArray below meth c H locs 0 0 (MQ below (zQ0 Γ lo S S (mcl Γ q y ++ Y) none True) ([.ref (q 0), .int i_1] : List Value).toArray s 0 0 (zA Γ)) (F0 m 27 ls []) := by
    intro n10
    induction n10 with
    | zero => intro q5 H locs ls hl hW hS hm hf; cases hf
    | succ n10 ih8 =>
      intro q5 H locs ls hl hW hS hm hf
      obtain ⟨n_, r6, hn_, hf, hr9⟩ := op_lq hf
      cases hn_
      rw [ew7] at hf
      refine lv_iload_n hx hb dX10_load_27 rfl (lv_at hl 0 rfl) ?_
      refine lv_iconst (v := (3)) hx hb dX10_load_28 (by decide) ?_
      refine lv_icmp_ge (tgt := 70) hx hb dX10_load_29 (by decide) (fun k29 => ?_) (fun k29 => ?_)
      · have hf := (op_if hf).1 k29
        have hf := zr_r hf hr9
        rw [← hf]
        exact z_vret hx hb hr hlocks hW hS hm trivial dX10_load_70
      · have hf := (op_if hf).2 k29
        refine lv_aload_n hx hb dX10_load_32 rfl (lv_at hl 1 rfl) ?_
        refine va_get hx hb hts ni_X10_load_X10 hown hKK.1 (wd_x hW (k := 0) rfl) 0 rfl rfl 43 (by decide) (hts (.fieldLink RX10 120 "TiltRouteModel" "stack" "[I") (List.mem_of_getElem? (i := 6) rfl)) (fun _ h => h) rfl dX10_load_33 ?_
        refine lv_iload_n hx hb dX10_load_36 rfl (lv_at hl 0 rfl) ?_
        refine lv_aload_n hx hb dX10_load_37 rfl (lv_at hl 1 rfl) ?_
        refine va_get hx hb hts ni_X10_load_X10 hown hKK.1 (wd_x hW (k := 0) rfl) 0 rfl rfl 35 (by decide) (hts (.fieldLink RX10 104 "TiltRouteModel" "stacks" "[I") (List.mem_of_getElem? (i := 7) rfl)) (fun _ h => h) rfl dX10_load_38 ?_
        refine lv_iconst (v := (3)) hx hb dX10_load_41 (by decide) ?_
        refine lv_iload_n hx hb dX10_load_42 rfl (lv_at hl 2 rfl) ?_
        refine lv_imul hx hb dX10_load_43 ?_
        refine lv_iload_n hx hb dX10_load_44 rfl (lv_at hl 0 rfl) ?_
        refine lv_iadd hx hb dX10_load_45 ?_
        obtain ⟨h46, hf⟩ := op_gd hf
        refine va_iald hx hb hKK.1 (wd_x hW (k := 32) rfl) 0 0 (n := 120) rfl rfl h46 dX10_load_46 ?_
        obtain ⟨h47, hf⟩ := op_gd hf
        obtain ⟨M11, eM11, hf⟩ := op_st hf
        refine m_iast hx hb hKK.1 hW hS 43 37 3 rfl h47 eM11 (ms_43 Γ q _ Y _ _) dX10_load_47 (fun H locs hW hS => ?_)
        refine lv_aload_n hx hb dX10_load_48 rfl (lv_at hl 1 rfl) ?_
        refine va_get hx hb hts ni_X10_load_X10 hown hKK.1 (wd_x hW (k := 0) rfl) 0 rfl rfl 44 (by decide) (hts (.fieldLink RX10 123 "TiltRouteModel" "hit" "[I") (List.mem_of_getElem? (i := 8) rfl)) (fun _ h => h) rfl dX10_load_49 ?_
        refine lv_iload_n hx hb dX10_load_52 rfl (lv_at hl 0 rfl) ?_
        refine lv_aload_n hx hb dX10_load_53 rfl (lv_at hl 1 rfl) ?_
        refine va_get hx hb hts ni_X10_load_X10 hown hKK.1 (wd_x hW (k := 0) rfl) 0 rfl rfl 36 (by decide) (hts (.fieldLink RX10 107 "TiltRouteModel" "hits" "[I") (List.mem_of_getElem? (i := 9) rfl)) (fun _ h => h) rfl dX10_load_54 ?_
        refine lv_iconst (v := (3)) hx hb dX10_load_57 (by decide) ?_
        refine lv_iload_n hx hb dX10_load_58 rfl (lv_at hl 2 rfl) ?_
        refine lv_imul hx hb dX10_load_59 ?_
        refine lv_iload_n hx hb dX10_load_60 rfl (lv_at hl 0 rfl) ?_
        refine lv_iadd hx hb dX10_load_61 ?_
        obtain ⟨h62, hf⟩ := op_gd hf
        refine va_iald hx hb hKK.1 (wd_x hW (k := 33) rfl) 0 0 (n := 120) rfl rfl h62 dX10_load_62 ?_
        obtain ⟨h63, hf⟩ := op_gd hf
        obtain ⟨M12, eM12, hf⟩ := op_st hf
        refine m_iast hx hb hKK.1 hW hS 44 38 3 rfl h63 eM12 (ms_44 Γ q _ Y _ _) dX10_load_63 (fun H locs hW hS => ?_)
        obtain ⟨x13, ex13, hf⟩ := op_st hf
        refine lv_iinc (v := x13) (lv' := [(2, .int x13), (0, .ref (q 0)), (1, .int i_1)]) hx hb dX10_load_64 hl (k := 0) rfl (by rw [ex13]; rfl) (by decide) rfl (fun ls hl => ?_)
        refine lv_goto (tgt := 27) hx hb dX10_load_67 (by decide) ?_
        have hf := zr_l hf hr9
        exact ih8 (x13, M12) H locs ls (lv_sub hl [0, 1, 2] rfl) hW hS hm hf
  rw [eq50] at hf
  exact hw7 _ (x4, M3) H locs ls (lv_sub hl [0, 1, 2] rfl) hW hS hm hf

theorem ni_X10_roll_X10 : ∀ w ∈ wsX100, w ∈ wsX10_roll := by decide +kernel
def fX10_roll (M : zMs) (i_1 : Int32) (i_2 : Int32) (i_3 : Int32) (i_4 : Int32) (i_5 : Int32) : Option zMs :=
st i_3 fun x1 =>
st (0 : Int32) fun x2 =>
st i_4 fun x3 =>
st i_5 fun x4 =>
st (0 : Int32) fun x5 =>
st (0 : Int32) fun x6 =>
lp (fun (q7 : (Int32 × Int32 × Int32 × Int32 × Int32 × Int32 × zMs)) => (st (fun (u_ : Unit) => (gd (¬ (i_2 < 0 ∨ 120 ≤ i_2.toNatClampNeg)) (
st (pM q7.2.2.2.2.2.2 37 i_2.toNatClampNeg q7.2.2.2.2.2.1) fun M14 =>
some (.inr (M14))) : Option ((Int32 × Int32 × Int32 × Int32 × Int32 × Int32 × zMs) ⊕ zMs))) fun j13 =>
if q7.2.2.2.2.1 = 0 then
if (300 : Int32) ≤ q7.2.2.2.2.2.1 then
j13 ()
else
st (q7.2.2.2.2.2.1 + (1 : Int32)) fun x15 =>
st (fun (y16 : Int32) => (st y16 fun x18 =>
st q7.1 fun x19 =>
st (q7.1 + q7.2.2.1) fun x20 =>
st (fun (y21 : Int32) (y22 : Int32) => (cl (fX10_bumperAt q7.2.2.2.2.2.2 i_1 y21 q7.2.1) fun r24 =>
st r24 fun x26 =>
st (fun (y27 : Int32) (y28 : Int32) => (st q7.2.1 fun x30 =>
st (-1 : Int32) fun x31 =>
st (q7.2.1 + x18) fun x32 =>
st (fun (y33 : Int32) => (st y33 fun x36 =>
st (fun (y37 : Int32) (y38 : Int32) (y39 : Int32) => (cl2 (fX10_strike q7.2.2.2.2.2.2 i_1 x26) fun r41 M43 =>
st r41 fun x44 =>
cl2 (fX10_strike M43 i_1 y39) fun r45 M47 =>
gd (¬ (((((300 : Int32) * i_2) + x15) - (1 : Int32)) < 0 ∨ 36000 ≤ ((((300 : Int32) * i_2) + x15) - (1 : Int32)).toNatClampNeg)) (
st (pM M47 38 ((((300 : Int32) * i_2) + x15) - (1 : Int32)).toNatClampNeg (x44 + ((9 : Int32) * r45))) fun M48 =>
st (0 : Int32) fun x49 =>
lp (fun (q50 : (Int32 × zMs)) => (st (fun (u_ : Unit) => (some (.inr (.inl (y27, y37, y28, y38, x36, x15, q50.2))) : Option ((Int32 × zMs) ⊕ ((Int32 × Int32 × Int32 × Int32 × Int32 × Int32 × zMs) ⊕ zMs)))) fun j56 =>
if (8 : Int32) ≤ q50.1 then
j56 ()
else
if (x15 - x15 / (10 : Int32) * (10 : Int32)) = 0 then
gd (¬ ((((8 : Int32) * i_2) + q50.1) < 0 ∨ 960 ≤ (((8 : Int32) * i_2) + q50.1).toNatClampNeg)) (
st (fun (S57 : zMs) => (st (q50.1 + (1 : Int32)) fun x59 =>
some (.inl (x59, S57)) : Option ((Int32 × zMs) ⊕ ((Int32 × Int32 × Int32 × Int32 × Int32 × Int32 × zMs) ⊕ zMs)))) fun j58 =>
if (q50.2 39 (((8 : Int32) * i_2) + q50.1).toNatClampNeg) ≤ 0 then
j58 q50.2
else
cl (fX10_close q50.2 q50.1) fun M62 =>
j58 M62)
else
j56 () : Option ((Int32 × zMs) ⊕ ((Int32 × Int32 × Int32 × Int32 × Int32 × Int32 × zMs) ⊕ zMs)))) 40000 (x49, M48)) : Option ((Int32 × Int32 × Int32 × Int32 × Int32 × Int32 × zMs) ⊕ zMs))) fun j40 =>
if x36 = 0 then
st (fun (y63 : Int32) (y64 : Int32) => (cl (fX10_bumperAt q7.2.2.2.2.2.2 i_1 y27 y63) fun r66 =>
st r66 fun x68 =>
if x68 = (-1 : Int32) then
j40 y63 y64 x68
else
st x30 fun x69 =>
cl (fX10_kicked q7.2.2.2.2.2.2 i_1 x68 y64) fun r70 =>
st r70 fun x72 =>
j40 x69 x72 x68 : Option ((Int32 × Int32 × Int32 × Int32 × Int32 × Int32 × zMs) ⊕ zMs))) fun j65 =>
if 0 ≤ x32 then
j65 x32 x18
else
st (-x32) fun x73 =>
st (-x18) fun x74 =>
j65 x73 x74
else
j40 x32 x18 x31 : Option ((Int32 × Int32 × Int32 × Int32 × Int32 × Int32 × zMs) ⊕ zMs))) fun j35 =>
if x32 ≤ (239 : Int32) then
j35 (0 : Int32)
else
j35 (1 : Int32) : Option ((Int32 × Int32 × Int32 × Int32 × Int32 × Int32 × zMs) ⊕ zMs))) fun j29 =>
if x26 = (-1 : Int32) then
j29 y21 y22
else
st x19 fun x75 =>
cl (fX10_kicked q7.2.2.2.2.2.2 i_1 x26 y22) fun r76 =>
st r76 fun x78 =>
j29 x75 x78 : Option ((Int32 × Int32 × Int32 × Int32 × Int32 × Int32 × zMs) ⊕ zMs))) fun j23 =>
st (fun (u_ : Unit) => (st (fun (y80 : Int32) => (st y80 fun x82 =>
st (-q7.2.2.1) fun x83 =>
j23 x82 x83 : Option ((Int32 × Int32 × Int32 × Int32 × Int32 × Int32 × zMs) ⊕ zMs))) fun j81 =>
if 0 ≤ x20 then
j81 ((318 : Int32) - x20)
else
j81 (-x20) : Option ((Int32 × Int32 × Int32 × Int32 × Int32 × Int32 × zMs) ⊕ zMs))) fun j79 =>
if x20 < 0 then
j79 ()
else
if x20 ≤ (159 : Int32) then
j23 x20 q7.2.2.1
else
j79 () : Option ((Int32 × Int32 × Int32 × Int32 × Int32 × Int32 × zMs) ⊕ zMs))) fun j17 =>
if (q7.2.2.2.1 + (2 : Int32)) ≤ (30 : Int32) then
j17 (q7.2.2.2.1 + (2 : Int32))
else
j17 (30 : Int32)
else
j13 () : Option ((Int32 × Int32 × Int32 × Int32 × Int32 × Int32 × zMs) ⊕ zMs))) 40000 (x1, x2, x3, x4, x5, x6, M)
abbrev rmX10_roll : Room := { frames := 3, cells := 0, slots := 0, locals := 69 }
set_option maxHeartbeats 4000000 in
set_option maxRecDepth 100000 in
theorem tX10_roll (l : Launch) (Γ : zG) (lo : zId → Nat) (S : zSt) (q : Nat → Nat) (M : zMs) (Y : va_W) {i_1 : Int32} {i_2 : Int32} {i_3 : Int32} {i_4 : Int32} {i_5 : Int32}  {y : zMs} (hf : fX10_roll M i_1 i_2 i_3 i_4 i_5 = some y) : Met l yX10_roll wsX10_roll rmX10_roll (zP0 Γ lo S (mcl Γ q M ++ Y) [.ref (q 0), .int i_1, .int i_2, .int i_3, .int i_4, .int i_5]) (zQ0 Γ lo S S (mcl Γ q y ++ Y) none True) 0 0 (zA Γ) := by
  refine Met.ofW (cc := cX10_roll) (maxL := 18) (ret := none) (by decide) rfl ?_
  intro p e s m args below meth c s₁ B hml hv
  obtain ⟨rfl, hW, hKK⟩ := hv
  have hx := B.exec
  have hb := B.bytes
  have hr := B.returns
  have hts := atoms_spec (ws := wsX10_roll) B.pre
  have hown : s.vm.findClass RX10 = some m.cls := findClass_of_methodNamed B.named
  have hlocks := B.notSynchronized
  have hS : va_S (zA Γ) s.heap s.heap [] := va_S.rf
  have hm : ∀ c, zV S c = zV S c := fun _ => rfl
  have hl := lv_entry ([.ref (q 0), .int i_1, .int i_2, .int i_3, .int i_4, .int i_5]) (n := 18) (Nat.le_of_ble_eq_true rfl)
  rw [lg_entry_eq]
  generalize (lg_sl ([.ref (q 0), .int i_1, .int i_2, .int i_3, .int i_4, .int i_5]) ++ List.replicate (18 - (lg_sl ([.ref (q 0), .int i_1, .int i_2, .int i_3, .int i_4, .int i_5])).length) Slot.unset).toArray = ls at hl ⊢
  have hl : lv_has ls 18 [(0, .ref (q 0)), (1, .int i_1), (2, .int i_2), (3, .int i_3), (4, .int i_4), (5, .int i_5)] := hl
  obtain ⟨H, hH0⟩ : ∃ H, H = s.heap := ⟨_, rfl⟩
  obtain ⟨locs, hlo0⟩ : ∃ L : List Loc, L = [] := ⟨_, rfl⟩
  have hS : va_S (zA Γ) s.heap H locs := by rw [hH0, hlo0]; exact hS
  have hW : Wd Γ lo S (mcl Γ q M ++ Y) H := by rw [hH0]; exact hW
  rw [← hH0, ← hlo0]
  unfold fX10_roll at hf
  refine lv_iload_n hx hb dX10_roll_0 rfl (lv_at hl 3 rfl) ?_
  obtain ⟨x1, ex1, hf⟩ := op_st hf
  refine z_ist (lv' := [(6, .int x1), (0, .ref (q 0)), (1, .int i_1), (2, .int i_2), (3, .int i_3), (4, .int i_4), (5, .int i_5)]) ex1 hx hb dX10_roll_1 hl (by decide) rfl (fun ls hl => ?_)
  refine lv_iconst (v := (0)) hx hb dX10_roll_3 (by decide) ?_
  obtain ⟨x2, ex2, hf⟩ := op_st hf
  have bx2 : x2 = 0 ∨ x2 = 1 := Or.inl ex2
  refine z_ist (lv' := [(7, .int x2), (6, .int x1), (0, .ref (q 0)), (1, .int i_1), (2, .int i_2), (3, .int i_3), (4, .int i_4), (5, .int i_5)]) ex2 hx hb dX10_roll_4 hl (by decide) rfl (fun ls hl => ?_)
  refine lv_iload hx hb dX10_roll_6 (lv_at hl 6 rfl) ?_
  obtain ⟨x3, ex3, hf⟩ := op_st hf
  refine z_ist (lv' := [(8, .int x3), (7, .int x2), (6, .int x1), (0, .ref (q 0)), (1, .int i_1), (2, .int i_2), (3, .int i_3), (4, .int i_4), (5, .int i_5)]) ex3 hx hb dX10_roll_8 hl (by decide) rfl (fun ls hl => ?_)
  refine lv_iload hx hb dX10_roll_10 (lv_at hl 8 rfl) ?_
  obtain ⟨x4, ex4, hf⟩ := op_st hf
  refine z_ist (lv' := [(9, .int x4), (8, .int x3), (7, .int x2), (6, .int x1), (0, .ref (q 0)), (1, .int i_1), (2, .int i_2), (3, .int i_3), (4, .int i_4), (5, .int i_5)]) ex4 hx hb dX10_roll_12 hl (by decide) rfl (fun ls hl => ?_)
  refine lv_iconst (v := (0)) hx hb dX10_roll_14 (by decide) ?_
  obtain ⟨x5, ex5, hf⟩ := op_st hf
  have bx5 : x5 = 0 ∨ x5 = 1 := Or.inl ex5
  refine z_ist (lv' := [(10, .int x5), (9, .int x4), (8, .int x3), (7, .int x2), (6, .int x1), (0, .ref (q 0)), (1, .int i_1), (2, .int i_2), (3, .int i_3), (4, .int i_4), (5, .int i_5)]) ex5 hx hb dX10_roll_15 hl (by decide) rfl (fun ls hl => ?_)
  refine lv_iconst (v := (0)) hx hb dX10_roll_17 (by decide) ?_
  obtain ⟨x6, ex6, hf⟩ := op_st hf
  have bx6 : x6 = 0 ∨ x6 = 1 := Or.inl ex6
  refine z_ist (lv' := [(11, .int x6), (10, .int x5), (9, .int x4), (8, .int x3), (7, .int x2), (6, .int x1), (0, .ref (q 0)), (1, .int i_1), (2, .int i_2), (3, .int i_3), (4, .int i_4), (5, .int i_5)]) ex6 hx hb dX10_roll_18 hl (by decide) rfl (fun ls hl => ?_)
  obtain ⟨w9, q70, ew9, eq70, hf⟩ := op_lb hf
  have hw9 : ∀ n12 : Nat, ∀ (q7 : (Int32 × Int32 × Int32 × Int32 × Int32 × Int32 × zMs)) (H : Heap) (locs : List Loc) (ls : Array Slot), lv_has ls 18 [(11, .int q7.2.2.2.2.2.1), (10, .int q7.2.2.2.2.1), (9, .int q7.2.2.2.1), (8, .int q7.2.2.1), (7, .int q7.2.1), (6, .int q7.1), (0, .ref (q 0)), (1, .int i_1), (2, .int i_2)] → Wd Γ lo S (mcl Γ q q7.2.2.2.2.2.2 ++ Y) H → va_S (zA Γ) s.heap H locs → (∀ c, zV S c = zV S c) → lp w9 n12 q7 = some y → W p l e (headSpec wsX10_roll rmX10_roll).room s m ([.ref (q 0), .int i_1, .int i_2, .int i_3, .int i_4, .int i_5] : List Value).toArray below meth c H locs 0 0 (MQ below (zQ0 Γ lo S S (mcl Γ q y ++ Y) none True) ([.ref (q 0), .int i_1, .int i_2, .int i_3, .int i_4, .int i_5] : List Value).toArray s 0 0 (zA Γ)) (F0 m 20 ls []) := by
    intro n12
    induction n12 with
    | zero => intro q7 H locs ls hl hW hS hm hf; cases hf
    | succ n12 ih10 =>
      intro q7 H locs ls hl hW hS hm hf
      obtain ⟨n_, r8, hn_, hf, hr11⟩ := op_lq hf
      cases hn_
      rw [ew9] at hf
      refine lv_iload hx hb dX10_roll_20 (lv_at hl 1 rfl) ?_
      obtain ⟨j13, ej13, hf⟩ := op_st hf
      have hj13 : ∀ (u_ : Unit) (H : Heap) (locs : List Loc) (ls : Array Slot), lv_has ls 18 [(11, .int q7.2.2.2.2.2.1), (0, .ref (q 0)), (2, .int i_2)] → Wd Γ lo S (mcl Γ q q7.2.2.2.2.2.2 ++ Y) H → va_S (zA Γ) s.heap H locs → (∀ c, zV S c = zV S c) → j13 () = some r8 → W p l e (headSpec wsX10_roll rmX10_roll).room s m ([.ref (q 0), .int i_1, .int i_2, .int i_3, .int i_4, .int i_5] : List Value).toArray below meth c H locs 0 0 (MQ below (zQ0 Γ lo S S (mcl Γ q y ++ Y) none True) ([.ref (q 0), .int i_1, .int i_2, .int i_3, .int i_4, .int i_5] : List Value).toArray s 0 0 (zA Γ)) (F0 m 302 ls []) := by
        intro u_ H locs ls  hl hW hS hm hf
        rw [ej13] at hf
        refine lv_aload_n hx hb dX10_roll_302 rfl (lv_at hl 1 rfl) ?_
        refine va_get hx hb hts ni_X10_roll_X10 hown hKK.1 (wd_x hW (k := 0) rfl) 0 rfl rfl 37 (by decide) (hts (.fieldLink RX10 110 "TiltRouteModel" "steps" "[I") (List.mem_of_getElem? (i := 3) rfl)) (fun _ h => h) rfl dX10_roll_303 ?_
        refine lv_iload_n hx hb dX10_roll_306 rfl (lv_at hl 2 rfl) ?_
        refine lv_iload hx hb dX10_roll_307 (lv_at hl 0 rfl) ?_
        obtain ⟨h309, hf⟩ := op_gd hf
        obtain ⟨M14, eM14, hf⟩ := op_st hf
        refine m_iast hx hb hKK.1 hW hS 37 34 120 rfl h309 eM14 (ms_37 Γ q _ Y _ _) dX10_roll_309 (fun H locs hW hS => ?_)
        have hf := zr_r hf hr11
        rw [← hf]
        exact z_vret hx hb hr hlocks hW hS hm trivial dX10_roll_310
      refine lv_if_ne (tgt := 302) hx hb dX10_roll_22 (by decide) (fun k22 => ?_) (fun k22 => ?_)
      · have hf := (op_if hf).2 k22
        exact hj13 () H locs ls  (lv_sub hl [0, 6, 8] rfl) hW hS hm hf
      · have hf := (op_if hf).1 k22
        refine lv_iload hx hb dX10_roll_25 (lv_at hl 0 rfl) ?_
        refine lv_sipush (v := (300)) hx hb dX10_roll_27 (by decide) ?_
        refine lv_icmp_ge (tgt := 302) hx hb dX10_roll_30 (by decide) (fun k30 => ?_) (fun k30 => ?_)
        · have hf := (op_if hf).1 k30
          exact hj13 () H locs ls  (lv_sub hl [0, 6, 8] rfl) hW hS hm hf
        · have hf := (op_if hf).2 k30
          obtain ⟨x15, ex15, hf⟩ := op_st hf
          refine lv_iinc (v := x15) (lv' := [(11, .int x15), (10, .int q7.2.2.2.2.1), (9, .int q7.2.2.2.1), (8, .int q7.2.2.1), (7, .int q7.2.1), (6, .int q7.1), (0, .ref (q 0)), (1, .int i_1), (2, .int i_2)]) hx hb dX10_roll_33 hl (k := 0) rfl (by rw [ex15]; rfl) (by decide) rfl (fun ls hl => ?_)
          refine lv_iload hx hb dX10_roll_36 (lv_at hl 2 rfl) ?_
          refine lv_iconst (v := (2)) hx hb dX10_roll_38 (by decide) ?_
          refine lv_iadd hx hb dX10_roll_39 ?_
          refine lv_bipush (v := (30)) hx hb dX10_roll_40 (by decide) ?_
          obtain ⟨j17, ej17, hf⟩ := op_st hf
          have hj17 : ∀ (y16 : Int32) (H : Heap) (locs : List Loc) (ls : Array Slot), lv_has ls 18 [(11, .int x15), (8, .int q7.2.2.1), (7, .int q7.2.1), (6, .int q7.1), (0, .ref (q 0)), (1, .int i_1), (2, .int i_2)] → Wd Γ lo S (mcl Γ q q7.2.2.2.2.2.2 ++ Y) H → va_S (zA Γ) s.heap H locs → (∀ c, zV S c = zV S c) → j17 y16 = some r8 → W p l e (headSpec wsX10_roll rmX10_roll).room s m ([.ref (q 0), .int i_1, .int i_2, .int i_3, .int i_4, .int i_5] : List Value).toArray below meth c H locs 0 0 (MQ below (zQ0 Γ lo S S (mcl Γ q y ++ Y) none True) ([.ref (q 0), .int i_1, .int i_2, .int i_3, .int i_4, .int i_5] : List Value).toArray s 0 0 (zA Γ)) (F0 m 54 ls [.int y16]) := by
            intro y16 H locs ls  hl hW hS hm hf
            rw [ej17] at hf
            obtain ⟨x18, ex18, hf⟩ := op_st hf
            refine z_ist (lv' := [(9, .int x18), (11, .int x15), (8, .int q7.2.2.1), (7, .int q7.2.1), (6, .int q7.1), (0, .ref (q 0)), (1, .int i_1), (2, .int i_2)]) ex18 hx hb dX10_roll_54 hl (by decide) rfl (fun ls hl => ?_)
            refine lv_iload hx hb dX10_roll_56 (lv_at hl 4 rfl) ?_
            obtain ⟨x19, ex19, hf⟩ := op_st hf
            refine z_ist (lv' := [(12, .int x19), (9, .int x18), (11, .int x15), (8, .int q7.2.2.1), (7, .int q7.2.1), (6, .int q7.1), (0, .ref (q 0)), (1, .int i_1), (2, .int i_2)]) ex19 hx hb dX10_roll_58 hl (by decide) rfl (fun ls hl => ?_)
            refine lv_iload hx hb dX10_roll_60 (lv_at hl 5 rfl) ?_
            refine lv_iload hx hb dX10_roll_62 (lv_at hl 3 rfl) ?_
            refine lv_iadd hx hb dX10_roll_64 ?_
            obtain ⟨x20, ex20, hf⟩ := op_st hf
            refine z_ist (lv' := [(6, .int x20), (12, .int x19), (9, .int x18), (11, .int x15), (8, .int q7.2.2.1), (7, .int q7.2.1), (0, .ref (q 0)), (1, .int i_1), (2, .int i_2)]) ex20 hx hb dX10_roll_65 hl (by decide) rfl (fun ls hl => ?_)
            refine lv_iload hx hb dX10_roll_67 (lv_at hl 0 rfl) ?_
            obtain ⟨j23, ej23, hf⟩ := op_st hf
            have hj23 : ∀ (y21 : Int32) (y22 : Int32) (H : Heap) (locs : List Loc) (ls : Array Slot), lv_has ls 18 [(12, .int x19), (9, .int x18), (11, .int x15), (7, .int q7.2.1), (0, .ref (q 0)), (1, .int i_1), (2, .int i_2), (6, .int y21), (8, .int y22)] → Wd Γ lo S (mcl Γ q q7.2.2.2.2.2.2 ++ Y) H → va_S (zA Γ) s.heap H locs → (∀ c, zV S c = zV S c) → j23 y21 y22 = some r8 → W p l e (headSpec wsX10_roll rmX10_roll).room s m ([.ref (q 0), .int i_1, .int i_2, .int i_3, .int i_4, .int i_5] : List Value).toArray below meth c H locs 0 0 (MQ below (zQ0 Γ lo S S (mcl Γ q y ++ Y) none True) ([.ref (q 0), .int i_1, .int i_2, .int i_3, .int i_4, .int i_5] : List Value).toArray s 0 0 (zA Γ)) (F0 m 104 ls []) := by
              intro y21 y22 H locs ls  hl hW hS hm hf
              rw [ej23] at hf
              refine lv_aload_n hx hb dX10_roll_104 rfl (lv_at hl 4 rfl) ?_
              refine lv_iload_n hx hb dX10_roll_105 rfl (lv_at hl 5 rfl) ?_
              refine lv_iload hx hb dX10_roll_106 (lv_at hl 7 rfl) ?_
              refine lv_iload hx hb dX10_roll_108 (lv_at hl 3 rfl) ?_
              obtain ⟨r24, hc25, hf⟩ := op_cl hf
              refine z_callV (As := [.int i_1, .int y21, .int q7.2.1]) (rest := []) ⟨hx, hb, hml, hown, hts⟩ (tX10_bumperAt l Γ lo S q q7.2.2.2.2.2.2 Y  hc25) (cwV 3 hts gX10_roll_X10_bumperAt rfl rfl rfl (by decide +kernel) ⟨Nat.le_of_ble_eq_true rfl, Nat.le_of_ble_eq_true rfl⟩) (wd_x hW (k := 0) rfl) rfl hKK hW hS rfl hl.1 rfl (Nat.le_of_ble_eq_true rfl) dX10_roll_110 ⟨Nat.zero_le _, Nat.zero_le _⟩ (fun H locs hW hS hm1 hE => ?_)
              obtain ⟨x26, ex26, hf⟩ := op_st hf
              refine z_ist (lv' := [(13, .int x26), (12, .int x19), (9, .int x18), (11, .int x15), (7, .int q7.2.1), (0, .ref (q 0)), (1, .int i_1), (2, .int i_2), (6, .int y21), (8, .int y22)]) ex26 hx hb dX10_roll_113 hl (by decide) rfl (fun ls hl => ?_)
              refine lv_iload hx hb dX10_roll_115 (lv_at hl 0 rfl) ?_
              refine lv_iconst (v := (-1)) hx hb dX10_roll_117 (by decide) ?_
              obtain ⟨j29, ej29, hf⟩ := op_st hf
              have hj29 : ∀ (y27 : Int32) (y28 : Int32) (H : Heap) (locs : List Loc) (ls : Array Slot), lv_has ls 18 [(13, .int x26), (9, .int x18), (11, .int x15), (7, .int q7.2.1), (0, .ref (q 0)), (1, .int i_1), (2, .int i_2), (6, .int y27), (8, .int y28)] → Wd Γ lo S (mcl Γ q q7.2.2.2.2.2.2 ++ Y) H → va_S (zA Γ) s.heap H locs → (∀ c, zV S c = zV S c) → j29 y27 y28 = some r8 → W p l e (headSpec wsX10_roll rmX10_roll).room s m ([.ref (q 0), .int i_1, .int i_2, .int i_3, .int i_4, .int i_5] : List Value).toArray below meth c H locs 0 0 (MQ below (zQ0 Γ lo S S (mcl Γ q y ++ Y) none True) ([.ref (q 0), .int i_1, .int i_2, .int i_3, .int i_4, .int i_5] : List Value).toArray s 0 0 (zA Γ)) (F0 m 136 ls []) := by
                intro y27 y28 H locs ls  hl hW hS hm hf
                rw [ej29] at hf
                refine lv_iload hx hb dX10_roll_136 (lv_at hl 3 rfl) ?_
                obtain ⟨x30, ex30, hf⟩ := op_st hf
                refine z_ist (lv' := [(14, .int x30), (13, .int x26), (9, .int x18), (11, .int x15), (7, .int q7.2.1), (0, .ref (q 0)), (1, .int i_1), (2, .int i_2), (6, .int y27), (8, .int y28)]) ex30 hx hb dX10_roll_138 hl (by decide) rfl (fun ls hl => ?_)
                refine lv_iconst (v := (-1)) hx hb dX10_roll_140 (by decide) ?_
                obtain ⟨x31, ex31, hf⟩ := op_st hf
                refine z_ist (lv' := [(15, .int x31), (14, .int x30), (13, .int x26), (9, .int x18), (11, .int x15), (7, .int q7.2.1), (0, .ref (q 0)), (1, .int i_1), (2, .int i_2), (6, .int y27), (8, .int y28)]) ex31 hx hb dX10_roll_141 hl (by decide) rfl (fun ls hl => ?_)
                refine lv_iload hx hb dX10_roll_143 (lv_at hl 5 rfl) ?_
                refine lv_iload hx hb dX10_roll_145 (lv_at hl 3 rfl) ?_
                refine lv_iadd hx hb dX10_roll_147 ?_
                obtain ⟨x32, ex32, hf⟩ := op_st hf
                refine z_ist (lv' := [(7, .int x32), (15, .int x31), (14, .int x30), (13, .int x26), (9, .int x18), (11, .int x15), (0, .ref (q 0)), (1, .int i_1), (2, .int i_2), (6, .int y27), (8, .int y28)]) ex32 hx hb dX10_roll_148 hl (by decide) rfl (fun ls hl => ?_)
                refine lv_iload hx hb dX10_roll_150 (lv_at hl 0 rfl) ?_
                refine lv_sipush (v := (239)) hx hb dX10_roll_152 (by decide) ?_
                obtain ⟨j35, ej35, hf⟩ := op_st hf
                have hj35 : ∀ (y33 : Int32) (H : Heap) (locs : List Loc) (ls : Array Slot) (b34 : y33 = 0 ∨ y33 = 1), lv_has ls 18 [(7, .int x32), (15, .int x31), (14, .int x30), (13, .int x26), (9, .int x18), (11, .int x15), (0, .ref (q 0)), (1, .int i_1), (2, .int i_2), (6, .int y27), (8, .int y28)] → Wd Γ lo S (mcl Γ q q7.2.2.2.2.2.2 ++ Y) H → va_S (zA Γ) s.heap H locs → (∀ c, zV S c = zV S c) → j35 y33 = some r8 → W p l e (headSpec wsX10_roll rmX10_roll).room s m ([.ref (q 0), .int i_1, .int i_2, .int i_3, .int i_4, .int i_5] : List Value).toArray below meth c H locs 0 0 (MQ below (zQ0 Γ lo S S (mcl Γ q y ++ Y) none True) ([.ref (q 0), .int i_1, .int i_2, .int i_3, .int i_4, .int i_5] : List Value).toArray s 0 0 (zA Γ)) (F0 m 163 ls [.int y33]) := by
                  intro y33 H locs ls b34 hl hW hS hm hf
                  rw [ej35] at hf
                  obtain ⟨x36, ex36, hf⟩ := op_st hf
                  have bx36 : x36 = 0 ∨ x36 = 1 := by rw [ex36]; exact b34
                  refine z_ist (lv' := [(10, .int x36), (7, .int x32), (15, .int x31), (14, .int x30), (13, .int x26), (9, .int x18), (11, .int x15), (0, .ref (q 0)), (1, .int i_1), (2, .int i_2), (6, .int y27), (8, .int y28)]) ex36 hx hb dX10_roll_163 hl (by decide) rfl (fun ls hl => ?_)
                  refine lv_iload hx hb dX10_roll_165 (lv_at hl 0 rfl) ?_
                  obtain ⟨j40, ej40, hf⟩ := op_st hf
                  have hj40 : ∀ (y37 : Int32) (y38 : Int32) (y39 : Int32) (H : Heap) (locs : List Loc) (ls : Array Slot), lv_has ls 18 [(10, .int x36), (13, .int x26), (11, .int x15), (0, .ref (q 0)), (1, .int i_1), (2, .int i_2), (6, .int y27), (8, .int y28), (7, .int y37), (9, .int y38), (15, .int y39)] → Wd Γ lo S (mcl Γ q q7.2.2.2.2.2.2 ++ Y) H → va_S (zA Γ) s.heap H locs → (∀ c, zV S c = zV S c) → j40 y37 y38 y39 = some r8 → W p l e (headSpec wsX10_roll rmX10_roll).room s m ([.ref (q 0), .int i_1, .int i_2, .int i_3, .int i_4, .int i_5] : List Value).toArray below meth c H locs 0 0 (MQ below (zQ0 Γ lo S S (mcl Γ q y ++ Y) none True) ([.ref (q 0), .int i_1, .int i_2, .int i_3, .int i_4, .int i_5] : List Value).toArray s 0 0 (zA Γ)) (F0 m 217 ls []) := by
                    intro y37 y38 y39 H locs ls  hl hW hS hm hf
                    rw [ej40] at hf
                    refine lv_aload_n hx hb dX10_roll_217 rfl (lv_at hl 3 rfl) ?_
                    refine lv_iload_n hx hb dX10_roll_218 rfl (lv_at hl 4 rfl) ?_
                    refine lv_iload hx hb dX10_roll_219 (lv_at hl 1 rfl) ?_
                    obtain ⟨r41, M43, hc42, hf⟩ := op_cl2 hf
                    refine z_callV (As := [.int i_1, .int x26]) (rest := []) ⟨hx, hb, hml, hown, hts⟩ (tX10_strike l Γ lo S q q7.2.2.2.2.2.2 Y  hc42) (cwV 2 hts gX10_roll_X10_strike rfl rfl rfl (by decide +kernel) ⟨Nat.le_of_ble_eq_true rfl, Nat.le_of_ble_eq_true rfl⟩) (wd_x hW (k := 0) rfl) rfl hKK hW hS rfl hl.1 rfl (Nat.le_of_ble_eq_true rfl) dX10_roll_221 ⟨Nat.zero_le _, Nat.zero_le _⟩ (fun H locs hW hS hm1 hE => ?_)
                    obtain ⟨x44, ex44, hf⟩ := op_st hf
                    refine z_ist (lv' := [(16, .int x44), (10, .int x36), (13, .int x26), (11, .int x15), (0, .ref (q 0)), (1, .int i_1), (2, .int i_2), (6, .int y27), (8, .int y28), (7, .int y37), (9, .int y38), (15, .int y39)]) ex44 hx hb dX10_roll_224 hl (by decide) rfl (fun ls hl => ?_)
                    refine lv_aload_n hx hb dX10_roll_226 rfl (lv_at hl 4 rfl) ?_
                    refine va_get hx hb hts ni_X10_roll_X10 hown hKK.1 (wd_x hW (k := 0) rfl) 0 rfl rfl 38 (by decide) (hts (.fieldLink RX10 114 "TiltRouteModel" "closed" "[I") (List.mem_of_getElem? (i := 1) rfl)) (fun _ h => h) rfl dX10_roll_227 ?_
                    refine lv_sipush (v := (300)) hx hb dX10_roll_230 (by decide) ?_
                    refine lv_iload_n hx hb dX10_roll_233 rfl (lv_at hl 6 rfl) ?_
                    refine lv_imul hx hb dX10_roll_234 ?_
                    refine lv_iload hx hb dX10_roll_235 (lv_at hl 3 rfl) ?_
                    refine lv_iadd hx hb dX10_roll_237 ?_
                    refine lv_iconst (v := (1)) hx hb dX10_roll_238 (by decide) ?_
                    refine lv_isub hx hb dX10_roll_239 ?_
                    refine lv_iload hx hb dX10_roll_240 (lv_at hl 0 rfl) ?_
                    refine lv_bipush (v := (9)) hx hb dX10_roll_242 (by decide) ?_
                    refine lv_aload_n hx hb dX10_roll_244 rfl (lv_at hl 4 rfl) ?_
                    refine lv_iload_n hx hb dX10_roll_245 rfl (lv_at hl 5 rfl) ?_
                    refine lv_iload hx hb dX10_roll_246 (lv_at hl 11 rfl) ?_
                    obtain ⟨r45, M47, hc46, hf⟩ := op_cl2 hf
                    refine z_callV (As := [.int i_1, .int y39]) (rest := [.int (9 : Int32), .int x44, .int ((((300 : Int32) * i_2) + x15) - (1 : Int32)), .ref (q 39)]) ⟨hx, hb, hml, hown, hts⟩ (tX10_strike l Γ lo S q M43 Y  hc46) (cwV 2 hts gX10_roll_X10_strike rfl rfl rfl (by decide +kernel) ⟨Nat.le_of_ble_eq_true rfl, Nat.le_of_ble_eq_true rfl⟩) (wd_x hW (k := 0) rfl) rfl hKK hW hS rfl hl.1 rfl (Nat.le_of_ble_eq_true rfl) dX10_roll_248 ⟨Nat.zero_le _, Nat.zero_le _⟩ (fun H locs hW hS hm1 hE => ?_)
                    refine lv_imul hx hb dX10_roll_251 ?_
                    refine lv_iadd hx hb dX10_roll_252 ?_
                    obtain ⟨h253, hf⟩ := op_gd hf
                    obtain ⟨M48, eM48, hf⟩ := op_st hf
                    refine m_iast hx hb hKK.1 hW hS 38 35 36000 rfl h253 eM48 (ms_38 Γ q _ Y _ _) dX10_roll_253 (fun H locs hW hS => ?_)
                    refine lv_iconst (v := (0)) hx hb dX10_roll_254 (by decide) ?_
                    obtain ⟨x49, ex49, hf⟩ := op_st hf
                    have bx49 : x49 = 0 ∨ x49 = 1 := Or.inl ex49
                    refine z_ist (lv' := [(17, .int x49), (16, .int x44), (10, .int x36), (13, .int x26), (11, .int x15), (0, .ref (q 0)), (1, .int i_1), (2, .int i_2), (6, .int y27), (8, .int y28), (7, .int y37), (9, .int y38), (15, .int y39)]) ex49 hx hb dX10_roll_255 hl (by decide) rfl (fun ls hl => ?_)
                    obtain ⟨w52, q500, ew52, eq500, hf⟩ := op_lb hf
                    have hw52 : ∀ n55 : Nat, ∀ (q50 : (Int32 × zMs)) (H : Heap) (locs : List Loc) (ls : Array Slot), lv_has ls 18 [(17, .int q50.1), (10, .int x36), (11, .int x15), (0, .ref (q 0)), (1, .int i_1), (2, .int i_2), (6, .int y27), (8, .int y28), (7, .int y37), (9, .int y38)] → Wd Γ lo S (mcl Γ q q50.2 ++ Y) H → va_S (zA Γ) s.heap H locs → (∀ c, zV S c = zV S c) → lp w52 n55 q50 = some r8 → W p l e (headSpec wsX10_roll rmX10_roll).room s m ([.ref (q 0), .int i_1, .int i_2, .int i_3, .int i_4, .int i_5] : List Value).toArray below meth c H locs 0 0 (MQ below (zQ0 Γ lo S S (mcl Γ q y ++ Y) none True) ([.ref (q 0), .int i_1, .int i_2, .int i_3, .int i_4, .int i_5] : List Value).toArray s 0 0 (zA Γ)) (F0 m 257 ls []) := by
                      intro n55
                      induction n55 with
                      | zero => intro q50 H locs ls hl hW hS hm hf; cases hf
                      | succ n55 ih53 =>
                        intro q50 H locs ls hl hW hS hm hf
                        obtain ⟨n_, r51, hn_, hf, hr54⟩ := op_lq hf
                        cases hn_
                        rw [ew52] at hf
                        refine lv_iload hx hb dX10_roll_257 (lv_at hl 0 rfl) ?_
                        refine lv_bipush (v := (8)) hx hb dX10_roll_259 (by decide) ?_
                        obtain ⟨j56, ej56, hf⟩ := op_st hf
                        have hj56 : ∀ (u_ : Unit) (H : Heap) (locs : List Loc) (ls : Array Slot), lv_has ls 18 [(10, .int x36), (11, .int x15), (0, .ref (q 0)), (1, .int i_1), (2, .int i_2), (6, .int y27), (8, .int y28), (7, .int y37), (9, .int y38)] → Wd Γ lo S (mcl Γ q q50.2 ++ Y) H → va_S (zA Γ) s.heap H locs → (∀ c, zV S c = zV S c) → j56 () = some r51 → W p l e (headSpec wsX10_roll rmX10_roll).room s m ([.ref (q 0), .int i_1, .int i_2, .int i_3, .int i_4, .int i_5] : List Value).toArray below meth c H locs 0 0 (MQ below (zQ0 Γ lo S S (mcl Γ q y ++ Y) none True) ([.ref (q 0), .int i_1, .int i_2, .int i_3, .int i_4, .int i_5] : List Value).toArray s 0 0 (zA Γ)) (F0 m 299 ls []) := by
                          intro u_ H locs ls  hl hW hS hm hf
                          rw [ej56] at hf
                          refine lv_goto (tgt := 20) hx hb dX10_roll_299 (by decide) ?_
                          have hf := congrArg some (zr_r hf hr54)
                          have hf := zr_l hf hr11
                          exact ih10 (y27, y37, y28, y38, x36, x15, q50.2) H locs ls (lv_sub hl [1, 0, 8, 6, 7, 5, 2, 3, 4] rfl) hW hS hm hf
                        refine lv_icmp_ge (tgt := 299) hx hb dX10_roll_261 (by decide) (fun k261 => ?_) (fun k261 => ?_)
                        · have hf := (op_if hf).1 k261
                          exact hj56 () H locs ls  (lv_sub hl [1, 2, 3, 4, 5, 6, 7, 8, 9] rfl) hW hS hm hf
                        · have hf := (op_if hf).2 k261
                          refine lv_iload hx hb dX10_roll_264 (lv_at hl 2 rfl) ?_
                          refine lv_bipush (v := (10)) hx hb dX10_roll_266 (by decide) ?_
                          refine lv_irem hx hb dX10_roll_268 (by decide) ?_
                          refine lv_if_ne (tgt := 299) hx hb dX10_roll_269 (by decide) (fun k269 => ?_) (fun k269 => ?_)
                          · have hf := (op_if hf).2 k269
                            exact hj56 () H locs ls  (lv_sub hl [1, 2, 3, 4, 5, 6, 7, 8, 9] rfl) hW hS hm hf
                          · have hf := (op_if hf).1 k269
                            refine lv_aload_n hx hb dX10_roll_272 rfl (lv_at hl 3 rfl) ?_
                            refine va_get hx hb hts ni_X10_roll_X10 hown hKK.1 (wd_x hW (k := 0) rfl) 0 rfl rfl 39 (by decide) (hts (.fieldLink RX10 117 "TiltRouteModel" "stickingOf" "[I") (List.mem_of_getElem? (i := 2) rfl)) (fun _ h => h) rfl dX10_roll_273 ?_
                            refine lv_bipush (v := (8)) hx hb dX10_roll_276 (by decide) ?_
                            refine lv_iload_n hx hb dX10_roll_278 rfl (lv_at hl 5 rfl) ?_
                            refine lv_imul hx hb dX10_roll_279 ?_
                            refine lv_iload hx hb dX10_roll_280 (lv_at hl 0 rfl) ?_
                            refine lv_iadd hx hb dX10_roll_282 ?_
                            obtain ⟨h283, hf⟩ := op_gd hf
                            refine va_iald hx hb hKK.1 (wd_x hW (k := 36) rfl) 0 0 (n := 960) rfl rfl h283 dX10_roll_283 ?_
                            obtain ⟨j58, ej58, hf⟩ := op_st hf
                            have hj58 : ∀ (S57 : zMs) (H : Heap) (locs : List Loc) (ls : Array Slot), lv_has ls 18 [(17, .int q50.1), (10, .int x36), (11, .int x15), (0, .ref (q 0)), (1, .int i_1), (2, .int i_2), (6, .int y27), (8, .int y28), (7, .int y37), (9, .int y38)] → Wd Γ lo S (mcl Γ q S57 ++ Y) H → va_S (zA Γ) s.heap H locs → (∀ c, zV S c = zV S c) → j58 S57 = some r51 → W p l e (headSpec wsX10_roll rmX10_roll).room s m ([.ref (q 0), .int i_1, .int i_2, .int i_3, .int i_4, .int i_5] : List Value).toArray below meth c H locs 0 0 (MQ below (zQ0 Γ lo S S (mcl Γ q y ++ Y) none True) ([.ref (q 0), .int i_1, .int i_2, .int i_3, .int i_4, .int i_5] : List Value).toArray s 0 0 (zA Γ)) (F0 m 293 ls []) := by
                              intro S57 H locs ls  hl hW hS hm hf
                              rw [ej58] at hf
                              obtain ⟨x59, ex59, hf⟩ := op_st hf
                              refine lv_iinc (v := x59) (lv' := [(17, .int x59), (10, .int x36), (11, .int x15), (0, .ref (q 0)), (1, .int i_1), (2, .int i_2), (6, .int y27), (8, .int y28), (7, .int y37), (9, .int y38)]) hx hb dX10_roll_293 hl (k := 0) rfl (by rw [ex59]; rfl) (by decide) rfl (fun ls hl => ?_)
                              refine lv_goto (tgt := 257) hx hb dX10_roll_296 (by decide) ?_
                              have hf := zr_l hf hr54
                              exact ih53 (x59, S57) H locs ls (lv_sub hl [0, 1, 2, 3, 4, 5, 6, 7, 8, 9] rfl) hW hS hm hf
                            refine lv_if_le (tgt := 293) hx hb dX10_roll_284 (by decide) (fun k284 => ?_) (fun k284 => ?_)
                            · have hf := (op_if hf).1 k284
                              exact hj58 q50.2 H locs ls  (lv_sub hl [0, 1, 2, 3, 4, 5, 6, 7, 8, 9] rfl) hW hS hm hf
                            · have hf := (op_if hf).2 k284
                              refine lv_aload_n hx hb dX10_roll_287 rfl (lv_at hl 3 rfl) ?_
                              refine lv_iload hx hb dX10_roll_288 (lv_at hl 0 rfl) ?_
                              obtain ⟨M62, hc61, hf⟩ := op_cl hf
                              refine z_callV (As := [.int q50.1]) (rest := []) ⟨hx, hb, hml, hown, hts⟩ (tX10_close l Γ lo S q q50.2 Y  hc61) (cwV 1 hts gX10_roll_X10_close rfl rfl rfl (by decide +kernel) ⟨Nat.le_of_ble_eq_true rfl, Nat.le_of_ble_eq_true rfl⟩) (wd_x hW (k := 0) rfl) rfl hKK hW hS rfl hl.1 rfl (Nat.le_of_ble_eq_true rfl) dX10_roll_290 ⟨Nat.zero_le _, Nat.zero_le _⟩ (fun H locs hW hS hm1 hE => ?_)
                              exact hj58 M62 H locs ls  (lv_sub hl [0, 1, 2, 3, 4, 5, 6, 7, 8, 9] rfl) hW hS hm hf
                    rw [eq500] at hf
                    exact hw52 _ (x49, M48) H locs ls (lv_sub hl [0, 2, 4, 5, 6, 7, 8, 9, 10, 11] rfl) hW hS hm hf
                  refine lv_if_ne (tgt := 217) hx hb dX10_roll_167 (by decide) (fun k167 => ?_) (fun k167 => ?_)
                  · have hf := (op_if hf).2 k167
                    exact hj40 x32 x18 x31 H locs ls  (lv_sub hl [0, 4, 6, 7, 8, 9, 10, 11, 1, 5, 2] rfl) hW hS hm hf
                  · have hf := (op_if hf).1 k167
                    refine lv_iload hx hb dX10_roll_170 (lv_at hl 1 rfl) ?_
                    obtain ⟨j65, ej65, hf⟩ := op_st hf
                    have hj65 : ∀ (y63 : Int32) (y64 : Int32) (H : Heap) (locs : List Loc) (ls : Array Slot), lv_has ls 18 [(10, .int x36), (14, .int x30), (13, .int x26), (11, .int x15), (0, .ref (q 0)), (1, .int i_1), (2, .int i_2), (6, .int y27), (8, .int y28), (7, .int y63), (9, .int y64)] → Wd Γ lo S (mcl Γ q q7.2.2.2.2.2.2 ++ Y) H → va_S (zA Γ) s.heap H locs → (∀ c, zV S c = zV S c) → j65 y63 y64 = some r8 → W p l e (headSpec wsX10_roll rmX10_roll).room s m ([.ref (q 0), .int i_1, .int i_2, .int i_3, .int i_4, .int i_5] : List Value).toArray below meth c H locs 0 0 (MQ below (zQ0 Γ lo S S (mcl Γ q y ++ Y) none True) ([.ref (q 0), .int i_1, .int i_2, .int i_3, .int i_4, .int i_5] : List Value).toArray s 0 0 (zA Γ)) (F0 m 185 ls []) := by
                      intro y63 y64 H locs ls  hl hW hS hm hf
                      rw [ej65] at hf
                      refine lv_aload_n hx hb dX10_roll_185 rfl (lv_at hl 4 rfl) ?_
                      refine lv_iload_n hx hb dX10_roll_186 rfl (lv_at hl 5 rfl) ?_
                      refine lv_iload hx hb dX10_roll_187 (lv_at hl 7 rfl) ?_
                      refine lv_iload hx hb dX10_roll_189 (lv_at hl 9 rfl) ?_
                      obtain ⟨r66, hc67, hf⟩ := op_cl hf
                      refine z_callV (As := [.int i_1, .int y27, .int y63]) (rest := []) ⟨hx, hb, hml, hown, hts⟩ (tX10_bumperAt l Γ lo S q q7.2.2.2.2.2.2 Y  hc67) (cwV 3 hts gX10_roll_X10_bumperAt rfl rfl rfl (by decide +kernel) ⟨Nat.le_of_ble_eq_true rfl, Nat.le_of_ble_eq_true rfl⟩) (wd_x hW (k := 0) rfl) rfl hKK hW hS rfl hl.1 rfl (Nat.le_of_ble_eq_true rfl) dX10_roll_191 ⟨Nat.zero_le _, Nat.zero_le _⟩ (fun H locs hW hS hm1 hE => ?_)
                      obtain ⟨x68, ex68, hf⟩ := op_st hf
                      refine z_ist (lv' := [(15, .int x68), (10, .int x36), (14, .int x30), (13, .int x26), (11, .int x15), (0, .ref (q 0)), (1, .int i_1), (2, .int i_2), (6, .int y27), (8, .int y28), (7, .int y63), (9, .int y64)]) ex68 hx hb dX10_roll_194 hl (by decide) rfl (fun ls hl => ?_)
                      refine lv_iload hx hb dX10_roll_196 (lv_at hl 0 rfl) ?_
                      refine lv_iconst (v := (-1)) hx hb dX10_roll_198 (by decide) ?_
                      refine lv_icmp_eq (tgt := 217) hx hb dX10_roll_199 (by decide) (fun k199 => ?_) (fun k199 => ?_)
                      · have hf := (op_if hf).1 k199
                        exact hj40 y63 y64 x68 H locs ls  (lv_sub hl [1, 3, 4, 5, 6, 7, 8, 9, 10, 11, 0] rfl) hW hS hm hf
                      · have hf := (op_if hf).2 k199
                        refine lv_iload hx hb dX10_roll_202 (lv_at hl 2 rfl) ?_
                        obtain ⟨x69, ex69, hf⟩ := op_st hf
                        refine z_ist (lv' := [(7, .int x69), (15, .int x68), (10, .int x36), (14, .int x30), (13, .int x26), (11, .int x15), (0, .ref (q 0)), (1, .int i_1), (2, .int i_2), (6, .int y27), (8, .int y28), (9, .int y64)]) ex69 hx hb dX10_roll_204 hl (by decide) rfl (fun ls hl => ?_)
                        refine lv_aload_n hx hb dX10_roll_206 rfl (lv_at hl 6 rfl) ?_
                        refine lv_iload_n hx hb dX10_roll_207 rfl (lv_at hl 7 rfl) ?_
                        refine lv_iload hx hb dX10_roll_208 (lv_at hl 1 rfl) ?_
                        refine lv_iload hx hb dX10_roll_210 (lv_at hl 11 rfl) ?_
                        obtain ⟨r70, hc71, hf⟩ := op_cl hf
                        refine z_callV (As := [.int i_1, .int x68, .int y64]) (rest := []) ⟨hx, hb, hml, hown, hts⟩ (tX10_kicked l Γ lo S q q7.2.2.2.2.2.2 Y  hc71) (cwV 3 hts gX10_roll_X10_kicked rfl rfl rfl (by decide +kernel) ⟨Nat.le_of_ble_eq_true rfl, Nat.le_of_ble_eq_true rfl⟩) (wd_x hW (k := 0) rfl) rfl hKK hW hS rfl hl.1 rfl (Nat.le_of_ble_eq_true rfl) dX10_roll_212 ⟨Nat.zero_le _, Nat.zero_le _⟩ (fun H locs hW hS hm1 hE => ?_)
                        obtain ⟨x72, ex72, hf⟩ := op_st hf
                        refine z_ist (lv' := [(9, .int x72), (7, .int x69), (15, .int x68), (10, .int x36), (14, .int x30), (13, .int x26), (11, .int x15), (0, .ref (q 0)), (1, .int i_1), (2, .int i_2), (6, .int y27), (8, .int y28)]) ex72 hx hb dX10_roll_215 hl (by decide) rfl (fun ls hl => ?_)
                        exact hj40 x69 x72 x68 H locs ls  (lv_sub hl [3, 5, 6, 7, 8, 9, 10, 11, 1, 0, 2] rfl) hW hS hm hf
                    refine lv_if_ge (tgt := 185) hx hb dX10_roll_172 (by decide) (fun k172 => ?_) (fun k172 => ?_)
                    · have hf := (op_if hf).1 k172
                      exact hj65 x32 x18 H locs ls  (lv_sub hl [0, 3, 4, 6, 7, 8, 9, 10, 11, 1, 5] rfl) hW hS hm hf
                    · have hf := (op_if hf).2 k172
                      refine lv_iload hx hb dX10_roll_175 (lv_at hl 1 rfl) ?_
                      refine lv_ineg hx hb dX10_roll_177 ?_
                      obtain ⟨x73, ex73, hf⟩ := op_st hf
                      refine z_ist (lv' := [(7, .int x73), (10, .int x36), (15, .int x31), (14, .int x30), (13, .int x26), (9, .int x18), (11, .int x15), (0, .ref (q 0)), (1, .int i_1), (2, .int i_2), (6, .int y27), (8, .int y28)]) ex73 hx hb dX10_roll_178 hl (by decide) rfl (fun ls hl => ?_)
                      refine lv_iload hx hb dX10_roll_180 (lv_at hl 5 rfl) ?_
                      refine lv_ineg hx hb dX10_roll_182 ?_
                      obtain ⟨x74, ex74, hf⟩ := op_st hf
                      refine z_ist (lv' := [(9, .int x74), (7, .int x73), (10, .int x36), (15, .int x31), (14, .int x30), (13, .int x26), (11, .int x15), (0, .ref (q 0)), (1, .int i_1), (2, .int i_2), (6, .int y27), (8, .int y28)]) ex74 hx hb dX10_roll_183 hl (by decide) rfl (fun ls hl => ?_)
                      exact hj65 x73 x74 H locs ls  (lv_sub hl [2, 4, 5, 6, 7, 8, 9, 10, 11, 1, 0] rfl) hW hS hm hf
                refine lv_icmp_le (tgt := 162) hx hb dX10_roll_155 (by decide) (fun k155 => ?_) (fun k155 => ?_)
                · have hf := (op_if hf).1 k155
                  refine lv_iconst (v := (0)) hx hb dX10_roll_162 (by decide) ?_
                  exact hj35 (0 : Int32) H locs ls (Or.inl rfl) (lv_sub hl [0, 1, 2, 3, 4, 5, 6, 7, 8, 9, 10] rfl) hW hS hm hf
                · have hf := (op_if hf).2 k155
                  refine lv_iconst (v := (1)) hx hb dX10_roll_158 (by decide) ?_
                  refine lv_goto (tgt := 163) hx hb dX10_roll_159 (by decide) ?_
                  exact hj35 (1 : Int32) H locs ls (Or.inr rfl) (lv_sub hl [0, 1, 2, 3, 4, 5, 6, 7, 8, 9, 10] rfl) hW hS hm hf
              refine lv_icmp_eq (tgt := 136) hx hb dX10_roll_118 (by decide) (fun k118 => ?_) (fun k118 => ?_)
              · have hf := (op_if hf).1 k118
                exact hj29 y21 y22 H locs ls  (lv_sub hl [0, 2, 3, 4, 5, 6, 7, 8, 9] rfl) hW hS hm hf
              · have hf := (op_if hf).2 k118
                refine lv_iload hx hb dX10_roll_121 (lv_at hl 1 rfl) ?_
                obtain ⟨x75, ex75, hf⟩ := op_st hf
                refine z_ist (lv' := [(6, .int x75), (13, .int x26), (12, .int x19), (9, .int x18), (11, .int x15), (7, .int q7.2.1), (0, .ref (q 0)), (1, .int i_1), (2, .int i_2), (8, .int y22)]) ex75 hx hb dX10_roll_123 hl (by decide) rfl (fun ls hl => ?_)
                refine lv_aload_n hx hb dX10_roll_125 rfl (lv_at hl 6 rfl) ?_
                refine lv_iload_n hx hb dX10_roll_126 rfl (lv_at hl 7 rfl) ?_
                refine lv_iload hx hb dX10_roll_127 (lv_at hl 1 rfl) ?_
                refine lv_iload hx hb dX10_roll_129 (lv_at hl 9 rfl) ?_
                obtain ⟨r76, hc77, hf⟩ := op_cl hf
                refine z_callV (As := [.int i_1, .int x26, .int y22]) (rest := []) ⟨hx, hb, hml, hown, hts⟩ (tX10_kicked l Γ lo S q q7.2.2.2.2.2.2 Y  hc77) (cwV 3 hts gX10_roll_X10_kicked rfl rfl rfl (by decide +kernel) ⟨Nat.le_of_ble_eq_true rfl, Nat.le_of_ble_eq_true rfl⟩) (wd_x hW (k := 0) rfl) rfl hKK hW hS rfl hl.1 rfl (Nat.le_of_ble_eq_true rfl) dX10_roll_131 ⟨Nat.zero_le _, Nat.zero_le _⟩ (fun H locs hW hS hm1 hE => ?_)
                obtain ⟨x78, ex78, hf⟩ := op_st hf
                refine z_ist (lv' := [(8, .int x78), (6, .int x75), (13, .int x26), (12, .int x19), (9, .int x18), (11, .int x15), (7, .int q7.2.1), (0, .ref (q 0)), (1, .int i_1), (2, .int i_2)]) ex78 hx hb dX10_roll_134 hl (by decide) rfl (fun ls hl => ?_)
                exact hj29 x75 x78 H locs ls  (lv_sub hl [2, 4, 5, 6, 7, 8, 9, 1, 0] rfl) hW hS hm hf
            obtain ⟨j79, ej79, hf⟩ := op_st hf
            have hj79 : ∀ (u_ : Unit) (H : Heap) (locs : List Loc) (ls : Array Slot), lv_has ls 18 [(6, .int x20), (12, .int x19), (9, .int x18), (11, .int x15), (8, .int q7.2.2.1), (7, .int q7.2.1), (0, .ref (q 0)), (1, .int i_1), (2, .int i_2)] → Wd Γ lo S (mcl Γ q q7.2.2.2.2.2.2 ++ Y) H → va_S (zA Γ) s.heap H locs → (∀ c, zV S c = zV S c) → j79 () = some r8 → W p l e (headSpec wsX10_roll rmX10_roll).room s m ([.ref (q 0), .int i_1, .int i_2, .int i_3, .int i_4, .int i_5] : List Value).toArray below meth c H locs 0 0 (MQ below (zQ0 Γ lo S S (mcl Γ q y ++ Y) none True) ([.ref (q 0), .int i_1, .int i_2, .int i_3, .int i_4, .int i_5] : List Value).toArray s 0 0 (zA Γ)) (F0 m 80 ls []) := by
              intro u_ H locs ls  hl hW hS hm hf
              rw [ej79] at hf
              refine lv_iload hx hb dX10_roll_80 (lv_at hl 0 rfl) ?_
              obtain ⟨j81, ej81, hf⟩ := op_st hf
              have hj81 : ∀ (y80 : Int32) (H : Heap) (locs : List Loc) (ls : Array Slot), lv_has ls 18 [(12, .int x19), (9, .int x18), (11, .int x15), (8, .int q7.2.2.1), (7, .int q7.2.1), (0, .ref (q 0)), (1, .int i_1), (2, .int i_2)] → Wd Γ lo S (mcl Γ q q7.2.2.2.2.2.2 ++ Y) H → va_S (zA Γ) s.heap H locs → (∀ c, zV S c = zV S c) → j81 y80 = some r8 → W p l e (headSpec wsX10_roll rmX10_roll).room s m ([.ref (q 0), .int i_1, .int i_2, .int i_3, .int i_4, .int i_5] : List Value).toArray below meth c H locs 0 0 (MQ below (zQ0 Γ lo S S (mcl Γ q y ++ Y) none True) ([.ref (q 0), .int i_1, .int i_2, .int i_3, .int i_4, .int i_5] : List Value).toArray s 0 0 (zA Γ)) (F0 m 97 ls [.int y80]) := by
                intro y80 H locs ls  hl hW hS hm hf
                rw [ej81] at hf
                obtain ⟨x82, ex82, hf⟩ := op_st hf
                refine z_ist (lv' := [(6, .int x82), (12, .int x19), (9, .int x18), (11, .int x15), (8, .int q7.2.2.1), (7, .int q7.2.1), (0, .ref (q 0)), (1, .int i_1), (2, .int i_2)]) ex82 hx hb dX10_roll_97 hl (by decide) rfl (fun ls hl => ?_)
                refine lv_iload hx hb dX10_roll_99 (lv_at hl 4 rfl) ?_
                refine lv_ineg hx hb dX10_roll_101 ?_
                obtain ⟨x83, ex83, hf⟩ := op_st hf
                refine z_ist (lv' := [(8, .int x83), (6, .int x82), (12, .int x19), (9, .int x18), (11, .int x15), (7, .int q7.2.1), (0, .ref (q 0)), (1, .int i_1), (2, .int i_2)]) ex83 hx hb dX10_roll_102 hl (by decide) rfl (fun ls hl => ?_)
                exact hj23 x82 x83 H locs ls  (lv_sub hl [2, 3, 4, 5, 6, 7, 8, 1, 0] rfl) hW hS hm hf
              refine lv_if_ge (tgt := 91) hx hb dX10_roll_82 (by decide) (fun k82 => ?_) (fun k82 => ?_)
              · have hf := (op_if hf).1 k82
                refine lv_sipush (v := (318)) hx hb dX10_roll_91 (by decide) ?_
                refine lv_iload hx hb dX10_roll_94 (lv_at hl 0 rfl) ?_
                refine lv_isub hx hb dX10_roll_96 ?_
                exact hj81 ((318 : Int32) - x20) H locs ls  (lv_sub hl [1, 2, 3, 4, 5, 6, 7, 8] rfl) hW hS hm hf
              · have hf := (op_if hf).2 k82
                refine lv_iload hx hb dX10_roll_85 (lv_at hl 0 rfl) ?_
                refine lv_ineg hx hb dX10_roll_87 ?_
                refine lv_goto (tgt := 97) hx hb dX10_roll_88 (by decide) ?_
                exact hj81 (-x20) H locs ls  (lv_sub hl [1, 2, 3, 4, 5, 6, 7, 8] rfl) hW hS hm hf
            refine lv_if_lt (tgt := 80) hx hb dX10_roll_69 (by decide) (fun k69 => ?_) (fun k69 => ?_)
            · have hf := (op_if hf).1 k69
              exact hj79 () H locs ls  (lv_sub hl [0, 1, 2, 3, 4, 5, 6, 7, 8] rfl) hW hS hm hf
            · have hf := (op_if hf).2 k69
              refine lv_iload hx hb dX10_roll_72 (lv_at hl 0 rfl) ?_
              refine lv_sipush (v := (159)) hx hb dX10_roll_74 (by decide) ?_
              refine lv_icmp_le (tgt := 104) hx hb dX10_roll_77 (by decide) (fun k77 => ?_) (fun k77 => ?_)
              · have hf := (op_if hf).1 k77
                exact hj23 x20 q7.2.2.1 H locs ls  (lv_sub hl [1, 2, 3, 5, 6, 7, 8, 0, 4] rfl) hW hS hm hf
              · have hf := (op_if hf).2 k77
                exact hj79 () H locs ls  (lv_sub hl [0, 1, 2, 3, 4, 5, 6, 7, 8] rfl) hW hS hm hf
          refine lv_icmp_le (tgt := 50) hx hb dX10_roll_42 (by decide) (fun k42 => ?_) (fun k42 => ?_)
          · have hf := (op_if hf).1 k42
            refine lv_iload hx hb dX10_roll_50 (lv_at hl 2 rfl) ?_
            refine lv_iconst (v := (2)) hx hb dX10_roll_52 (by decide) ?_
            refine lv_iadd hx hb dX10_roll_53 ?_
            exact hj17 (q7.2.2.2.1 + (2 : Int32)) H locs ls  (lv_sub hl [0, 3, 4, 5, 6, 7, 8] rfl) hW hS hm hf
          · have hf := (op_if hf).2 k42
            refine lv_bipush (v := (30)) hx hb dX10_roll_45 (by decide) ?_
            refine lv_goto (tgt := 54) hx hb dX10_roll_47 (by decide) ?_
            exact hj17 (30 : Int32) H locs ls  (lv_sub hl [0, 3, 4, 5, 6, 7, 8] rfl) hW hS hm hf
  rw [eq70] at hf
  exact hw9 _ (x1, x2, x3, x4, x5, x6, M) H locs ls (lv_sub hl [0, 1, 2, 3, 4, 5, 6, 7, 8] rfl) hW hS hm hf

theorem ni_X10_shoot_X10 : ∀ w ∈ wsX100, w ∈ wsX10_shoot := by decide +kernel
def fX10_shoot (M : zMs) (i_1 : Int32) (i_2 : Int32) (i_3 : Int32) (i_4 : Int32) : Option (Int32 × zMs) :=
cl (fX10_in M i_2 (0 : Int32) (159 : Int32)) fun r1 =>
st (fun (y4 : Int32) => (st y4 fun x7 =>
cl (fX10_isTable M i_1) fun r8 =>
st (fun (y11 : Int32) => (cl2 (fX10_refused M y11) fun r13 M15 =>
if r13 = 0 then
gd (¬ (i_1 < 0 ∨ 6 ≤ i_1.toNatClampNeg)) (
st (M15 7 i_1.toNatClampNeg) fun x17 =>
gd (¬ (x17 < 0 ∨ 40 ≤ x17.toNatClampNeg)) (
st ((((3 : Int32) * x17) + (3 : Int32)) - (M15 26 x17.toNatClampNeg)) fun x18 =>
st (0 : Int32) fun x19 =>
lp (fun (q20 : (Int32 × zMs)) => (if (8 : Int32) ≤ q20.1 then
cl (fX10_load q20.2 x17) fun M28 =>
st (M28 41 0) fun x29 =>
cl (fX10_roll M28 i_1 x18 i_2 i_3 i_4) fun M32 =>
cl (fX10_keep M32 x17) fun M35 =>
gd (¬ (x17 < 0 ∨ 40 ≤ x17.toNatClampNeg)) (
gd (¬ (x17 < 0 ∨ 40 ≤ x17.toNatClampNeg)) (
st (pM M35 26 x17.toNatClampNeg ((M35 26 x17.toNatClampNeg) - (1 : Int32))) fun M36 =>
gd (¬ (x17 < 0 ∨ 40 ≤ x17.toNatClampNeg)) (
st (fun (y37 : Int32) => (gd (¬ (i_1 < 0 ∨ 6 ≤ i_1.toNatClampNeg)) (
st (pM M36 7 i_1.toNatClampNeg y37) fun M39 =>
some (.inr ((((M39 41 0) - x29), M39)))) : Option ((Int32 × zMs) ⊕ (Int32 × zMs)))) fun j38 =>
if (M36 26 x17.toNatClampNeg) = 0 then
j38 (-1 : Int32)
else
j38 x17)))
else
gd (¬ ((((8 : Int32) * i_1) + q20.1) < 0 ∨ 48 ≤ (((8 : Int32) * i_1) + q20.1).toNatClampNeg)) (
gd (¬ ((((8 : Int32) * x18) + q20.1) < 0 ∨ 960 ≤ (((8 : Int32) * x18) + q20.1).toNatClampNeg)) (
st (pM q20.2 39 (((8 : Int32) * x18) + q20.1).toNatClampNeg ((q20.2 16 (((8 : Int32) * i_1) + q20.1).toNatClampNeg) + (1 : Int32))) fun M40 =>
st (q20.1 + (1 : Int32)) fun x41 =>
some (.inl (x41, M40)))) : Option ((Int32 × zMs) ⊕ (Int32 × zMs)))) 40000 (x19, M15)))
else
some (((0 : Int32), M15)) : Option (Int32 × zMs))) fun j12 =>
if r8 = 0 then
j12 (1 : Int32)
else
if x7 = 0 then
j12 (2 : Int32)
else
cl (fX10_isFree M i_1) fun r42 =>
if r42 = 0 then
j12 (0 : Int32)
else
j12 (3 : Int32) : Option (Int32 × zMs))) fun j6 =>
st (fun (u_ : Unit) => (j6 (0 : Int32) : Option (Int32 × zMs))) fun j45 =>
if r1 = 0 then
j45 ()
else
cl (fX10_in M i_3 (-30 : Int32) (30 : Int32)) fun r46 =>
if r46 = 0 then
j45 ()
else
cl (fX10_in M i_4 (-30 : Int32) (30 : Int32)) fun r49 =>
if r49 = 0 then
j45 ()
else
j6 (1 : Int32)
abbrev rmX10_shoot : Room := { frames := 4, cells := 0, slots := 0, locals := 106 }
set_option maxHeartbeats 4000000 in
set_option maxRecDepth 100000 in
theorem tX10_shoot (l : Launch) (Γ : zG) (lo : zId → Nat) (S : zSt) (q : Nat → Nat) (M : zMs) (Y : va_W) {i_1 : Int32} {i_2 : Int32} {i_3 : Int32} {i_4 : Int32}  {y : (Int32 × zMs)} (hf : fX10_shoot M i_1 i_2 i_3 i_4 = some y) : Met l yX10_shoot wsX10_shoot rmX10_shoot (zP0 Γ lo S (mcl Γ q M ++ Y) [.ref (q 0), .int i_1, .int i_2, .int i_3, .int i_4]) (zQ0 Γ lo S S (mcl Γ q y.2 ++ Y) (some (.int y.1)) True) 0 0 (zA Γ) := by
  refine Met.ofW (cc := cX10_shoot) (maxL := 9) (ret := (some .int)) (by decide) rfl ?_
  intro p e s m args below meth c s₁ B hml hv
  obtain ⟨rfl, hW, hKK⟩ := hv
  have hx := B.exec
  have hb := B.bytes
  have hr := B.returns
  have hts := atoms_spec (ws := wsX10_shoot) B.pre
  have hown : s.vm.findClass RX10 = some m.cls := findClass_of_methodNamed B.named
  have hlocks := B.notSynchronized
  have hS : va_S (zA Γ) s.heap s.heap [] := va_S.rf
  have hm : ∀ c, zV S c = zV S c := fun _ => rfl
  have hl := lv_entry ([.ref (q 0), .int i_1, .int i_2, .int i_3, .int i_4]) (n := 9) (Nat.le_of_ble_eq_true rfl)
  rw [lg_entry_eq]
  generalize (lg_sl ([.ref (q 0), .int i_1, .int i_2, .int i_3, .int i_4]) ++ List.replicate (9 - (lg_sl ([.ref (q 0), .int i_1, .int i_2, .int i_3, .int i_4])).length) Slot.unset).toArray = ls at hl ⊢
  have hl : lv_has ls 9 [(0, .ref (q 0)), (1, .int i_1), (2, .int i_2), (3, .int i_3), (4, .int i_4)] := hl
  obtain ⟨H, hH0⟩ : ∃ H, H = s.heap := ⟨_, rfl⟩
  obtain ⟨locs, hlo0⟩ : ∃ L : List Loc, L = [] := ⟨_, rfl⟩
  have hS : va_S (zA Γ) s.heap H locs := by rw [hH0, hlo0]; exact hS
  have hW : Wd Γ lo S (mcl Γ q M ++ Y) H := by rw [hH0]; exact hW
  rw [← hH0, ← hlo0]
  unfold fX10_shoot at hf
  refine lv_iload_n hx hb dX10_shoot_0 rfl (lv_at hl 2 rfl) ?_
  refine lv_iconst (v := (0)) hx hb dX10_shoot_1 (by decide) ?_
  refine lv_sipush (v := (159)) hx hb dX10_shoot_2 (by decide) ?_
  obtain ⟨r1, hc2, hf⟩ := op_cl hf
  refine z_callS (As := [.int i_2, .int (0 : Int32), .int (159 : Int32)]) (rest := []) ⟨hx, hb, hml, hown, hts⟩ (tX10_in l Γ lo S q M Y  hc2) (va_cwS 3 hts gX10_shoot_X10_in rfl rfl rfl (by decide +kernel) ⟨Nat.le_of_ble_eq_true rfl, Nat.le_of_ble_eq_true rfl⟩) hKK hW hS rfl hl.1 rfl (Nat.le_of_ble_eq_true rfl) dX10_shoot_5 ⟨Nat.zero_le _, Nat.zero_le _⟩ (fun H locs hW hS hm1 hE => ?_)
  have b3 := hE
  obtain ⟨j6, ej6, hf⟩ := op_st hf
  have hj6 : ∀ (y4 : Int32) (H : Heap) (locs : List Loc) (ls : Array Slot) (b5 : y4 = 0 ∨ y4 = 1), lv_has ls 9 [(0, .ref (q 0)), (1, .int i_1), (2, .int i_2), (3, .int i_3), (4, .int i_4)] → Wd Γ lo S (mcl Γ q M ++ Y) H → va_S (zA Γ) s.heap H locs → (∀ c, zV S c = zV S c) → j6 y4 = some y → W p l e (headSpec wsX10_shoot rmX10_shoot).room s m ([.ref (q 0), .int i_1, .int i_2, .int i_3, .int i_4] : List Value).toArray below meth c H locs 0 0 (MQ below (zQ0 Γ lo S S (mcl Γ q y.2 ++ Y) (some (.int y.1)) True) ([.ref (q 0), .int i_1, .int i_2, .int i_3, .int i_4] : List Value).toArray s 0 0 (zA Γ)) (F0 m 39 ls [.int y4]) := by
    intro y4 H locs ls b5 hl hW hS hm hf
    rw [ej6] at hf
    obtain ⟨x7, ex7, hf⟩ := op_st hf
    have bx7 : x7 = 0 ∨ x7 = 1 := by rw [ex7]; exact b5
    refine z_ist (lv' := [(5, .int x7), (0, .ref (q 0)), (1, .int i_1), (2, .int i_2), (3, .int i_3), (4, .int i_4)]) ex7 hx hb dX10_shoot_39 hl (by decide) rfl (fun ls hl => ?_)
    refine lv_aload_n hx hb dX10_shoot_41 rfl (lv_at hl 1 rfl) ?_
    refine lv_aload_n hx hb dX10_shoot_42 rfl (lv_at hl 1 rfl) ?_
    refine lv_iload_n hx hb dX10_shoot_43 rfl (lv_at hl 2 rfl) ?_
    obtain ⟨r8, hc9, hf⟩ := op_cl hf
    refine z_callV (As := [.int i_1]) (rest := [.ref (q 0)]) ⟨hx, hb, hml, hown, hts⟩ (tX10_isTable l Γ lo S q M Y  hc9) (cwV 1 hts gX10_shoot_X10_isTable rfl rfl rfl (by decide +kernel) ⟨Nat.le_of_ble_eq_true rfl, Nat.le_of_ble_eq_true rfl⟩) (wd_x hW (k := 0) rfl) rfl hKK hW hS rfl hl.1 rfl (Nat.le_of_ble_eq_true rfl) dX10_shoot_44 ⟨Nat.zero_le _, Nat.zero_le _⟩ (fun H locs hW hS hm1 hE => ?_)
    have b10 := hE
    obtain ⟨j12, ej12, hf⟩ := op_st hf
    have hj12 : ∀ (y11 : Int32) (H : Heap) (locs : List Loc) (ls : Array Slot), lv_has ls 9 [(0, .ref (q 0)), (1, .int i_1), (2, .int i_2), (3, .int i_3), (4, .int i_4)] → Wd Γ lo S (mcl Γ q M ++ Y) H → va_S (zA Γ) s.heap H locs → (∀ c, zV S c = zV S c) → j12 y11 = some y → W p l e (headSpec wsX10_shoot rmX10_shoot).room s m ([.ref (q 0), .int i_1, .int i_2, .int i_3, .int i_4] : List Value).toArray below meth c H locs 0 0 (MQ below (zQ0 Γ lo S S (mcl Γ q y.2 ++ Y) (some (.int y.1)) True) ([.ref (q 0), .int i_1, .int i_2, .int i_3, .int i_4] : List Value).toArray s 0 0 (zA Γ)) (F0 m 76 ls [.int y11, .ref (q 0)]) := by
      intro y11 H locs ls  hl hW hS hm hf
      rw [ej12] at hf
      obtain ⟨r13, M15, hc14, hf⟩ := op_cl2 hf
      refine z_callV (As := [.int y11]) (rest := []) ⟨hx, hb, hml, hown, hts⟩ (tX10_refused l Γ lo S q M Y  hc14) (cwV 1 hts gX10_shoot_X10_refused rfl rfl rfl (by decide +kernel) ⟨Nat.le_of_ble_eq_true rfl, Nat.le_of_ble_eq_true rfl⟩) (wd_x hW (k := 0) rfl) rfl hKK hW hS rfl hl.1 rfl (Nat.le_of_ble_eq_true rfl) dX10_shoot_76 ⟨Nat.zero_le _, Nat.zero_le _⟩ (fun H locs hW hS hm1 hE => ?_)
      have b16 := hE
      refine lv_if_eq (tgt := 84) hx hb dX10_shoot_79 (by decide) (fun k79 => ?_) (fun k79 => ?_)
      · have hf := (op_if hf).1 k79
        refine lv_aload_n hx hb dX10_shoot_84 rfl (lv_at hl 0 rfl) ?_
        refine va_get hx hb hts ni_X10_shoot_X10 hown hKK.1 (wd_x hW (k := 0) rfl) 0 rfl rfl 7 (by decide) (hts (.fieldLink RX10 25 "TiltRouteModel" "onNow" "[I") (List.mem_of_getElem? (i := 1) rfl)) (fun _ h => h) rfl dX10_shoot_85 ?_
        refine lv_iload_n hx hb dX10_shoot_88 rfl (lv_at hl 1 rfl) ?_
        obtain ⟨h89, hf⟩ := op_gd hf
        refine va_iald hx hb hKK.1 (wd_x hW (k := 6) rfl) 0 0 (n := 6) rfl rfl h89 dX10_shoot_89 ?_
        obtain ⟨x17, ex17, hf⟩ := op_st hf
        refine z_ist (lv' := [(6, .int x17), (0, .ref (q 0)), (1, .int i_1), (2, .int i_2), (3, .int i_3), (4, .int i_4)]) ex17 hx hb dX10_shoot_90 hl (by decide) rfl (fun ls hl => ?_)
        refine lv_iconst (v := (3)) hx hb dX10_shoot_92 (by decide) ?_
        refine lv_iload hx hb dX10_shoot_93 (lv_at hl 0 rfl) ?_
        refine lv_imul hx hb dX10_shoot_95 ?_
        refine lv_iconst (v := (3)) hx hb dX10_shoot_96 (by decide) ?_
        refine lv_iadd hx hb dX10_shoot_97 ?_
        refine lv_aload_n hx hb dX10_shoot_98 rfl (lv_at hl 1 rfl) ?_
        refine va_get hx hb hts ni_X10_shoot_X10 hown hKK.1 (wd_x hW (k := 0) rfl) 0 rfl rfl 26 (by decide) (hts (.fieldLink RX10 77 "TiltRouteModel" "left" "[I") (List.mem_of_getElem? (i := 2) rfl)) (fun _ h => h) rfl dX10_shoot_99 ?_
        refine lv_iload hx hb dX10_shoot_102 (lv_at hl 0 rfl) ?_
        obtain ⟨h104, hf⟩ := op_gd hf
        refine va_iald hx hb hKK.1 (wd_x hW (k := 23) rfl) 0 0 (n := 40) rfl rfl h104 dX10_shoot_104 ?_
        refine lv_isub hx hb dX10_shoot_105 ?_
        obtain ⟨x18, ex18, hf⟩ := op_st hf
        refine z_ist (lv' := [(7, .int x18), (6, .int x17), (0, .ref (q 0)), (1, .int i_1), (2, .int i_2), (3, .int i_3), (4, .int i_4)]) ex18 hx hb dX10_shoot_106 hl (by decide) rfl (fun ls hl => ?_)
        refine lv_iconst (v := (0)) hx hb dX10_shoot_108 (by decide) ?_
        obtain ⟨x19, ex19, hf⟩ := op_st hf
        have bx19 : x19 = 0 ∨ x19 = 1 := Or.inl ex19
        refine z_ist (lv' := [(8, .int x19), (7, .int x18), (6, .int x17), (0, .ref (q 0)), (1, .int i_1), (2, .int i_2), (3, .int i_3), (4, .int i_4)]) ex19 hx hb dX10_shoot_109 hl (by decide) rfl (fun ls hl => ?_)
        obtain ⟨w22, q200, ew22, eq200, hf⟩ := op_lb hf
        have hw22 : ∀ n25 : Nat, ∀ (q20 : (Int32 × zMs)) (H : Heap) (locs : List Loc) (ls : Array Slot), lv_has ls 9 [(8, .int q20.1), (7, .int x18), (6, .int x17), (0, .ref (q 0)), (1, .int i_1), (2, .int i_2), (3, .int i_3), (4, .int i_4)] → Wd Γ lo S (mcl Γ q q20.2 ++ Y) H → va_S (zA Γ) s.heap H locs → (∀ c, zV S c = zV S c) → lp w22 n25 q20 = some y → W p l e (headSpec wsX10_shoot rmX10_shoot).room s m ([.ref (q 0), .int i_1, .int i_2, .int i_3, .int i_4] : List Value).toArray below meth c H locs 0 0 (MQ below (zQ0 Γ lo S S (mcl Γ q y.2 ++ Y) (some (.int y.1)) True) ([.ref (q 0), .int i_1, .int i_2, .int i_3, .int i_4] : List Value).toArray s 0 0 (zA Γ)) (F0 m 111 ls []) := by
          intro n25
          induction n25 with
          | zero => intro q20 H locs ls hl hW hS hm hf; cases hf
          | succ n25 ih23 =>
            intro q20 H locs ls hl hW hS hm hf
            obtain ⟨n_, r21, hn_, hf, hr24⟩ := op_lq hf
            cases hn_
            rw [ew22] at hf
            refine lv_iload hx hb dX10_shoot_111 (lv_at hl 0 rfl) ?_
            refine lv_bipush (v := (8)) hx hb dX10_shoot_113 (by decide) ?_
            refine lv_icmp_ge (tgt := 151) hx hb dX10_shoot_115 (by decide) (fun k115 => ?_) (fun k115 => ?_)
            · have hf := (op_if hf).1 k115
              refine lv_aload_n hx hb dX10_shoot_151 rfl (lv_at hl 3 rfl) ?_
              refine lv_iload hx hb dX10_shoot_152 (lv_at hl 2 rfl) ?_
              obtain ⟨M28, hc27, hf⟩ := op_cl hf
              refine z_callV (As := [.int x17]) (rest := []) ⟨hx, hb, hml, hown, hts⟩ (tX10_load l Γ lo S q q20.2 Y  hc27) (cwV 1 hts gX10_shoot_X10_load rfl rfl rfl (by decide +kernel) ⟨Nat.le_of_ble_eq_true rfl, Nat.le_of_ble_eq_true rfl⟩) (wd_x hW (k := 0) rfl) rfl hKK hW hS rfl hl.1 rfl (Nat.le_of_ble_eq_true rfl) dX10_shoot_154 ⟨Nat.zero_le _, Nat.zero_le _⟩ (fun H locs hW hS hm1 hE => ?_)
              refine lv_aload_n hx hb dX10_shoot_157 rfl (lv_at hl 3 rfl) ?_
              refine va_get hx hb hts ni_X10_shoot_X10 hown hKK.1 (wd_x hW (k := 0) rfl) 0 rfl rfl 41 (by decide) (hts (.fieldLink RX10 194 "TiltRouteModel" "score" "I") (List.mem_of_getElem? (i := 5) rfl)) (fun _ h => h) rfl dX10_shoot_158 ?_
              obtain ⟨x29, ex29, hf⟩ := op_st hf
              refine z_ist (lv' := [(8, .int x29), (7, .int x18), (6, .int x17), (0, .ref (q 0)), (1, .int i_1), (2, .int i_2), (3, .int i_3), (4, .int i_4)]) ex29 hx hb dX10_shoot_161 hl (by decide) rfl (fun ls hl => ?_)
              refine lv_aload_n hx hb dX10_shoot_163 rfl (lv_at hl 3 rfl) ?_
              refine lv_iload_n hx hb dX10_shoot_164 rfl (lv_at hl 4 rfl) ?_
              refine lv_iload hx hb dX10_shoot_165 (lv_at hl 1 rfl) ?_
              refine lv_iload_n hx hb dX10_shoot_167 rfl (lv_at hl 5 rfl) ?_
              refine lv_iload_n hx hb dX10_shoot_168 rfl (lv_at hl 6 rfl) ?_
              refine lv_iload hx hb dX10_shoot_169 (lv_at hl 7 rfl) ?_
              obtain ⟨M32, hc31, hf⟩ := op_cl hf
              refine z_callV (As := [.int i_1, .int x18, .int i_2, .int i_3, .int i_4]) (rest := []) ⟨hx, hb, hml, hown, hts⟩ (tX10_roll l Γ lo S q M28 Y  hc31) (cwV 5 hts gX10_shoot_X10_roll rfl rfl rfl (by decide +kernel) ⟨Nat.le_of_ble_eq_true rfl, Nat.le_of_ble_eq_true rfl⟩) (wd_x hW (k := 0) rfl) rfl hKK hW hS rfl hl.1 rfl (Nat.le_of_ble_eq_true rfl) dX10_shoot_171 ⟨Nat.zero_le _, Nat.zero_le _⟩ (fun H locs hW hS hm1 hE => ?_)
              refine lv_aload_n hx hb dX10_shoot_174 rfl (lv_at hl 3 rfl) ?_
              refine lv_iload hx hb dX10_shoot_175 (lv_at hl 2 rfl) ?_
              obtain ⟨M35, hc34, hf⟩ := op_cl hf
              refine z_callV (As := [.int x17]) (rest := []) ⟨hx, hb, hml, hown, hts⟩ (tX10_keep l Γ lo S q M32 Y  hc34) (cwV 1 hts gX10_shoot_X10_keep rfl rfl rfl (by decide +kernel) ⟨Nat.le_of_ble_eq_true rfl, Nat.le_of_ble_eq_true rfl⟩) (wd_x hW (k := 0) rfl) rfl hKK hW hS rfl hl.1 rfl (Nat.le_of_ble_eq_true rfl) dX10_shoot_177 ⟨Nat.zero_le _, Nat.zero_le _⟩ (fun H locs hW hS hm1 hE => ?_)
              refine lv_aload_n hx hb dX10_shoot_180 rfl (lv_at hl 3 rfl) ?_
              refine va_get hx hb hts ni_X10_shoot_X10 hown hKK.1 (wd_x hW (k := 0) rfl) 0 rfl rfl 26 (by decide) (hts (.fieldLink RX10 77 "TiltRouteModel" "left" "[I") (List.mem_of_getElem? (i := 2) rfl)) (fun _ h => h) rfl dX10_shoot_181 ?_
              refine lv_iload hx hb dX10_shoot_184 (lv_at hl 2 rfl) ?_
              refine lv_dup2_11 hx hb dX10_shoot_186 rfl rfl ?_
              obtain ⟨h187, hf⟩ := op_gd hf
              refine va_iald hx hb hKK.1 (wd_x hW (k := 23) rfl) 0 0 (n := 40) rfl rfl h187 dX10_shoot_187 ?_
              refine lv_iconst (v := (1)) hx hb dX10_shoot_188 (by decide) ?_
              refine lv_isub hx hb dX10_shoot_189 ?_
              obtain ⟨h190, hf⟩ := op_gd hf
              obtain ⟨M36, eM36, hf⟩ := op_st hf
              refine m_iast hx hb hKK.1 hW hS 26 23 40 rfl h190 eM36 (ms_26 Γ q _ Y _ _) dX10_shoot_190 (fun H locs hW hS => ?_)
              refine lv_aload_n hx hb dX10_shoot_191 rfl (lv_at hl 3 rfl) ?_
              refine va_get hx hb hts ni_X10_shoot_X10 hown hKK.1 (wd_x hW (k := 0) rfl) 0 rfl rfl 7 (by decide) (hts (.fieldLink RX10 25 "TiltRouteModel" "onNow" "[I") (List.mem_of_getElem? (i := 1) rfl)) (fun _ h => h) rfl dX10_shoot_192 ?_
              refine lv_iload_n hx hb dX10_shoot_195 rfl (lv_at hl 4 rfl) ?_
              refine lv_aload_n hx hb dX10_shoot_196 rfl (lv_at hl 3 rfl) ?_
              refine va_get hx hb hts ni_X10_shoot_X10 hown hKK.1 (wd_x hW (k := 0) rfl) 0 rfl rfl 26 (by decide) (hts (.fieldLink RX10 77 "TiltRouteModel" "left" "[I") (List.mem_of_getElem? (i := 2) rfl)) (fun _ h => h) rfl dX10_shoot_197 ?_
              refine lv_iload hx hb dX10_shoot_200 (lv_at hl 2 rfl) ?_
              obtain ⟨h202, hf⟩ := op_gd hf
              refine va_iald hx hb hKK.1 (wd_x hW (k := 23) rfl) 0 0 (n := 40) rfl rfl h202 dX10_shoot_202 ?_
              obtain ⟨j38, ej38, hf⟩ := op_st hf
              have hj38 : ∀ (y37 : Int32) (H : Heap) (locs : List Loc) (ls : Array Slot), lv_has ls 9 [(8, .int x29), (0, .ref (q 0))] → Wd Γ lo S (mcl Γ q M36 ++ Y) H → va_S (zA Γ) s.heap H locs → (∀ c, zV S c = zV S c) → j38 y37 = some r21 → W p l e (headSpec wsX10_shoot rmX10_shoot).room s m ([.ref (q 0), .int i_1, .int i_2, .int i_3, .int i_4] : List Value).toArray below meth c H locs 0 0 (MQ below (zQ0 Γ lo S S (mcl Γ q y.2 ++ Y) (some (.int y.1)) True) ([.ref (q 0), .int i_1, .int i_2, .int i_3, .int i_4] : List Value).toArray s 0 0 (zA Γ)) (F0 m 212 ls [.int y37, .int i_1, .ref (q 8)]) := by
                intro y37 H locs ls  hl hW hS hm hf
                rw [ej38] at hf
                obtain ⟨h212, hf⟩ := op_gd hf
                obtain ⟨M39, eM39, hf⟩ := op_st hf
                refine m_iast hx hb hKK.1 hW hS 7 6 6 rfl h212 eM39 (ms_7 Γ q _ Y _ _) dX10_shoot_212 (fun H locs hW hS => ?_)
                refine lv_aload_n hx hb dX10_shoot_213 rfl (lv_at hl 1 rfl) ?_
                refine va_get hx hb hts ni_X10_shoot_X10 hown hKK.1 (wd_x hW (k := 0) rfl) 0 rfl rfl 41 (by decide) (hts (.fieldLink RX10 194 "TiltRouteModel" "score" "I") (List.mem_of_getElem? (i := 5) rfl)) (fun _ h => h) rfl dX10_shoot_214 ?_
                refine lv_iload hx hb dX10_shoot_217 (lv_at hl 0 rfl) ?_
                refine lv_isub hx hb dX10_shoot_219 ?_
                have hf := zr_r hf hr24
                rw [← hf]
                exact z_iret hx hb hr hlocks rfl hW hS hm trivial dX10_shoot_220
              refine lv_if_ne (tgt := 210) hx hb dX10_shoot_203 (by decide) (fun k203 => ?_) (fun k203 => ?_)
              · have hf := (op_if hf).2 k203
                refine lv_iload hx hb dX10_shoot_210 (lv_at hl 2 rfl) ?_
                exact hj38 x17 H locs ls  (lv_sub hl [0, 3] rfl) hW hS hm hf
              · have hf := (op_if hf).1 k203
                refine lv_iconst (v := (-1)) hx hb dX10_shoot_206 (by decide) ?_
                refine lv_goto (tgt := 212) hx hb dX10_shoot_207 (by decide) ?_
                exact hj38 (-1 : Int32) H locs ls  (lv_sub hl [0, 3] rfl) hW hS hm hf
            · have hf := (op_if hf).2 k115
              refine lv_aload_n hx hb dX10_shoot_118 rfl (lv_at hl 3 rfl) ?_
              refine va_get hx hb hts ni_X10_shoot_X10 hown hKK.1 (wd_x hW (k := 0) rfl) 0 rfl rfl 39 (by decide) (hts (.fieldLink RX10 117 "TiltRouteModel" "stickingOf" "[I") (List.mem_of_getElem? (i := 3) rfl)) (fun _ h => h) rfl dX10_shoot_119 ?_
              refine lv_bipush (v := (8)) hx hb dX10_shoot_122 (by decide) ?_
              refine lv_iload hx hb dX10_shoot_124 (lv_at hl 1 rfl) ?_
              refine lv_imul hx hb dX10_shoot_126 ?_
              refine lv_iload hx hb dX10_shoot_127 (lv_at hl 0 rfl) ?_
              refine lv_iadd hx hb dX10_shoot_129 ?_
              refine lv_aload_n hx hb dX10_shoot_130 rfl (lv_at hl 3 rfl) ?_
              refine va_get hx hb hts ni_X10_shoot_X10 hown hKK.1 (wd_x hW (k := 0) rfl) 0 rfl rfl 16 (by decide) (hts (.fieldLink RX10 52 "TiltRouteModel" "stuck" "[I") (List.mem_of_getElem? (i := 4) rfl)) (fun _ h => h) rfl dX10_shoot_131 ?_
              refine lv_bipush (v := (8)) hx hb dX10_shoot_134 (by decide) ?_
              refine lv_iload_n hx hb dX10_shoot_136 rfl (lv_at hl 4 rfl) ?_
              refine lv_imul hx hb dX10_shoot_137 ?_
              refine lv_iload hx hb dX10_shoot_138 (lv_at hl 0 rfl) ?_
              refine lv_iadd hx hb dX10_shoot_140 ?_
              obtain ⟨h141, hf⟩ := op_gd hf
              refine va_iald hx hb hKK.1 (wd_x hW (k := 15) rfl) 0 0 (n := 48) rfl rfl h141 dX10_shoot_141 ?_
              refine lv_iconst (v := (1)) hx hb dX10_shoot_142 (by decide) ?_
              refine lv_iadd hx hb dX10_shoot_143 ?_
              obtain ⟨h144, hf⟩ := op_gd hf
              obtain ⟨M40, eM40, hf⟩ := op_st hf
              refine m_iast hx hb hKK.1 hW hS 39 36 960 rfl h144 eM40 (ms_39 Γ q _ Y _ _) dX10_shoot_144 (fun H locs hW hS => ?_)
              obtain ⟨x41, ex41, hf⟩ := op_st hf
              refine lv_iinc (v := x41) (lv' := [(8, .int x41), (7, .int x18), (6, .int x17), (0, .ref (q 0)), (1, .int i_1), (2, .int i_2), (3, .int i_3), (4, .int i_4)]) hx hb dX10_shoot_145 hl (k := 0) rfl (by rw [ex41]; rfl) (by decide) rfl (fun ls hl => ?_)
              refine lv_goto (tgt := 111) hx hb dX10_shoot_148 (by decide) ?_
              have hf := zr_l hf hr24
              exact ih23 (x41, M40) H locs ls (lv_sub hl [0, 1, 2, 3, 4, 5, 6, 7] rfl) hW hS hm hf
        rw [eq200] at hf
        exact hw22 _ (x19, M15) H locs ls (lv_sub hl [0, 1, 2, 3, 4, 5, 6, 7] rfl) hW hS hm hf
      · have hf := (op_if hf).2 k79
        refine lv_iconst (v := (0)) hx hb dX10_shoot_82 (by decide) ?_
        have hf := Option.some.inj hf
        rw [← hf]
        exact z_iret hx hb hr hlocks rfl hW hS hm trivial dX10_shoot_83
    refine lv_if_ne (tgt := 54) hx hb dX10_shoot_47 (by decide) (fun k47 => ?_) (fun k47 => ?_)
    · have hf := (op_if hf).2 k47
      refine lv_iload hx hb dX10_shoot_54 (lv_at hl 0 rfl) ?_
      refine lv_if_ne (tgt := 63) hx hb dX10_shoot_56 (by decide) (fun k56 => ?_) (fun k56 => ?_)
      · have hf := (op_if hf).2 k56
        refine lv_aload_n hx hb dX10_shoot_63 rfl (lv_at hl 1 rfl) ?_
        refine lv_iload_n hx hb dX10_shoot_64 rfl (lv_at hl 2 rfl) ?_
        obtain ⟨r42, hc43, hf⟩ := op_cl hf
        refine z_callV (As := [.int i_1]) (rest := [.ref (q 0)]) ⟨hx, hb, hml, hown, hts⟩ (tX10_isFree l Γ lo S q M Y  hc43) (cwV 1 hts gX10_shoot_X10_isFree rfl rfl rfl (by decide +kernel) ⟨Nat.le_of_ble_eq_true rfl, Nat.le_of_ble_eq_true rfl⟩) (wd_x hW (k := 0) rfl) rfl hKK hW hS rfl hl.1 rfl (Nat.le_of_ble_eq_true rfl) dX10_shoot_65 ⟨Nat.zero_le _, Nat.zero_le _⟩ (fun H locs hW hS hm1 hE => ?_)
        have b44 := hE
        refine lv_if_eq (tgt := 75) hx hb dX10_shoot_68 (by decide) (fun k68 => ?_) (fun k68 => ?_)
        · have hf := (op_if hf).1 k68
          refine lv_iconst (v := (0)) hx hb dX10_shoot_75 (by decide) ?_
          exact hj12 (0 : Int32) H locs ls  (lv_sub hl [1, 2, 3, 4, 5] rfl) hW hS hm hf
        · have hf := (op_if hf).2 k68
          refine lv_iconst (v := (3)) hx hb dX10_shoot_71 (by decide) ?_
          refine lv_goto (tgt := 76) hx hb dX10_shoot_72 (by decide) ?_
          exact hj12 (3 : Int32) H locs ls  (lv_sub hl [1, 2, 3, 4, 5] rfl) hW hS hm hf
      · have hf := (op_if hf).1 k56
        refine lv_iconst (v := (2)) hx hb dX10_shoot_59 (by decide) ?_
        refine lv_goto (tgt := 76) hx hb dX10_shoot_60 (by decide) ?_
        exact hj12 (2 : Int32) H locs ls  (lv_sub hl [1, 2, 3, 4, 5] rfl) hW hS hm hf
    · have hf := (op_if hf).1 k47
      refine lv_iconst (v := (1)) hx hb dX10_shoot_50 (by decide) ?_
      refine lv_goto (tgt := 76) hx hb dX10_shoot_51 (by decide) ?_
      exact hj12 (1 : Int32) H locs ls  (lv_sub hl [1, 2, 3, 4, 5] rfl) hW hS hm hf
  obtain ⟨j45, ej45, hf⟩ := op_st hf
  have hj45 : ∀ (u_ : Unit) (H : Heap) (locs : List Loc) (ls : Array Slot), lv_has ls 9 [(0, .ref (q 0)), (1, .int i_1), (2, .int i_2), (3, .int i_3), (4, .int i_4)] → Wd Γ lo S (mcl Γ q M ++ Y) H → va_S (zA Γ) s.heap H locs → (∀ c, zV S c = zV S c) → j45 () = some y → W p l e (headSpec wsX10_shoot rmX10_shoot).room s m ([.ref (q 0), .int i_1, .int i_2, .int i_3, .int i_4] : List Value).toArray below meth c H locs 0 0 (MQ below (zQ0 Γ lo S S (mcl Γ q y.2 ++ Y) (some (.int y.1)) True) ([.ref (q 0), .int i_1, .int i_2, .int i_3, .int i_4] : List Value).toArray s 0 0 (zA Γ)) (F0 m 38 ls []) := by
    intro u_ H locs ls  hl hW hS hm hf
    rw [ej45] at hf
    refine lv_iconst (v := (0)) hx hb dX10_shoot_38 (by decide) ?_
    exact hj6 (0 : Int32) H locs ls (Or.inl rfl) (lv_sub hl [0, 1, 2, 3, 4] rfl) hW hS hm hf
  refine lv_if_eq (tgt := 38) hx hb dX10_shoot_8 (by decide) (fun k8 => ?_) (fun k8 => ?_)
  · have hf := (op_if hf).1 k8
    exact hj45 () H locs ls  (lv_sub hl [0, 1, 2, 3, 4] rfl) hW hS hm hf
  · have hf := (op_if hf).2 k8
    refine lv_iload_n hx hb dX10_shoot_11 rfl (lv_at hl 3 rfl) ?_
    refine lv_bipush (v := (-30)) hx hb dX10_shoot_12 (by decide) ?_
    refine lv_bipush (v := (30)) hx hb dX10_shoot_14 (by decide) ?_
    obtain ⟨r46, hc47, hf⟩ := op_cl hf
    refine z_callS (As := [.int i_3, .int (-30 : Int32), .int (30 : Int32)]) (rest := []) ⟨hx, hb, hml, hown, hts⟩ (tX10_in l Γ lo S q M Y  hc47) (va_cwS 3 hts gX10_shoot_X10_in rfl rfl rfl (by decide +kernel) ⟨Nat.le_of_ble_eq_true rfl, Nat.le_of_ble_eq_true rfl⟩) hKK hW hS rfl hl.1 rfl (Nat.le_of_ble_eq_true rfl) dX10_shoot_16 ⟨Nat.zero_le _, Nat.zero_le _⟩ (fun H locs hW hS hm1 hE => ?_)
    have b48 := hE
    refine lv_if_eq (tgt := 38) hx hb dX10_shoot_19 (by decide) (fun k19 => ?_) (fun k19 => ?_)
    · have hf := (op_if hf).1 k19
      exact hj45 () H locs ls  (lv_sub hl [0, 1, 2, 3, 4] rfl) hW hS hm hf
    · have hf := (op_if hf).2 k19
      refine lv_iload hx hb dX10_shoot_22 (lv_at hl 4 rfl) ?_
      refine lv_bipush (v := (-30)) hx hb dX10_shoot_24 (by decide) ?_
      refine lv_bipush (v := (30)) hx hb dX10_shoot_26 (by decide) ?_
      obtain ⟨r49, hc50, hf⟩ := op_cl hf
      refine z_callS (As := [.int i_4, .int (-30 : Int32), .int (30 : Int32)]) (rest := []) ⟨hx, hb, hml, hown, hts⟩ (tX10_in l Γ lo S q M Y  hc50) (va_cwS 3 hts gX10_shoot_X10_in rfl rfl rfl (by decide +kernel) ⟨Nat.le_of_ble_eq_true rfl, Nat.le_of_ble_eq_true rfl⟩) hKK hW hS rfl hl.1 rfl (Nat.le_of_ble_eq_true rfl) dX10_shoot_28 ⟨Nat.zero_le _, Nat.zero_le _⟩ (fun H locs hW hS hm1 hE => ?_)
      have b51 := hE
      refine lv_if_eq (tgt := 38) hx hb dX10_shoot_31 (by decide) (fun k31 => ?_) (fun k31 => ?_)
      · have hf := (op_if hf).1 k31
        exact hj45 () H locs ls  (lv_sub hl [0, 1, 2, 3, 4] rfl) hW hS hm hf
      · have hf := (op_if hf).2 k31
        refine lv_iconst (v := (1)) hx hb dX10_shoot_34 (by decide) ?_
        refine lv_goto (tgt := 39) hx hb dX10_shoot_35 (by decide) ?_
        exact hj6 (1 : Int32) H locs ls (Or.inr rfl) (lv_sub hl [0, 1, 2, 3, 4] rfl) hW hS hm hf

def fX10_noTable (M : zMs) (i_1 : Int32) : Option (Int32 × zMs) :=
cl (fX10_isTable M i_1) fun r1 =>
st (fun (y4 : Int32) => (cl2 (fX10_refused M y4) fun r7 M9 =>
some ((r7, M9)) : Option (Int32 × zMs))) fun j6 =>
if r1 = 0 then
j6 (1 : Int32)
else
j6 (0 : Int32)
abbrev rmX10_noTable : Room := { frames := 2, cells := 0, slots := 0, locals := 43 }
set_option maxHeartbeats 4000000 in
set_option maxRecDepth 100000 in
theorem tX10_noTable (l : Launch) (Γ : zG) (lo : zId → Nat) (S : zSt) (q : Nat → Nat) (M : zMs) (Y : va_W) {i_1 : Int32}  {y : (Int32 × zMs)} (hf : fX10_noTable M i_1 = some y) : Met l yX10_noTable wsX10_noTable rmX10_noTable (zP0 Γ lo S (mcl Γ q M ++ Y) [.ref (q 0), .int i_1]) (zQ0 Γ lo S S (mcl Γ q y.2 ++ Y) (some (.int y.1)) (y.1 = 0 ∨ y.1 = 1)) 0 0 (zA Γ) := by
  refine Met.ofW (cc := cX10_noTable) (maxL := 2) (ret := (some .boolean)) (by decide) rfl ?_
  intro p e s m args below meth c s₁ B hml hv
  obtain ⟨rfl, hW, hKK⟩ := hv
  have hx := B.exec
  have hb := B.bytes
  have hr := B.returns
  have hts := atoms_spec (ws := wsX10_noTable) B.pre
  have hown : s.vm.findClass RX10 = some m.cls := findClass_of_methodNamed B.named
  have hlocks := B.notSynchronized
  have hS : va_S (zA Γ) s.heap s.heap [] := va_S.rf
  have hm : ∀ c, zV S c = zV S c := fun _ => rfl
  have hl := lv_entry ([.ref (q 0), .int i_1]) (n := 2) (Nat.le_of_ble_eq_true rfl)
  rw [lg_entry_eq]
  generalize (lg_sl ([.ref (q 0), .int i_1]) ++ List.replicate (2 - (lg_sl ([.ref (q 0), .int i_1])).length) Slot.unset).toArray = ls at hl ⊢
  have hl : lv_has ls 2 [(0, .ref (q 0)), (1, .int i_1)] := hl
  obtain ⟨H, hH0⟩ : ∃ H, H = s.heap := ⟨_, rfl⟩
  obtain ⟨locs, hlo0⟩ : ∃ L : List Loc, L = [] := ⟨_, rfl⟩
  have hS : va_S (zA Γ) s.heap H locs := by rw [hH0, hlo0]; exact hS
  have hW : Wd Γ lo S (mcl Γ q M ++ Y) H := by rw [hH0]; exact hW
  rw [← hH0, ← hlo0]
  unfold fX10_noTable at hf
  refine lv_aload_n hx hb dX10_noTable_0 rfl (lv_at hl 0 rfl) ?_
  refine lv_aload_n hx hb dX10_noTable_1 rfl (lv_at hl 0 rfl) ?_
  refine lv_iload_n hx hb dX10_noTable_2 rfl (lv_at hl 1 rfl) ?_
  obtain ⟨r1, hc2, hf⟩ := op_cl hf
  refine z_callV (As := [.int i_1]) (rest := [.ref (q 0)]) ⟨hx, hb, hml, hown, hts⟩ (tX10_isTable l Γ lo S q M Y  hc2) (cwV 1 hts gX10_noTable_X10_isTable rfl rfl rfl (by decide +kernel) ⟨Nat.le_of_ble_eq_true rfl, Nat.le_of_ble_eq_true rfl⟩) (wd_x hW (k := 0) rfl) rfl hKK hW hS rfl hl.1 rfl (Nat.le_of_ble_eq_true rfl) dX10_noTable_3 ⟨Nat.zero_le _, Nat.zero_le _⟩ (fun H locs hW hS hm1 hE => ?_)
  have b3 := hE
  obtain ⟨j6, ej6, hf⟩ := op_st hf
  have hj6 : ∀ (y4 : Int32) (H : Heap) (locs : List Loc) (ls : Array Slot) (b5 : y4 = 0 ∨ y4 = 1), lv_has ls 2 [] → Wd Γ lo S (mcl Γ q M ++ Y) H → va_S (zA Γ) s.heap H locs → (∀ c, zV S c = zV S c) → j6 y4 = some y → W p l e (headSpec wsX10_noTable rmX10_noTable).room s m ([.ref (q 0), .int i_1] : List Value).toArray below meth c H locs 0 0 (MQ below (zQ0 Γ lo S S (mcl Γ q y.2 ++ Y) (some (.int y.1)) (y.1 = 0 ∨ y.1 = 1)) ([.ref (q 0), .int i_1] : List Value).toArray s 0 0 (zA Γ)) (F0 m 14 ls [.int y4, .ref (q 0)]) := by
    intro y4 H locs ls b5 hl hW hS hm hf
    rw [ej6] at hf
    obtain ⟨r7, M9, hc8, hf⟩ := op_cl2 hf
    refine z_callV (As := [.int y4]) (rest := []) ⟨hx, hb, hml, hown, hts⟩ (tX10_refused l Γ lo S q M Y  hc8) (cwV 1 hts gX10_noTable_X10_refused rfl rfl rfl (by decide +kernel) ⟨Nat.le_of_ble_eq_true rfl, Nat.le_of_ble_eq_true rfl⟩) (wd_x hW (k := 0) rfl) rfl hKK hW hS rfl hl.1 rfl (Nat.le_of_ble_eq_true rfl) dX10_noTable_14 ⟨Nat.zero_le _, Nat.zero_le _⟩ (fun H locs hW hS hm1 hE => ?_)
    have b10 := hE
    have hf := Option.some.inj hf
    rw [← hf]
    exact z_iret hx hb hr hlocks (z_bb b10) hW hS hm b10 dX10_noTable_17
  refine lv_if_eq (tgt := 13) hx hb dX10_noTable_6 (by decide) (fun k6 => ?_) (fun k6 => ?_)
  · have hf := (op_if hf).1 k6
    refine lv_iconst (v := (1)) hx hb dX10_noTable_13 (by decide) ?_
    exact hj6 (1 : Int32) H locs ls (Or.inr rfl) (lv_sub hl [] rfl) hW hS hm hf
  · have hf := (op_if hf).2 k6
    refine lv_iconst (v := (0)) hx hb dX10_noTable_9 (by decide) ?_
    refine lv_goto (tgt := 14) hx hb dX10_noTable_10 (by decide) ?_
    exact hj6 (0 : Int32) H locs ls (Or.inl rfl) (lv_sub hl [] rfl) hW hS hm hf

def fX10_noGame (M : zMs) (i_1 : Int32) : Option (Int32 × zMs) :=
cl (fX10_isGame M i_1) fun r1 =>
st (fun (y4 : Int32) => (cl2 (fX10_refused M y4) fun r7 M9 =>
some ((r7, M9)) : Option (Int32 × zMs))) fun j6 =>
if r1 = 0 then
j6 (1 : Int32)
else
j6 (0 : Int32)
abbrev rmX10_noGame : Room := { frames := 2, cells := 0, slots := 0, locals := 43 }
set_option maxHeartbeats 4000000 in
set_option maxRecDepth 100000 in
theorem tX10_noGame (l : Launch) (Γ : zG) (lo : zId → Nat) (S : zSt) (q : Nat → Nat) (M : zMs) (Y : va_W) {i_1 : Int32}  {y : (Int32 × zMs)} (hf : fX10_noGame M i_1 = some y) : Met l yX10_noGame wsX10_noGame rmX10_noGame (zP0 Γ lo S (mcl Γ q M ++ Y) [.ref (q 0), .int i_1]) (zQ0 Γ lo S S (mcl Γ q y.2 ++ Y) (some (.int y.1)) (y.1 = 0 ∨ y.1 = 1)) 0 0 (zA Γ) := by
  refine Met.ofW (cc := cX10_noGame) (maxL := 2) (ret := (some .boolean)) (by decide) rfl ?_
  intro p e s m args below meth c s₁ B hml hv
  obtain ⟨rfl, hW, hKK⟩ := hv
  have hx := B.exec
  have hb := B.bytes
  have hr := B.returns
  have hts := atoms_spec (ws := wsX10_noGame) B.pre
  have hown : s.vm.findClass RX10 = some m.cls := findClass_of_methodNamed B.named
  have hlocks := B.notSynchronized
  have hS : va_S (zA Γ) s.heap s.heap [] := va_S.rf
  have hm : ∀ c, zV S c = zV S c := fun _ => rfl
  have hl := lv_entry ([.ref (q 0), .int i_1]) (n := 2) (Nat.le_of_ble_eq_true rfl)
  rw [lg_entry_eq]
  generalize (lg_sl ([.ref (q 0), .int i_1]) ++ List.replicate (2 - (lg_sl ([.ref (q 0), .int i_1])).length) Slot.unset).toArray = ls at hl ⊢
  have hl : lv_has ls 2 [(0, .ref (q 0)), (1, .int i_1)] := hl
  obtain ⟨H, hH0⟩ : ∃ H, H = s.heap := ⟨_, rfl⟩
  obtain ⟨locs, hlo0⟩ : ∃ L : List Loc, L = [] := ⟨_, rfl⟩
  have hS : va_S (zA Γ) s.heap H locs := by rw [hH0, hlo0]; exact hS
  have hW : Wd Γ lo S (mcl Γ q M ++ Y) H := by rw [hH0]; exact hW
  rw [← hH0, ← hlo0]
  unfold fX10_noGame at hf
  refine lv_aload_n hx hb dX10_noGame_0 rfl (lv_at hl 0 rfl) ?_
  refine lv_aload_n hx hb dX10_noGame_1 rfl (lv_at hl 0 rfl) ?_
  refine lv_iload_n hx hb dX10_noGame_2 rfl (lv_at hl 1 rfl) ?_
  obtain ⟨r1, hc2, hf⟩ := op_cl hf
  refine z_callV (As := [.int i_1]) (rest := [.ref (q 0)]) ⟨hx, hb, hml, hown, hts⟩ (tX10_isGame l Γ lo S q M Y  hc2) (cwV 1 hts gX10_noGame_X10_isGame rfl rfl rfl (by decide +kernel) ⟨Nat.le_of_ble_eq_true rfl, Nat.le_of_ble_eq_true rfl⟩) (wd_x hW (k := 0) rfl) rfl hKK hW hS rfl hl.1 rfl (Nat.le_of_ble_eq_true rfl) dX10_noGame_3 ⟨Nat.zero_le _, Nat.zero_le _⟩ (fun H locs hW hS hm1 hE => ?_)
  have b3 := hE
  obtain ⟨j6, ej6, hf⟩ := op_st hf
  have hj6 : ∀ (y4 : Int32) (H : Heap) (locs : List Loc) (ls : Array Slot) (b5 : y4 = 0 ∨ y4 = 1), lv_has ls 2 [] → Wd Γ lo S (mcl Γ q M ++ Y) H → va_S (zA Γ) s.heap H locs → (∀ c, zV S c = zV S c) → j6 y4 = some y → W p l e (headSpec wsX10_noGame rmX10_noGame).room s m ([.ref (q 0), .int i_1] : List Value).toArray below meth c H locs 0 0 (MQ below (zQ0 Γ lo S S (mcl Γ q y.2 ++ Y) (some (.int y.1)) (y.1 = 0 ∨ y.1 = 1)) ([.ref (q 0), .int i_1] : List Value).toArray s 0 0 (zA Γ)) (F0 m 14 ls [.int y4, .ref (q 0)]) := by
    intro y4 H locs ls b5 hl hW hS hm hf
    rw [ej6] at hf
    obtain ⟨r7, M9, hc8, hf⟩ := op_cl2 hf
    refine z_callV (As := [.int y4]) (rest := []) ⟨hx, hb, hml, hown, hts⟩ (tX10_refused l Γ lo S q M Y  hc8) (cwV 1 hts gX10_noGame_X10_refused rfl rfl rfl (by decide +kernel) ⟨Nat.le_of_ble_eq_true rfl, Nat.le_of_ble_eq_true rfl⟩) (wd_x hW (k := 0) rfl) rfl hKK hW hS rfl hl.1 rfl (Nat.le_of_ble_eq_true rfl) dX10_noGame_14 ⟨Nat.zero_le _, Nat.zero_le _⟩ (fun H locs hW hS hm1 hE => ?_)
    have b10 := hE
    have hf := Option.some.inj hf
    rw [← hf]
    exact z_iret hx hb hr hlocks (z_bb b10) hW hS hm b10 dX10_noGame_17
  refine lv_if_eq (tgt := 13) hx hb dX10_noGame_6 (by decide) (fun k6 => ?_) (fun k6 => ?_)
  · have hf := (op_if hf).1 k6
    refine lv_iconst (v := (1)) hx hb dX10_noGame_13 (by decide) ?_
    exact hj6 (1 : Int32) H locs ls (Or.inr rfl) (lv_sub hl [] rfl) hW hS hm hf
  · have hf := (op_if hf).2 k6
    refine lv_iconst (v := (0)) hx hb dX10_noGame_9 (by decide) ?_
    refine lv_goto (tgt := 14) hx hb dX10_noGame_10 (by decide) ?_
    exact hj6 (0 : Int32) H locs ls (Or.inl rfl) (lv_sub hl [] rfl) hW hS hm hf

theorem ni_X10_gameAt_X10 : ∀ w ∈ wsX100, w ∈ wsX10_gameAt := by decide +kernel
def fX10_gameAt (M : zMs) (i_1 : Int32) : Option (Int32 × zMs) :=
cl2 (fX10_noTable M i_1) fun r1 M3 =>
if r1 = 0 then
gd (¬ (i_1 < 0 ∨ 6 ≤ i_1.toNatClampNeg)) (
some (((M3 7 i_1.toNatClampNeg), M3)))
else
some (((0 : Int32), M3))
abbrev rmX10_gameAt : Room := { frames := 3, cells := 0, slots := 0, locals := 64 }
set_option maxHeartbeats 4000000 in
set_option maxRecDepth 100000 in
theorem tX10_gameAt (l : Launch) (Γ : zG) (lo : zId → Nat) (S : zSt) (q : Nat → Nat) (M : zMs) (Y : va_W) {i_1 : Int32}  {y : (Int32 × zMs)} (hf : fX10_gameAt M i_1 = some y) : Met l yX10_gameAt wsX10_gameAt rmX10_gameAt (zP0 Γ lo S (mcl Γ q M ++ Y) [.ref (q 0), .int i_1]) (zQ0 Γ lo S S (mcl Γ q y.2 ++ Y) (some (.int y.1)) True) 0 0 (zA Γ) := by
  refine Met.ofW (cc := cX10_gameAt) (maxL := 2) (ret := (some .int)) (by decide) rfl ?_
  intro p e s m args below meth c s₁ B hml hv
  obtain ⟨rfl, hW, hKK⟩ := hv
  have hx := B.exec
  have hb := B.bytes
  have hr := B.returns
  have hts := atoms_spec (ws := wsX10_gameAt) B.pre
  have hown : s.vm.findClass RX10 = some m.cls := findClass_of_methodNamed B.named
  have hlocks := B.notSynchronized
  have hS : va_S (zA Γ) s.heap s.heap [] := va_S.rf
  have hm : ∀ c, zV S c = zV S c := fun _ => rfl
  have hl := lv_entry ([.ref (q 0), .int i_1]) (n := 2) (Nat.le_of_ble_eq_true rfl)
  rw [lg_entry_eq]
  generalize (lg_sl ([.ref (q 0), .int i_1]) ++ List.replicate (2 - (lg_sl ([.ref (q 0), .int i_1])).length) Slot.unset).toArray = ls at hl ⊢
  have hl : lv_has ls 2 [(0, .ref (q 0)), (1, .int i_1)] := hl
  obtain ⟨H, hH0⟩ : ∃ H, H = s.heap := ⟨_, rfl⟩
  obtain ⟨locs, hlo0⟩ : ∃ L : List Loc, L = [] := ⟨_, rfl⟩
  have hS : va_S (zA Γ) s.heap H locs := by rw [hH0, hlo0]; exact hS
  have hW : Wd Γ lo S (mcl Γ q M ++ Y) H := by rw [hH0]; exact hW
  rw [← hH0, ← hlo0]
  unfold fX10_gameAt at hf
  refine lv_aload_n hx hb dX10_gameAt_0 rfl (lv_at hl 0 rfl) ?_
  refine lv_iload_n hx hb dX10_gameAt_1 rfl (lv_at hl 1 rfl) ?_
  obtain ⟨r1, M3, hc2, hf⟩ := op_cl2 hf
  refine z_callV (As := [.int i_1]) (rest := []) ⟨hx, hb, hml, hown, hts⟩ (tX10_noTable l Γ lo S q M Y  hc2) (cwV 1 hts gX10_gameAt_X10_noTable rfl rfl rfl (by decide +kernel) ⟨Nat.le_of_ble_eq_true rfl, Nat.le_of_ble_eq_true rfl⟩) (wd_x hW (k := 0) rfl) rfl hKK hW hS rfl hl.1 rfl (Nat.le_of_ble_eq_true rfl) dX10_gameAt_2 ⟨Nat.zero_le _, Nat.zero_le _⟩ (fun H locs hW hS hm1 hE => ?_)
  have b4 := hE
  refine lv_if_eq (tgt := 12) hx hb dX10_gameAt_5 (by decide) (fun k5 => ?_) (fun k5 => ?_)
  · have hf := (op_if hf).1 k5
    refine lv_aload_n hx hb dX10_gameAt_12 rfl (lv_at hl 0 rfl) ?_
    refine va_get hx hb hts ni_X10_gameAt_X10 hown hKK.1 (wd_x hW (k := 0) rfl) 0 rfl rfl 7 (by decide) (hts (.fieldLink RX10 25 "TiltRouteModel" "onNow" "[I") (List.mem_of_getElem? (i := 1) rfl)) (fun _ h => h) rfl dX10_gameAt_13 ?_
    refine lv_iload_n hx hb dX10_gameAt_16 rfl (lv_at hl 1 rfl) ?_
    obtain ⟨h17, hf⟩ := op_gd hf
    refine va_iald hx hb hKK.1 (wd_x hW (k := 6) rfl) 0 0 (n := 6) rfl rfl h17 dX10_gameAt_17 ?_
    have hf := Option.some.inj hf
    rw [← hf]
    exact z_iret hx hb hr hlocks rfl hW hS hm trivial dX10_gameAt_18
  · have hf := (op_if hf).2 k5
    refine lv_iconst (v := (0)) hx hb dX10_gameAt_8 (by decide) ?_
    refine lv_goto (tgt := 18) hx hb dX10_gameAt_9 (by decide) ?_
    have hf := Option.some.inj hf
    rw [← hf]
    exact z_iret hx hb hr hlocks rfl hW hS hm trivial dX10_gameAt_18

theorem ni_X10_games_X10 : ∀ w ∈ wsX100, w ∈ wsX10_games := by decide +kernel
def fX10_games (M : zMs)  : Option (Int32 × zMs) :=
cl2 (fX10_fine M (M 24 0)) fun r1 M3 =>
some ((r1, M3))
abbrev rmX10_games : Room := { frames := 1, cells := 0, slots := 0, locals := 21 }
set_option maxHeartbeats 4000000 in
set_option maxRecDepth 100000 in
theorem tX10_games (l : Launch) (Γ : zG) (lo : zId → Nat) (S : zSt) (q : Nat → Nat) (M : zMs) (Y : va_W)   {y : (Int32 × zMs)} (hf : fX10_games M  = some y) : Met l yX10_games wsX10_games rmX10_games (zP0 Γ lo S (mcl Γ q M ++ Y) [.ref (q 0)]) (zQ0 Γ lo S S (mcl Γ q y.2 ++ Y) (some (.int y.1)) True) 0 0 (zA Γ) := by
  refine Met.ofW (cc := cX10_games) (maxL := 1) (ret := (some .int)) (by decide) rfl ?_
  intro p e s m args below meth c s₁ B hml hv
  obtain ⟨rfl, hW, hKK⟩ := hv
  have hx := B.exec
  have hb := B.bytes
  have hr := B.returns
  have hts := atoms_spec (ws := wsX10_games) B.pre
  have hown : s.vm.findClass RX10 = some m.cls := findClass_of_methodNamed B.named
  have hlocks := B.notSynchronized
  have hS : va_S (zA Γ) s.heap s.heap [] := va_S.rf
  have hm : ∀ c, zV S c = zV S c := fun _ => rfl
  have hl := lv_entry ([.ref (q 0)]) (n := 1) (Nat.le_of_ble_eq_true rfl)
  rw [lg_entry_eq]
  generalize (lg_sl ([.ref (q 0)]) ++ List.replicate (1 - (lg_sl ([.ref (q 0)])).length) Slot.unset).toArray = ls at hl ⊢
  have hl : lv_has ls 1 [(0, .ref (q 0))] := hl
  obtain ⟨H, hH0⟩ : ∃ H, H = s.heap := ⟨_, rfl⟩
  obtain ⟨locs, hlo0⟩ : ∃ L : List Loc, L = [] := ⟨_, rfl⟩
  have hS : va_S (zA Γ) s.heap H locs := by rw [hH0, hlo0]; exact hS
  have hW : Wd Γ lo S (mcl Γ q M ++ Y) H := by rw [hH0]; exact hW
  rw [← hH0, ← hlo0]
  unfold fX10_games at hf
  refine lv_aload_n hx hb dX10_games_0 rfl (lv_at hl 0 rfl) ?_
  refine lv_aload_n hx hb dX10_games_1 rfl (lv_at hl 0 rfl) ?_
  refine va_get hx hb hts ni_X10_games_X10 hown hKK.1 (wd_x hW (k := 0) rfl) 0 rfl rfl 24 (by decide) (hts (.fieldLink RX10 165 "TiltRouteModel" "games" "I") (List.mem_of_getElem? (i := 1) rfl)) (fun _ h => h) rfl dX10_games_2 ?_
  obtain ⟨r1, M3, hc2, hf⟩ := op_cl2 hf
  refine z_callV (As := [.int (M 24 0)]) (rest := []) ⟨hx, hb, hml, hown, hts⟩ (tX10_fine l Γ lo S q M Y  hc2) (cwV 1 hts gX10_games_X10_fine rfl rfl rfl (by decide +kernel) ⟨Nat.le_of_ble_eq_true rfl, Nat.le_of_ble_eq_true rfl⟩) (wd_x hW (k := 0) rfl) rfl hKK hW hS rfl hl.1 rfl (Nat.le_of_ble_eq_true rfl) dX10_games_5 ⟨Nat.zero_le _, Nat.zero_le _⟩ (fun H locs hW hS hm1 hE => ?_)
  have hf := Option.some.inj hf
  rw [← hf]
  exact z_iret hx hb hr hlocks rfl hW hS hm trivial dX10_games_8

theorem ni_X10_ballsLeft_X10 : ∀ w ∈ wsX100, w ∈ wsX10_ballsLeft := by decide +kernel
def fX10_ballsLeft (M : zMs) (i_1 : Int32) : Option (Int32 × zMs) :=
cl2 (fX10_noGame M i_1) fun r1 M3 =>
if r1 = 0 then
gd (¬ (i_1 < 0 ∨ 40 ≤ i_1.toNatClampNeg)) (
some (((M3 26 i_1.toNatClampNeg), M3)))
else
some (((0 : Int32), M3))
abbrev rmX10_ballsLeft : Room := { frames := 3, cells := 0, slots := 0, locals := 64 }
set_option maxHeartbeats 4000000 in
set_option maxRecDepth 100000 in
theorem tX10_ballsLeft (l : Launch) (Γ : zG) (lo : zId → Nat) (S : zSt) (q : Nat → Nat) (M : zMs) (Y : va_W) {i_1 : Int32}  {y : (Int32 × zMs)} (hf : fX10_ballsLeft M i_1 = some y) : Met l yX10_ballsLeft wsX10_ballsLeft rmX10_ballsLeft (zP0 Γ lo S (mcl Γ q M ++ Y) [.ref (q 0), .int i_1]) (zQ0 Γ lo S S (mcl Γ q y.2 ++ Y) (some (.int y.1)) True) 0 0 (zA Γ) := by
  refine Met.ofW (cc := cX10_ballsLeft) (maxL := 2) (ret := (some .int)) (by decide) rfl ?_
  intro p e s m args below meth c s₁ B hml hv
  obtain ⟨rfl, hW, hKK⟩ := hv
  have hx := B.exec
  have hb := B.bytes
  have hr := B.returns
  have hts := atoms_spec (ws := wsX10_ballsLeft) B.pre
  have hown : s.vm.findClass RX10 = some m.cls := findClass_of_methodNamed B.named
  have hlocks := B.notSynchronized
  have hS : va_S (zA Γ) s.heap s.heap [] := va_S.rf
  have hm : ∀ c, zV S c = zV S c := fun _ => rfl
  have hl := lv_entry ([.ref (q 0), .int i_1]) (n := 2) (Nat.le_of_ble_eq_true rfl)
  rw [lg_entry_eq]
  generalize (lg_sl ([.ref (q 0), .int i_1]) ++ List.replicate (2 - (lg_sl ([.ref (q 0), .int i_1])).length) Slot.unset).toArray = ls at hl ⊢
  have hl : lv_has ls 2 [(0, .ref (q 0)), (1, .int i_1)] := hl
  obtain ⟨H, hH0⟩ : ∃ H, H = s.heap := ⟨_, rfl⟩
  obtain ⟨locs, hlo0⟩ : ∃ L : List Loc, L = [] := ⟨_, rfl⟩
  have hS : va_S (zA Γ) s.heap H locs := by rw [hH0, hlo0]; exact hS
  have hW : Wd Γ lo S (mcl Γ q M ++ Y) H := by rw [hH0]; exact hW
  rw [← hH0, ← hlo0]
  unfold fX10_ballsLeft at hf
  refine lv_aload_n hx hb dX10_ballsLeft_0 rfl (lv_at hl 0 rfl) ?_
  refine lv_iload_n hx hb dX10_ballsLeft_1 rfl (lv_at hl 1 rfl) ?_
  obtain ⟨r1, M3, hc2, hf⟩ := op_cl2 hf
  refine z_callV (As := [.int i_1]) (rest := []) ⟨hx, hb, hml, hown, hts⟩ (tX10_noGame l Γ lo S q M Y  hc2) (cwV 1 hts gX10_ballsLeft_X10_noGame rfl rfl rfl (by decide +kernel) ⟨Nat.le_of_ble_eq_true rfl, Nat.le_of_ble_eq_true rfl⟩) (wd_x hW (k := 0) rfl) rfl hKK hW hS rfl hl.1 rfl (Nat.le_of_ble_eq_true rfl) dX10_ballsLeft_2 ⟨Nat.zero_le _, Nat.zero_le _⟩ (fun H locs hW hS hm1 hE => ?_)
  have b4 := hE
  refine lv_if_eq (tgt := 12) hx hb dX10_ballsLeft_5 (by decide) (fun k5 => ?_) (fun k5 => ?_)
  · have hf := (op_if hf).1 k5
    refine lv_aload_n hx hb dX10_ballsLeft_12 rfl (lv_at hl 0 rfl) ?_
    refine va_get hx hb hts ni_X10_ballsLeft_X10 hown hKK.1 (wd_x hW (k := 0) rfl) 0 rfl rfl 26 (by decide) (hts (.fieldLink RX10 77 "TiltRouteModel" "left" "[I") (List.mem_of_getElem? (i := 1) rfl)) (fun _ h => h) rfl dX10_ballsLeft_13 ?_
    refine lv_iload_n hx hb dX10_ballsLeft_16 rfl (lv_at hl 1 rfl) ?_
    obtain ⟨h17, hf⟩ := op_gd hf
    refine va_iald hx hb hKK.1 (wd_x hW (k := 23) rfl) 0 0 (n := 40) rfl rfl h17 dX10_ballsLeft_17 ?_
    have hf := Option.some.inj hf
    rw [← hf]
    exact z_iret hx hb hr hlocks rfl hW hS hm trivial dX10_ballsLeft_18
  · have hf := (op_if hf).2 k5
    refine lv_iconst (v := (0)) hx hb dX10_ballsLeft_8 (by decide) ?_
    refine lv_goto (tgt := 18) hx hb dX10_ballsLeft_9 (by decide) ?_
    have hf := Option.some.inj hf
    rw [← hf]
    exact z_iret hx hb hr hlocks rfl hW hS hm trivial dX10_ballsLeft_18

theorem ni_X10_stack_X10 : ∀ w ∈ wsX100, w ∈ wsX10_stack := by decide +kernel
def fX10_stack (M : zMs) (i_1 : Int32) : Option (Int32 × zMs) :=
cl2 (fX10_noGame M i_1) fun r1 M3 =>
if r1 = 0 then
st (0 : Int32) fun x5 =>
st (0 : Int32) fun x6 =>
lp (fun (q7 : (Int32 × Int32)) => (gd (¬ (i_1 < 0 ∨ 40 ≤ i_1.toNatClampNeg)) (
if (M3 34 i_1.toNatClampNeg) ≤ q7.2 then
some (.inr ((q7.1, M3)))
else
gd (¬ ((((3 : Int32) * i_1) + q7.2) < 0 ∨ 120 ≤ (((3 : Int32) * i_1) + q7.2).toNatClampNeg)) (
st ((((10 : Int32) * q7.1) + (M3 35 (((3 : Int32) * i_1) + q7.2).toNatClampNeg)) + (1 : Int32)) fun x13 =>
st (q7.2 + (1 : Int32)) fun x14 =>
some (.inl (x13, x14)))) : Option ((Int32 × Int32) ⊕ (Int32 × zMs)))) 40000 (x5, x6)
else
some (((0 : Int32), M3))
abbrev rmX10_stack : Room := { frames := 3, cells := 0, slots := 0, locals := 64 }
set_option maxHeartbeats 4000000 in
set_option maxRecDepth 100000 in
theorem tX10_stack (l : Launch) (Γ : zG) (lo : zId → Nat) (S : zSt) (q : Nat → Nat) (M : zMs) (Y : va_W) {i_1 : Int32}  {y : (Int32 × zMs)} (hf : fX10_stack M i_1 = some y) : Met l yX10_stack wsX10_stack rmX10_stack (zP0 Γ lo S (mcl Γ q M ++ Y) [.ref (q 0), .int i_1]) (zQ0 Γ lo S S (mcl Γ q y.2 ++ Y) (some (.int y.1)) True) 0 0 (zA Γ) := by
  refine Met.ofW (cc := cX10_stack) (maxL := 4) (ret := (some .int)) (by decide) rfl ?_
  intro p e s m args below meth c s₁ B hml hv
  obtain ⟨rfl, hW, hKK⟩ := hv
  have hx := B.exec
  have hb := B.bytes
  have hr := B.returns
  have hts := atoms_spec (ws := wsX10_stack) B.pre
  have hown : s.vm.findClass RX10 = some m.cls := findClass_of_methodNamed B.named
  have hlocks := B.notSynchronized
  have hS : va_S (zA Γ) s.heap s.heap [] := va_S.rf
  have hm : ∀ c, zV S c = zV S c := fun _ => rfl
  have hl := lv_entry ([.ref (q 0), .int i_1]) (n := 4) (Nat.le_of_ble_eq_true rfl)
  rw [lg_entry_eq]
  generalize (lg_sl ([.ref (q 0), .int i_1]) ++ List.replicate (4 - (lg_sl ([.ref (q 0), .int i_1])).length) Slot.unset).toArray = ls at hl ⊢
  have hl : lv_has ls 4 [(0, .ref (q 0)), (1, .int i_1)] := hl
  obtain ⟨H, hH0⟩ : ∃ H, H = s.heap := ⟨_, rfl⟩
  obtain ⟨locs, hlo0⟩ : ∃ L : List Loc, L = [] := ⟨_, rfl⟩
  have hS : va_S (zA Γ) s.heap H locs := by rw [hH0, hlo0]; exact hS
  have hW : Wd Γ lo S (mcl Γ q M ++ Y) H := by rw [hH0]; exact hW
  rw [← hH0, ← hlo0]
  unfold fX10_stack at hf
  refine lv_aload_n hx hb dX10_stack_0 rfl (lv_at hl 0 rfl) ?_
  refine lv_iload_n hx hb dX10_stack_1 rfl (lv_at hl 1 rfl) ?_
  obtain ⟨r1, M3, hc2, hf⟩ := op_cl2 hf
  refine z_callV (As := [.int i_1]) (rest := []) ⟨hx, hb, hml, hown, hts⟩ (tX10_noGame l Γ lo S q M Y  hc2) (cwV 1 hts gX10_stack_X10_noGame rfl rfl rfl (by decide +kernel) ⟨Nat.le_of_ble_eq_true rfl, Nat.le_of_ble_eq_true rfl⟩) (wd_x hW (k := 0) rfl) rfl hKK hW hS rfl hl.1 rfl (Nat.le_of_ble_eq_true rfl) dX10_stack_2 ⟨Nat.zero_le _, Nat.zero_le _⟩ (fun H locs hW hS hm1 hE => ?_)
  have b4 := hE
  refine lv_if_eq (tgt := 10) hx hb dX10_stack_5 (by decide) (fun k5 => ?_) (fun k5 => ?_)
  · have hf := (op_if hf).1 k5
    refine lv_iconst (v := (0)) hx hb dX10_stack_10 (by decide) ?_
    obtain ⟨x5, ex5, hf⟩ := op_st hf
    have bx5 : x5 = 0 ∨ x5 = 1 := Or.inl ex5
    refine z_istn (lv' := [(2, .int x5), (0, .ref (q 0)), (1, .int i_1)]) ex5 hx hb dX10_stack_11 rfl hl (by decide) rfl (fun ls hl => ?_)
    refine lv_iconst (v := (0)) hx hb dX10_stack_12 (by decide) ?_
    obtain ⟨x6, ex6, hf⟩ := op_st hf
    have bx6 : x6 = 0 ∨ x6 = 1 := Or.inl ex6
    refine z_istn (lv' := [(3, .int x6), (2, .int x5), (0, .ref (q 0)), (1, .int i_1)]) ex6 hx hb dX10_stack_13 rfl hl (by decide) rfl (fun ls hl => ?_)
    obtain ⟨w9, q70, ew9, eq70, hf⟩ := op_lb hf
    have hw9 : ∀ n12 : Nat, ∀ (q7 : (Int32 × Int32)) (H : Heap) (locs : List Loc) (ls : Array Slot), lv_has ls 4 [(3, .int q7.2), (2, .int q7.1), (0, .ref (q 0)), (1, .int i_1)] → Wd Γ lo S (mcl Γ q M3 ++ Y) H → va_S (zA Γ) s.heap H locs → (∀ c, zV S c = zV S c) → lp w9 n12 q7 = some y → W p l e (headSpec wsX10_stack rmX10_stack).room s m ([.ref (q 0), .int i_1] : List Value).toArray below meth c H locs 0 0 (MQ below (zQ0 Γ lo S S (mcl Γ q y.2 ++ Y) (some (.int y.1)) True) ([.ref (q 0), .int i_1] : List Value).toArray s 0 0 (zA Γ)) (F0 m 14 ls []) := by
      intro n12
      induction n12 with
      | zero => intro q7 H locs ls hl hW hS hm hf; cases hf
      | succ n12 ih10 =>
        intro q7 H locs ls hl hW hS hm hf
        obtain ⟨n_, r8, hn_, hf, hr11⟩ := op_lq hf
        cases hn_
        rw [ew9] at hf
        refine lv_iload_n hx hb dX10_stack_14 rfl (lv_at hl 0 rfl) ?_
        refine lv_aload_n hx hb dX10_stack_15 rfl (lv_at hl 2 rfl) ?_
        refine va_get hx hb hts ni_X10_stack_X10 hown hKK.1 (wd_x hW (k := 0) rfl) 0 rfl rfl 34 (by decide) (hts (.fieldLink RX10 101 "TiltRouteModel" "depths" "[I") (List.mem_of_getElem? (i := 1) rfl)) (fun _ h => h) rfl dX10_stack_16 ?_
        refine lv_iload_n hx hb dX10_stack_19 rfl (lv_at hl 3 rfl) ?_
        obtain ⟨h20, hf⟩ := op_gd hf
        refine va_iald hx hb hKK.1 (wd_x hW (k := 31) rfl) 0 0 (n := 40) rfl rfl h20 dX10_stack_20 ?_
        refine lv_icmp_ge (tgt := 48) hx hb dX10_stack_21 (by decide) (fun k21 => ?_) (fun k21 => ?_)
        · have hf := (op_if hf).1 k21
          refine lv_iload_n hx hb dX10_stack_48 rfl (lv_at hl 1 rfl) ?_
          have hf := zr_r hf hr11
          rw [← hf]
          exact z_iret hx hb hr hlocks rfl hW hS hm trivial dX10_stack_49
        · have hf := (op_if hf).2 k21
          refine lv_bipush (v := (10)) hx hb dX10_stack_24 (by decide) ?_
          refine lv_iload_n hx hb dX10_stack_26 rfl (lv_at hl 1 rfl) ?_
          refine lv_imul hx hb dX10_stack_27 ?_
          refine lv_aload_n hx hb dX10_stack_28 rfl (lv_at hl 2 rfl) ?_
          refine va_get hx hb hts ni_X10_stack_X10 hown hKK.1 (wd_x hW (k := 0) rfl) 0 rfl rfl 35 (by decide) (hts (.fieldLink RX10 104 "TiltRouteModel" "stacks" "[I") (List.mem_of_getElem? (i := 2) rfl)) (fun _ h => h) rfl dX10_stack_29 ?_
          refine lv_iconst (v := (3)) hx hb dX10_stack_32 (by decide) ?_
          refine lv_iload_n hx hb dX10_stack_33 rfl (lv_at hl 3 rfl) ?_
          refine lv_imul hx hb dX10_stack_34 ?_
          refine lv_iload_n hx hb dX10_stack_35 rfl (lv_at hl 0 rfl) ?_
          refine lv_iadd hx hb dX10_stack_36 ?_
          obtain ⟨h37, hf⟩ := op_gd hf
          refine va_iald hx hb hKK.1 (wd_x hW (k := 32) rfl) 0 0 (n := 120) rfl rfl h37 dX10_stack_37 ?_
          refine lv_iadd hx hb dX10_stack_38 ?_
          refine lv_iconst (v := (1)) hx hb dX10_stack_39 (by decide) ?_
          refine lv_iadd hx hb dX10_stack_40 ?_
          obtain ⟨x13, ex13, hf⟩ := op_st hf
          refine z_istn (lv' := [(2, .int x13), (3, .int q7.2), (0, .ref (q 0)), (1, .int i_1)]) ex13 hx hb dX10_stack_41 rfl hl (by decide) rfl (fun ls hl => ?_)
          obtain ⟨x14, ex14, hf⟩ := op_st hf
          refine lv_iinc (v := x14) (lv' := [(3, .int x14), (2, .int x13), (0, .ref (q 0)), (1, .int i_1)]) hx hb dX10_stack_42 hl (k := 1) rfl (by rw [ex14]; rfl) (by decide) rfl (fun ls hl => ?_)
          refine lv_goto (tgt := 14) hx hb dX10_stack_45 (by decide) ?_
          have hf := zr_l hf hr11
          exact ih10 (x13, x14) H locs ls (lv_sub hl [0, 1, 2, 3] rfl) hW hS hm hf
    rw [eq70] at hf
    exact hw9 _ (x5, x6) H locs ls (lv_sub hl [0, 1, 2, 3] rfl) hW hS hm hf
  · have hf := (op_if hf).2 k5
    refine lv_iconst (v := (0)) hx hb dX10_stack_8 (by decide) ?_
    have hf := Option.some.inj hf
    rw [← hf]
    exact z_iret hx hb hr hlocks rfl hW hS hm trivial dX10_stack_9

theorem ni_X10_score_X10 : ∀ w ∈ wsX100, w ∈ wsX10_score := by decide +kernel
def fX10_score (M : zMs) (i_1 : Int32) : Option (Int32 × zMs) :=
cl2 (fX10_noGame M i_1) fun r1 M3 =>
if r1 = 0 then
gd (¬ (i_1 < 0 ∨ 40 ≤ i_1.toNatClampNeg)) (
some (((M3 27 i_1.toNatClampNeg), M3)))
else
some (((0 : Int32), M3))
abbrev rmX10_score : Room := { frames := 3, cells := 0, slots := 0, locals := 64 }
set_option maxHeartbeats 4000000 in
set_option maxRecDepth 100000 in
theorem tX10_score (l : Launch) (Γ : zG) (lo : zId → Nat) (S : zSt) (q : Nat → Nat) (M : zMs) (Y : va_W) {i_1 : Int32}  {y : (Int32 × zMs)} (hf : fX10_score M i_1 = some y) : Met l yX10_score wsX10_score rmX10_score (zP0 Γ lo S (mcl Γ q M ++ Y) [.ref (q 0), .int i_1]) (zQ0 Γ lo S S (mcl Γ q y.2 ++ Y) (some (.int y.1)) True) 0 0 (zA Γ) := by
  refine Met.ofW (cc := cX10_score) (maxL := 2) (ret := (some .int)) (by decide) rfl ?_
  intro p e s m args below meth c s₁ B hml hv
  obtain ⟨rfl, hW, hKK⟩ := hv
  have hx := B.exec
  have hb := B.bytes
  have hr := B.returns
  have hts := atoms_spec (ws := wsX10_score) B.pre
  have hown : s.vm.findClass RX10 = some m.cls := findClass_of_methodNamed B.named
  have hlocks := B.notSynchronized
  have hS : va_S (zA Γ) s.heap s.heap [] := va_S.rf
  have hm : ∀ c, zV S c = zV S c := fun _ => rfl
  have hl := lv_entry ([.ref (q 0), .int i_1]) (n := 2) (Nat.le_of_ble_eq_true rfl)
  rw [lg_entry_eq]
  generalize (lg_sl ([.ref (q 0), .int i_1]) ++ List.replicate (2 - (lg_sl ([.ref (q 0), .int i_1])).length) Slot.unset).toArray = ls at hl ⊢
  have hl : lv_has ls 2 [(0, .ref (q 0)), (1, .int i_1)] := hl
  obtain ⟨H, hH0⟩ : ∃ H, H = s.heap := ⟨_, rfl⟩
  obtain ⟨locs, hlo0⟩ : ∃ L : List Loc, L = [] := ⟨_, rfl⟩
  have hS : va_S (zA Γ) s.heap H locs := by rw [hH0, hlo0]; exact hS
  have hW : Wd Γ lo S (mcl Γ q M ++ Y) H := by rw [hH0]; exact hW
  rw [← hH0, ← hlo0]
  unfold fX10_score at hf
  refine lv_aload_n hx hb dX10_score_0 rfl (lv_at hl 0 rfl) ?_
  refine lv_iload_n hx hb dX10_score_1 rfl (lv_at hl 1 rfl) ?_
  obtain ⟨r1, M3, hc2, hf⟩ := op_cl2 hf
  refine z_callV (As := [.int i_1]) (rest := []) ⟨hx, hb, hml, hown, hts⟩ (tX10_noGame l Γ lo S q M Y  hc2) (cwV 1 hts gX10_score_X10_noGame rfl rfl rfl (by decide +kernel) ⟨Nat.le_of_ble_eq_true rfl, Nat.le_of_ble_eq_true rfl⟩) (wd_x hW (k := 0) rfl) rfl hKK hW hS rfl hl.1 rfl (Nat.le_of_ble_eq_true rfl) dX10_score_2 ⟨Nat.zero_le _, Nat.zero_le _⟩ (fun H locs hW hS hm1 hE => ?_)
  have b4 := hE
  refine lv_if_eq (tgt := 12) hx hb dX10_score_5 (by decide) (fun k5 => ?_) (fun k5 => ?_)
  · have hf := (op_if hf).1 k5
    refine lv_aload_n hx hb dX10_score_12 rfl (lv_at hl 0 rfl) ?_
    refine va_get hx hb hts ni_X10_score_X10 hown hKK.1 (wd_x hW (k := 0) rfl) 0 rfl rfl 27 (by decide) (hts (.fieldLink RX10 80 "TiltRouteModel" "scores" "[I") (List.mem_of_getElem? (i := 1) rfl)) (fun _ h => h) rfl dX10_score_13 ?_
    refine lv_iload_n hx hb dX10_score_16 rfl (lv_at hl 1 rfl) ?_
    obtain ⟨h17, hf⟩ := op_gd hf
    refine va_iald hx hb hKK.1 (wd_x hW (k := 24) rfl) 0 0 (n := 40) rfl rfl h17 dX10_score_17 ?_
    have hf := Option.some.inj hf
    rw [← hf]
    exact z_iret hx hb hr hlocks rfl hW hS hm trivial dX10_score_18
  · have hf := (op_if hf).2 k5
    refine lv_iconst (v := (0)) hx hb dX10_score_8 (by decide) ?_
    refine lv_goto (tgt := 18) hx hb dX10_score_9 (by decide) ?_
    have hf := Option.some.inj hf
    rw [← hf]
    exact z_iret hx hb hr hlocks rfl hW hS hm trivial dX10_score_18

theorem ni_X10_rewind_X10 : ∀ w ∈ wsX100, w ∈ wsX10_rewind := by decide +kernel
def fX10_rewind (M : zMs) (i_1 : Int32) : Option zMs :=
gd (¬ (i_1 < 0 ∨ 2 ≤ i_1.toNatClampNeg)) (
st (pM M 45 i_1.toNatClampNeg (0 : Int32)) fun M1 =>
gd (¬ (i_1 < 0 ∨ 2 ≤ i_1.toNatClampNeg)) (
st (pM M1 46 i_1.toNatClampNeg (1 : Int32)) fun M2 =>
gd (¬ (i_1 < 0 ∨ 2 ≤ i_1.toNatClampNeg)) (
st (pM M2 47 i_1.toNatClampNeg (0 : Int32)) fun M3 =>
some (M3))))
abbrev rmX10_rewind : Room := { frames := 0, cells := 0, slots := 0, locals := 0 }
set_option maxHeartbeats 4000000 in
set_option maxRecDepth 100000 in
theorem tX10_rewind (l : Launch) (Γ : zG) (lo : zId → Nat) (S : zSt) (q : Nat → Nat) (M : zMs) (Y : va_W) {i_1 : Int32}  {y : zMs} (hf : fX10_rewind M i_1 = some y) : Met l yX10_rewind wsX10_rewind rmX10_rewind (zP0 Γ lo S (mcl Γ q M ++ Y) [.ref (q 0), .int i_1]) (zQ0 Γ lo S S (mcl Γ q y ++ Y) none True) 0 0 (zA Γ) := by
  refine Met.ofW (cc := cX10_rewind) (maxL := 2) (ret := none) (by decide) rfl ?_
  intro p e s m args below meth c s₁ B hml hv
  obtain ⟨rfl, hW, hKK⟩ := hv
  have hx := B.exec
  have hb := B.bytes
  have hr := B.returns
  have hts := atoms_spec (ws := wsX10_rewind) B.pre
  have hown : s.vm.findClass RX10 = some m.cls := findClass_of_methodNamed B.named
  have hlocks := B.notSynchronized
  have hS : va_S (zA Γ) s.heap s.heap [] := va_S.rf
  have hm : ∀ c, zV S c = zV S c := fun _ => rfl
  have hl := lv_entry ([.ref (q 0), .int i_1]) (n := 2) (Nat.le_of_ble_eq_true rfl)
  rw [lg_entry_eq]
  generalize (lg_sl ([.ref (q 0), .int i_1]) ++ List.replicate (2 - (lg_sl ([.ref (q 0), .int i_1])).length) Slot.unset).toArray = ls at hl ⊢
  have hl : lv_has ls 2 [(0, .ref (q 0)), (1, .int i_1)] := hl
  obtain ⟨H, hH0⟩ : ∃ H, H = s.heap := ⟨_, rfl⟩
  obtain ⟨locs, hlo0⟩ : ∃ L : List Loc, L = [] := ⟨_, rfl⟩
  have hS : va_S (zA Γ) s.heap H locs := by rw [hH0, hlo0]; exact hS
  have hW : Wd Γ lo S (mcl Γ q M ++ Y) H := by rw [hH0]; exact hW
  rw [← hH0, ← hlo0]
  unfold fX10_rewind at hf
  refine lv_aload_n hx hb dX10_rewind_0 rfl (lv_at hl 0 rfl) ?_
  refine va_get hx hb hts ni_X10_rewind_X10 hown hKK.1 (wd_x hW (k := 0) rfl) 0 rfl rfl 45 (by decide) (hts (.fieldLink RX10 126 "TiltRouteModel" "balls" "[I") (List.mem_of_getElem? (i := 1) rfl)) (fun _ h => h) rfl dX10_rewind_1 ?_
  refine lv_iload_n hx hb dX10_rewind_4 rfl (lv_at hl 1 rfl) ?_
  refine lv_iconst (v := (0)) hx hb dX10_rewind_5 (by decide) ?_
  obtain ⟨h6, hf⟩ := op_gd hf
  obtain ⟨M1, eM1, hf⟩ := op_st hf
  refine m_iast hx hb hKK.1 hW hS 45 39 2 rfl h6 eM1 (ms_45 Γ q _ Y _ _) dX10_rewind_6 (fun H locs hW hS => ?_)
  refine lv_aload_n hx hb dX10_rewind_7 rfl (lv_at hl 0 rfl) ?_
  refine va_get hx hb hts ni_X10_rewind_X10 hown hKK.1 (wd_x hW (k := 0) rfl) 0 rfl rfl 46 (by decide) (hts (.fieldLink RX10 129 "TiltRouteModel" "step" "[I") (List.mem_of_getElem? (i := 2) rfl)) (fun _ h => h) rfl dX10_rewind_8 ?_
  refine lv_iload_n hx hb dX10_rewind_11 rfl (lv_at hl 1 rfl) ?_
  refine lv_iconst (v := (1)) hx hb dX10_rewind_12 (by decide) ?_
  obtain ⟨h13, hf⟩ := op_gd hf
  obtain ⟨M2, eM2, hf⟩ := op_st hf
  refine m_iast hx hb hKK.1 hW hS 46 40 2 rfl h13 eM2 (ms_46 Γ q _ Y _ _) dX10_rewind_13 (fun H locs hW hS => ?_)
  refine lv_aload_n hx hb dX10_rewind_14 rfl (lv_at hl 0 rfl) ?_
  refine va_get hx hb hts ni_X10_rewind_X10 hown hKK.1 (wd_x hW (k := 0) rfl) 0 rfl rfl 47 (by decide) (hts (.fieldLink RX10 132 "TiltRouteModel" "part" "[I") (List.mem_of_getElem? (i := 3) rfl)) (fun _ h => h) rfl dX10_rewind_15 ?_
  refine lv_iload_n hx hb dX10_rewind_18 rfl (lv_at hl 1 rfl) ?_
  refine lv_iconst (v := (0)) hx hb dX10_rewind_19 (by decide) ?_
  obtain ⟨h20, hf⟩ := op_gd hf
  obtain ⟨M3, eM3, hf⟩ := op_st hf
  refine m_iast hx hb hKK.1 hW hS 47 41 2 rfl h20 eM3 (ms_47 Γ q _ Y _ _) dX10_rewind_20 (fun H locs hW hS => ?_)
  have hf := Option.some.inj hf
  rw [← hf]
  exact z_vret hx hb hr hlocks hW hS hm trivial dX10_rewind_21

