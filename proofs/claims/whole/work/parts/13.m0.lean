theorem ni_X10_thrown_X10 : ∀ w ∈ wsX100, w ∈ wsX10_thrown := by decide +kernel
def fX10_thrown (M : zMs)  : Option Int32 :=
some ((M 0 0))
abbrev rmX10_thrown : Room := { frames := 0, cells := 0, slots := 0, locals := 0 }
set_option maxHeartbeats 4000000 in
set_option maxRecDepth 100000 in
theorem tX10_thrown (l : Launch) (Γ : zG) (lo : zId → Nat) (S : zSt) (q : Nat → Nat) (M : zMs) (Y : va_W)   {y : Int32} (hf : fX10_thrown M  = some y) : Met l yX10_thrown wsX10_thrown rmX10_thrown (zP0 Γ lo S (mcl Γ q M ++ Y) [.ref (q 0)]) (zQ0 Γ lo S S (mcl Γ q M ++ Y) (some (.int y)) True) 0 0 (zA Γ) := by
  refine Met.ofW (cc := cX10_thrown) (maxL := 1) (ret := (some .int)) (by decide) rfl ?_
  intro p e s m args below meth c s₁ B hml hv
  obtain ⟨rfl, hW, hKK⟩ := hv
  have hx := B.exec
  have hb := B.bytes
  have hr := B.returns
  have hts := atoms_spec (ws := wsX10_thrown) B.pre
  have hown : s.vm.findClass RX10 = some m.cls := findClass_of_methodNamed B.named
  have hlocks := B.notSynchronized
  have hS : va_S (zA Γ) s.heap s.heap [] := va_S.rf
  have hm : ∀ c, zV S c = zV S c := fun _ => rfl
  have hl := lv_entry ([.ref (q 0)]) (n := 1) (Nat.le_of_ble_eq_true rfl)
  rw [lg_entry_eq]
  generalize (lg_sl ([.ref (q 0)]) ++ List.replicate (1 - (lg_sl ([.ref (q 0)])).length) Slot.unset).toArray = ls at hl ⊢
  have hl : lv_has ls 1 [(0, .ref (q 0))] := hl
  obtain ⟨H, hH0⟩ : ∃ H, H = s.heap := ⟨_, rfl⟩
  obtain ⟨locs, hlo0⟩ : ∃ L : List Loc, L = [] := ⟨_, rfl⟩
  have hS : va_S (zA Γ) s.heap H locs := by rw [hH0, hlo0]; exact hS
  have hW : Wd Γ lo S (mcl Γ q M ++ Y) H := by rw [hH0]; exact hW
  rw [← hH0, ← hlo0]
  unfold fX10_thrown at hf
  refine lv_aload_n hx hb dX10_thrown_0 rfl (lv_at hl 0 rfl) ?_
  refine va_get hx hb hts ni_X10_thrown_X10 hown hKK.1 (wd_x hW (k := 0) rfl) 0 rfl rfl 0 (by decide) (hts (.fieldLink RX10 150 "TiltRouteModel" "refusal" "I") (List.mem_of_getElem? (i := 1) rfl)) (fun _ h => h) rfl dX10_thrown_1 ?_
  have hf := Option.some.inj hf
  rw [← hf]
  exact z_iret hx hb hr hlocks rfl hW hS hm trivial dX10_thrown_4

theorem ni_X10_refused_X10 : ∀ w ∈ wsX100, w ∈ wsX10_refused := by decide +kernel
def fX10_refused (M : zMs) (i_1 : Int32) : Option (Int32 × zMs) :=
st (pM M 0 0 i_1) fun M1 =>
if i_1 = 0 then
some (((0 : Int32), M1))
else
some (((1 : Int32), M1))
abbrev rmX10_refused : Room := { frames := 0, cells := 0, slots := 0, locals := 0 }
set_option maxHeartbeats 4000000 in
set_option maxRecDepth 100000 in
theorem tX10_refused (l : Launch) (Γ : zG) (lo : zId → Nat) (S : zSt) (q : Nat → Nat) (M : zMs) (Y : va_W) {i_1 : Int32}  {y : (Int32 × zMs)} (hf : fX10_refused M i_1 = some y) : Met l yX10_refused wsX10_refused rmX10_refused (zP0 Γ lo S (mcl Γ q M ++ Y) [.ref (q 0), .int i_1]) (zQ0 Γ lo S S (mcl Γ q y.2 ++ Y) (some (.int y.1)) (y.1 = 0 ∨ y.1 = 1)) 0 0 (zA Γ) := by
  refine Met.ofW (cc := cX10_refused) (maxL := 2) (ret := (some .boolean)) (by decide) rfl ?_
  intro p e s m args below meth c s₁ B hml hv
  obtain ⟨rfl, hW, hKK⟩ := hv
  have hx := B.exec
  have hb := B.bytes
  have hr := B.returns
  have hts := atoms_spec (ws := wsX10_refused) B.pre
  have hown : s.vm.findClass RX10 = some m.cls := findClass_of_methodNamed B.named
  have hlocks := B.notSynchronized
  have hS : va_S (zA Γ) s.heap s.heap [] := va_S.rf
  have hm : ∀ c, zV S c = zV S c := fun _ => rfl
  have hl := lv_entry ([.ref (q 0), .int i_1]) (n := 2) (Nat.le_of_ble_eq_true rfl)
  rw [lg_entry_eq]
  generalize (lg_sl ([.ref (q 0), .int i_1]) ++ List.replicate (2 - (lg_sl ([.ref (q 0), .int i_1])).length) Slot.unset).toArray = ls at hl ⊢
  have hl : lv_has ls 2 [(0, .ref (q 0)), (1, .int i_1)] := hl
  obtain ⟨H, hH0⟩ : ∃ H, H = s.heap := ⟨_, rfl⟩
  obtain ⟨locs, hlo0⟩ : ∃ L : List Loc, L = [] := ⟨_, rfl⟩
  have hS : va_S (zA Γ) s.heap H locs := by rw [hH0, hlo0]; exact hS
  have hW : Wd Γ lo S (mcl Γ q M ++ Y) H := by rw [hH0]; exact hW
  rw [← hH0, ← hlo0]
  unfold fX10_refused at hf
  refine lv_aload_n hx hb dX10_refused_0 rfl (lv_at hl 0 rfl) ?_
  refine lv_iload_n hx hb dX10_refused_1 rfl (lv_at hl 1 rfl) ?_
  obtain ⟨M1, eM1, hf⟩ := op_st hf
  refine m_put hx hb hts ni_X10_refused_X10 hown hKK.1 hW hS 0 (by decide) (hts (.fieldLink RX10 150 "TiltRouteModel" "refusal" "I") (List.mem_of_getElem? (i := 1) rfl)) rfl rfl rfl eM1 (ms_0 Γ q _ Y _) dX10_refused_2 (fun H locs hW hS => ?_)
  refine lv_iload_n hx hb dX10_refused_5 rfl (lv_at hl 1 rfl) ?_
  refine lv_if_eq (tgt := 13) hx hb dX10_refused_6 (by decide) (fun k6 => ?_) (fun k6 => ?_)
  · have hf := (op_if hf).1 k6
    refine lv_iconst (v := (0)) hx hb dX10_refused_13 (by decide) ?_
    have hf := Option.some.inj hf
    rw [← hf]
    exact z_iret hx hb hr hlocks (z_bb (Or.inl rfl)) hW hS hm (Or.inl rfl) dX10_refused_14
  · have hf := (op_if hf).2 k6
    refine lv_iconst (v := (1)) hx hb dX10_refused_9 (by decide) ?_
    refine lv_goto (tgt := 14) hx hb dX10_refused_10 (by decide) ?_
    have hf := Option.some.inj hf
    rw [← hf]
    exact z_iret hx hb hr hlocks (z_bb (Or.inr rfl)) hW hS hm (Or.inr rfl) dX10_refused_14

theorem ni_X10_fine_X10 : ∀ w ∈ wsX100, w ∈ wsX10_fine := by decide +kernel
def fX10_fine (M : zMs) (i_1 : Int32) : Option (Int32 × zMs) :=
st (pM M 0 0 (0 : Int32)) fun M1 =>
some ((i_1, M1))
abbrev rmX10_fine : Room := { frames := 0, cells := 0, slots := 0, locals := 0 }
set_option maxHeartbeats 4000000 in
set_option maxRecDepth 100000 in
theorem tX10_fine (l : Launch) (Γ : zG) (lo : zId → Nat) (S : zSt) (q : Nat → Nat) (M : zMs) (Y : va_W) {i_1 : Int32}  {y : (Int32 × zMs)} (hf : fX10_fine M i_1 = some y) : Met l yX10_fine wsX10_fine rmX10_fine (zP0 Γ lo S (mcl Γ q M ++ Y) [.ref (q 0), .int i_1]) (zQ0 Γ lo S S (mcl Γ q y.2 ++ Y) (some (.int y.1)) True) 0 0 (zA Γ) := by
  refine Met.ofW (cc := cX10_fine) (maxL := 2) (ret := (some .int)) (by decide) rfl ?_
  intro p e s m args below meth c s₁ B hml hv
  obtain ⟨rfl, hW, hKK⟩ := hv
  have hx := B.exec
  have hb := B.bytes
  have hr := B.returns
  have hts := atoms_spec (ws := wsX10_fine) B.pre
  have hown : s.vm.findClass RX10 = some m.cls := findClass_of_methodNamed B.named
  have hlocks := B.notSynchronized
  have hS : va_S (zA Γ) s.heap s.heap [] := va_S.rf
  have hm : ∀ c, zV S c = zV S c := fun _ => rfl
  have hl := lv_entry ([.ref (q 0), .int i_1]) (n := 2) (Nat.le_of_ble_eq_true rfl)
  rw [lg_entry_eq]
  generalize (lg_sl ([.ref (q 0), .int i_1]) ++ List.replicate (2 - (lg_sl ([.ref (q 0), .int i_1])).length) Slot.unset).toArray = ls at hl ⊢
  have hl : lv_has ls 2 [(0, .ref (q 0)), (1, .int i_1)] := hl
  obtain ⟨H, hH0⟩ : ∃ H, H = s.heap := ⟨_, rfl⟩
  obtain ⟨locs, hlo0⟩ : ∃ L : List Loc, L = [] := ⟨_, rfl⟩
  have hS : va_S (zA Γ) s.heap H locs := by rw [hH0, hlo0]; exact hS
  have hW : Wd Γ lo S (mcl Γ q M ++ Y) H := by rw [hH0]; exact hW
  rw [← hH0, ← hlo0]
  unfold fX10_fine at hf
  refine lv_aload_n hx hb dX10_fine_0 rfl (lv_at hl 0 rfl) ?_
  refine lv_iconst (v := (0)) hx hb dX10_fine_1 (by decide) ?_
  obtain ⟨M1, eM1, hf⟩ := op_st hf
  refine m_put hx hb hts ni_X10_fine_X10 hown hKK.1 hW hS 0 (by decide) (hts (.fieldLink RX10 150 "TiltRouteModel" "refusal" "I") (List.mem_of_getElem? (i := 1) rfl)) rfl rfl rfl eM1 (ms_0 Γ q _ Y _) dX10_fine_2 (fun H locs hW hS => ?_)
  refine lv_iload_n hx hb dX10_fine_5 rfl (lv_at hl 1 rfl) ?_
  have hf := Option.some.inj hf
  rw [← hf]
  exact z_iret hx hb hr hlocks rfl hW hS hm trivial dX10_fine_6

def fX10_in (M : zMs) (i_1 : Int32) (i_2 : Int32) (i_3 : Int32) : Option Int32 :=
st (fun (u_ : Unit) => (some ((0 : Int32)) : Option Int32)) fun j1 =>
if i_1 < i_2 then
j1 ()
else
if i_3 < i_1 then
j1 ()
else
some ((1 : Int32))
abbrev rmX10_in : Room := { frames := 0, cells := 0, slots := 0, locals := 0 }
set_option maxHeartbeats 4000000 in
set_option maxRecDepth 100000 in
theorem tX10_in (l : Launch) (Γ : zG) (lo : zId → Nat) (S : zSt) (q : Nat → Nat) (M : zMs) (Y : va_W) {i_1 : Int32} {i_2 : Int32} {i_3 : Int32}  {y : Int32} (hf : fX10_in M i_1 i_2 i_3 = some y) : Met l yX10_in wsX10_in rmX10_in (zP0 Γ lo S (mcl Γ q M ++ Y) [.int i_1, .int i_2, .int i_3]) (zQ0 Γ lo S S (mcl Γ q M ++ Y) (some (.int y)) (y = 0 ∨ y = 1)) 0 0 (zA Γ) := by
  refine Met.ofW (cc := cX10_in) (maxL := 3) (ret := (some .boolean)) (by decide) rfl ?_
  intro p e s m args below meth c s₁ B hml hv
  obtain ⟨rfl, hW, hKK⟩ := hv
  have hx := B.exec
  have hb := B.bytes
  have hr := B.returns
  have hts := atoms_spec (ws := wsX10_in) B.pre
  have hown : s.vm.findClass RX10 = some m.cls := findClass_of_methodNamed B.named
  have hlocks := B.notSynchronized
  have hS : va_S (zA Γ) s.heap s.heap [] := va_S.rf
  have hm : ∀ c, zV S c = zV S c := fun _ => rfl
  have hl := lv_entry ([.int i_1, .int i_2, .int i_3]) (n := 3) (Nat.le_of_ble_eq_true rfl)
  rw [lg_entry_eq]
  generalize (lg_sl ([.int i_1, .int i_2, .int i_3]) ++ List.replicate (3 - (lg_sl ([.int i_1, .int i_2, .int i_3])).length) Slot.unset).toArray = ls at hl ⊢
  have hl : lv_has ls 3 [(0, .int i_1), (1, .int i_2), (2, .int i_3)] := hl
  obtain ⟨H, hH0⟩ : ∃ H, H = s.heap := ⟨_, rfl⟩
  obtain ⟨locs, hlo0⟩ : ∃ L : List Loc, L = [] := ⟨_, rfl⟩
  have hS : va_S (zA Γ) s.heap H locs := by rw [hH0, hlo0]; exact hS
  have hW : Wd Γ lo S (mcl Γ q M ++ Y) H := by rw [hH0]; exact hW
  rw [← hH0, ← hlo0]
  unfold fX10_in at hf
  refine lv_iload_n hx hb dX10_in_0 rfl (lv_at hl 0 rfl) ?_
  refine lv_iload_n hx hb dX10_in_1 rfl (lv_at hl 1 rfl) ?_
  obtain ⟨j1, ej1, hf⟩ := op_st hf
  have hj1 : ∀ (u_ : Unit) (H : Heap) (locs : List Loc) (ls : Array Slot), lv_has ls 3 [] → Wd Γ lo S (mcl Γ q M ++ Y) H → va_S (zA Γ) s.heap H locs → (∀ c, zV S c = zV S c) → j1 () = some y → W p l e (headSpec wsX10_in rmX10_in).room s m ([.int i_1, .int i_2, .int i_3] : List Value).toArray below meth c H locs 0 0 (MQ below (zQ0 Γ lo S S (mcl Γ q M ++ Y) (some (.int y)) (y = 0 ∨ y = 1)) ([.int i_1, .int i_2, .int i_3] : List Value).toArray s 0 0 (zA Γ)) (F0 m 14 ls []) := by
    intro u_ H locs ls  hl hW hS hm hf
    rw [ej1] at hf
    refine lv_iconst (v := (0)) hx hb dX10_in_14 (by decide) ?_
    have hf := Option.some.inj hf
    rw [← hf]
    exact z_iret hx hb hr hlocks (z_bb (Or.inl rfl)) hW hS hm (Or.inl rfl) dX10_in_15
  refine lv_icmp_lt (tgt := 14) hx hb dX10_in_2 (by decide) (fun k2 => ?_) (fun k2 => ?_)
  · have hf := (op_if hf).1 k2
    exact hj1 () H locs ls  (lv_sub hl [] rfl) hW hS hm hf
  · have hf := (op_if hf).2 k2
    refine lv_iload_n hx hb dX10_in_5 rfl (lv_at hl 0 rfl) ?_
    refine lv_iload_n hx hb dX10_in_6 rfl (lv_at hl 2 rfl) ?_
    refine lv_icmp_gt (tgt := 14) hx hb dX10_in_7 (by decide) (fun k7 => ?_) (fun k7 => ?_)
    · have hf := (op_if hf).1 k7
      exact hj1 () H locs ls  (lv_sub hl [] rfl) hW hS hm hf
    · have hf := (op_if hf).2 k7
      refine lv_iconst (v := (1)) hx hb dX10_in_10 (by decide) ?_
      refine lv_goto (tgt := 15) hx hb dX10_in_11 (by decide) ?_
      have hf := Option.some.inj hf
      rw [← hf]
      exact z_iret hx hb hr hlocks (z_bb (Or.inr rfl)) hW hS hm (Or.inr rfl) dX10_in_15

theorem ni_X10_isTable_X10 : ∀ w ∈ wsX100, w ∈ wsX10_isTable := by decide +kernel
def fX10_isTable (M : zMs) (i_1 : Int32) : Option Int32 :=
cl (fX10_in M i_1 (0 : Int32) ((M 1 0) - (1 : Int32))) fun r1 =>
some (r1)
abbrev rmX10_isTable : Room := { frames := 1, cells := 0, slots := 0, locals := 22 }
set_option maxHeartbeats 4000000 in
set_option maxRecDepth 100000 in
theorem tX10_isTable (l : Launch) (Γ : zG) (lo : zId → Nat) (S : zSt) (q : Nat → Nat) (M : zMs) (Y : va_W) {i_1 : Int32}  {y : Int32} (hf : fX10_isTable M i_1 = some y) : Met l yX10_isTable wsX10_isTable rmX10_isTable (zP0 Γ lo S (mcl Γ q M ++ Y) [.ref (q 0), .int i_1]) (zQ0 Γ lo S S (mcl Γ q M ++ Y) (some (.int y)) (y = 0 ∨ y = 1)) 0 0 (zA Γ) := by
  refine Met.ofW (cc := cX10_isTable) (maxL := 2) (ret := (some .boolean)) (by decide) rfl ?_
  intro p e s m args below meth c s₁ B hml hv
  obtain ⟨rfl, hW, hKK⟩ := hv
  have hx := B.exec
  have hb := B.bytes
  have hr := B.returns
  have hts := atoms_spec (ws := wsX10_isTable) B.pre
  have hown : s.vm.findClass RX10 = some m.cls := findClass_of_methodNamed B.named
  have hlocks := B.notSynchronized
  have hS : va_S (zA Γ) s.heap s.heap [] := va_S.rf
  have hm : ∀ c, zV S c = zV S c := fun _ => rfl
  have hl := lv_entry ([.ref (q 0), .int i_1]) (n := 2) (Nat.le_of_ble_eq_true rfl)
  rw [lg_entry_eq]
  generalize (lg_sl ([.ref (q 0), .int i_1]) ++ List.replicate (2 - (lg_sl ([.ref (q 0), .int i_1])).length) Slot.unset).toArray = ls at hl ⊢
  have hl : lv_has ls 2 [(0, .ref (q 0)), (1, .int i_1)] := hl
  obtain ⟨H, hH0⟩ : ∃ H, H = s.heap := ⟨_, rfl⟩
  obtain ⟨locs, hlo0⟩ : ∃ L : List Loc, L = [] := ⟨_, rfl⟩
  have hS : va_S (zA Γ) s.heap H locs := by rw [hH0, hlo0]; exact hS
  have hW : Wd Γ lo S (mcl Γ q M ++ Y) H := by rw [hH0]; exact hW
  rw [← hH0, ← hlo0]
  unfold fX10_isTable at hf
  refine lv_iload_n hx hb dX10_isTable_0 rfl (lv_at hl 1 rfl) ?_
  refine lv_iconst (v := (0)) hx hb dX10_isTable_1 (by decide) ?_
  refine lv_aload_n hx hb dX10_isTable_2 rfl (lv_at hl 0 rfl) ?_
  refine va_get hx hb hts ni_X10_isTable_X10 hown hKK.1 (wd_x hW (k := 0) rfl) 0 rfl rfl 1 (by decide) (hts (.fieldLink RX10 154 "TiltRouteModel" "tables" "I") (List.mem_of_getElem? (i := 1) rfl)) (fun _ h => h) rfl dX10_isTable_3 ?_
  refine lv_iconst (v := (1)) hx hb dX10_isTable_6 (by decide) ?_
  refine lv_isub hx hb dX10_isTable_7 ?_
  obtain ⟨r1, hc2, hf⟩ := op_cl hf
  refine z_callS (As := [.int i_1, .int (0 : Int32), .int ((M 1 0) - (1 : Int32))]) (rest := []) ⟨hx, hb, hml, hown, hts⟩ (tX10_in l Γ lo S q M Y  hc2) (va_cwS 3 hts gX10_isTable_X10_in rfl rfl rfl (by decide +kernel) ⟨Nat.le_of_ble_eq_true rfl, Nat.le_of_ble_eq_true rfl⟩) hKK hW hS rfl hl.1 rfl (Nat.le_of_ble_eq_true rfl) dX10_isTable_8 ⟨Nat.zero_le _, Nat.zero_le _⟩ (fun H locs hW hS hm1 hE => ?_)
  have b3 := hE
  have hf := Option.some.inj hf
  rw [← hf]
  exact z_iret hx hb hr hlocks (z_bb b3) hW hS hm b3 dX10_isTable_11

theorem ni_X10_isSwitch_X10 : ∀ w ∈ wsX100, w ∈ wsX10_isSwitch := by decide +kernel
def fX10_isSwitch (M : zMs) (i_1 : Int32) (i_2 : Int32) : Option Int32 :=
cl (fX10_isTable M i_1) fun r1 =>
st (fun (u_ : Unit) => (some ((0 : Int32)) : Option Int32)) fun j4 =>
if r1 = 0 then
j4 ()
else
gd (¬ (i_1 < 0 ∨ 6 ≤ i_1.toNatClampNeg)) (
cl (fX10_in M i_2 (0 : Int32) ((M 8 i_1.toNatClampNeg) - (1 : Int32))) fun r5 =>
if r5 = 0 then
j4 ()
else
some ((1 : Int32)))
abbrev rmX10_isSwitch : Room := { frames := 2, cells := 0, slots := 0, locals := 43 }
set_option maxHeartbeats 4000000 in
set_option maxRecDepth 100000 in
theorem tX10_isSwitch (l : Launch) (Γ : zG) (lo : zId → Nat) (S : zSt) (q : Nat → Nat) (M : zMs) (Y : va_W) {i_1 : Int32} {i_2 : Int32}  {y : Int32} (hf : fX10_isSwitch M i_1 i_2 = some y) : Met l yX10_isSwitch wsX10_isSwitch rmX10_isSwitch (zP0 Γ lo S (mcl Γ q M ++ Y) [.ref (q 0), .int i_1, .int i_2]) (zQ0 Γ lo S S (mcl Γ q M ++ Y) (some (.int y)) (y = 0 ∨ y = 1)) 0 0 (zA Γ) := by
  refine Met.ofW (cc := cX10_isSwitch) (maxL := 3) (ret := (some .boolean)) (by decide) rfl ?_
  intro p e s m args below meth c s₁ B hml hv
  obtain ⟨rfl, hW, hKK⟩ := hv
  have hx := B.exec
  have hb := B.bytes
  have hr := B.returns
  have hts := atoms_spec (ws := wsX10_isSwitch) B.pre
  have hown : s.vm.findClass RX10 = some m.cls := findClass_of_methodNamed B.named
  have hlocks := B.notSynchronized
  have hS : va_S (zA Γ) s.heap s.heap [] := va_S.rf
  have hm : ∀ c, zV S c = zV S c := fun _ => rfl
  have hl := lv_entry ([.ref (q 0), .int i_1, .int i_2]) (n := 3) (Nat.le_of_ble_eq_true rfl)
  rw [lg_entry_eq]
  generalize (lg_sl ([.ref (q 0), .int i_1, .int i_2]) ++ List.replicate (3 - (lg_sl ([.ref (q 0), .int i_1, .int i_2])).length) Slot.unset).toArray = ls at hl ⊢
  have hl : lv_has ls 3 [(0, .ref (q 0)), (1, .int i_1), (2, .int i_2)] := hl
  obtain ⟨H, hH0⟩ : ∃ H, H = s.heap := ⟨_, rfl⟩
  obtain ⟨locs, hlo0⟩ : ∃ L : List Loc, L = [] := ⟨_, rfl⟩
  have hS : va_S (zA Γ) s.heap H locs := by rw [hH0, hlo0]; exact hS
  have hW : Wd Γ lo S (mcl Γ q M ++ Y) H := by rw [hH0]; exact hW
  rw [← hH0, ← hlo0]
  unfold fX10_isSwitch at hf
  refine lv_aload_n hx hb dX10_isSwitch_0 rfl (lv_at hl 0 rfl) ?_
  refine lv_iload_n hx hb dX10_isSwitch_1 rfl (lv_at hl 1 rfl) ?_
  obtain ⟨r1, hc2, hf⟩ := op_cl hf
  refine z_callV (As := [.int i_1]) (rest := []) ⟨hx, hb, hml, hown, hts⟩ (tX10_isTable l Γ lo S q M Y  hc2) (cwV 1 hts gX10_isSwitch_X10_isTable rfl rfl rfl (by decide +kernel) ⟨Nat.le_of_ble_eq_true rfl, Nat.le_of_ble_eq_true rfl⟩) (wd_x hW (k := 0) rfl) rfl hKK hW hS rfl hl.1 rfl (Nat.le_of_ble_eq_true rfl) dX10_isSwitch_2 ⟨Nat.zero_le _, Nat.zero_le _⟩ (fun H locs hW hS hm1 hE => ?_)
  have b3 := hE
  obtain ⟨j4, ej4, hf⟩ := op_st hf
  have hj4 : ∀ (u_ : Unit) (H : Heap) (locs : List Loc) (ls : Array Slot), lv_has ls 3 [] → Wd Γ lo S (mcl Γ q M ++ Y) H → va_S (zA Γ) s.heap H locs → (∀ c, zV S c = zV S c) → j4 () = some y → W p l e (headSpec wsX10_isSwitch rmX10_isSwitch).room s m ([.ref (q 0), .int i_1, .int i_2] : List Value).toArray below meth c H locs 0 0 (MQ below (zQ0 Γ lo S S (mcl Γ q M ++ Y) (some (.int y)) (y = 0 ∨ y = 1)) ([.ref (q 0), .int i_1, .int i_2] : List Value).toArray s 0 0 (zA Γ)) (F0 m 28 ls []) := by
    intro u_ H locs ls  hl hW hS hm hf
    rw [ej4] at hf
    refine lv_iconst (v := (0)) hx hb dX10_isSwitch_28 (by decide) ?_
    have hf := Option.some.inj hf
    rw [← hf]
    exact z_iret hx hb hr hlocks (z_bb (Or.inl rfl)) hW hS hm (Or.inl rfl) dX10_isSwitch_29
  refine lv_if_eq (tgt := 28) hx hb dX10_isSwitch_5 (by decide) (fun k5 => ?_) (fun k5 => ?_)
  · have hf := (op_if hf).1 k5
    exact hj4 () H locs ls  (lv_sub hl [] rfl) hW hS hm hf
  · have hf := (op_if hf).2 k5
    refine lv_iload_n hx hb dX10_isSwitch_8 rfl (lv_at hl 2 rfl) ?_
    refine lv_iconst (v := (0)) hx hb dX10_isSwitch_9 (by decide) ?_
    refine lv_aload_n hx hb dX10_isSwitch_10 rfl (lv_at hl 0 rfl) ?_
    refine va_get hx hb hts ni_X10_isSwitch_X10 hown hKK.1 (wd_x hW (k := 0) rfl) 0 rfl rfl 8 (by decide) (hts (.fieldLink RX10 28 "TiltRouteModel" "bumpers" "[I") (List.mem_of_getElem? (i := 1) rfl)) (fun _ h => h) rfl dX10_isSwitch_11 ?_
    refine lv_iload_n hx hb dX10_isSwitch_14 rfl (lv_at hl 1 rfl) ?_
    obtain ⟨h15, hf⟩ := op_gd hf
    refine va_iald hx hb hKK.1 (wd_x hW (k := 7) rfl) 0 0 (n := 6) rfl rfl h15 dX10_isSwitch_15 ?_
    refine lv_iconst (v := (1)) hx hb dX10_isSwitch_16 (by decide) ?_
    refine lv_isub hx hb dX10_isSwitch_17 ?_
    obtain ⟨r5, hc6, hf⟩ := op_cl hf
    refine z_callS (As := [.int i_2, .int (0 : Int32), .int ((M 8 i_1.toNatClampNeg) - (1 : Int32))]) (rest := []) ⟨hx, hb, hml, hown, hts⟩ (tX10_in l Γ lo S q M Y  hc6) (va_cwS 3 hts gX10_isSwitch_X10_in rfl rfl rfl (by decide +kernel) ⟨Nat.le_of_ble_eq_true rfl, Nat.le_of_ble_eq_true rfl⟩) hKK hW hS rfl hl.1 rfl (Nat.le_of_ble_eq_true rfl) dX10_isSwitch_18 ⟨Nat.zero_le _, Nat.zero_le _⟩ (fun H locs hW hS hm1 hE => ?_)
    have b7 := hE
    refine lv_if_eq (tgt := 28) hx hb dX10_isSwitch_21 (by decide) (fun k21 => ?_) (fun k21 => ?_)
    · have hf := (op_if hf).1 k21
      exact hj4 () H locs ls  (lv_sub hl [] rfl) hW hS hm hf
    · have hf := (op_if hf).2 k21
      refine lv_iconst (v := (1)) hx hb dX10_isSwitch_24 (by decide) ?_
      refine lv_goto (tgt := 29) hx hb dX10_isSwitch_25 (by decide) ?_
      have hf := Option.some.inj hf
      rw [← hf]
      exact z_iret hx hb hr hlocks (z_bb (Or.inr rfl)) hW hS hm (Or.inr rfl) dX10_isSwitch_29

theorem ni_X10_isGame_X10 : ∀ w ∈ wsX100, w ∈ wsX10_isGame := by decide +kernel
def fX10_isGame (M : zMs) (i_1 : Int32) : Option Int32 :=
cl (fX10_in M i_1 (0 : Int32) ((M 24 0) - (1 : Int32))) fun r1 =>
some (r1)
abbrev rmX10_isGame : Room := { frames := 1, cells := 0, slots := 0, locals := 22 }
set_option maxHeartbeats 4000000 in
set_option maxRecDepth 100000 in
theorem tX10_isGame (l : Launch) (Γ : zG) (lo : zId → Nat) (S : zSt) (q : Nat → Nat) (M : zMs) (Y : va_W) {i_1 : Int32}  {y : Int32} (hf : fX10_isGame M i_1 = some y) : Met l yX10_isGame wsX10_isGame rmX10_isGame (zP0 Γ lo S (mcl Γ q M ++ Y) [.ref (q 0), .int i_1]) (zQ0 Γ lo S S (mcl Γ q M ++ Y) (some (.int y)) (y = 0 ∨ y = 1)) 0 0 (zA Γ) := by
  refine Met.ofW (cc := cX10_isGame) (maxL := 2) (ret := (some .boolean)) (by decide) rfl ?_
  intro p e s m args below meth c s₁ B hml hv
  obtain ⟨rfl, hW, hKK⟩ := hv
  have hx := B.exec
  have hb := B.bytes
  have hr := B.returns
  have hts := atoms_spec (ws := wsX10_isGame) B.pre
  have hown : s.vm.findClass RX10 = some m.cls := findClass_of_methodNamed B.named
  have hlocks := B.notSynchronized
  have hS : va_S (zA Γ) s.heap s.heap [] := va_S.rf
  have hm : ∀ c, zV S c = zV S c := fun _ => rfl
  have hl := lv_entry ([.ref (q 0), .int i_1]) (n := 2) (Nat.le_of_ble_eq_true rfl)
  rw [lg_entry_eq]
  generalize (lg_sl ([.ref (q 0), .int i_1]) ++ List.replicate (2 - (lg_sl ([.ref (q 0), .int i_1])).length) Slot.unset).toArray = ls at hl ⊢
  have hl : lv_has ls 2 [(0, .ref (q 0)), (1, .int i_1)] := hl
  obtain ⟨H, hH0⟩ : ∃ H, H = s.heap := ⟨_, rfl⟩
  obtain ⟨locs, hlo0⟩ : ∃ L : List Loc, L = [] := ⟨_, rfl⟩
  have hS : va_S (zA Γ) s.heap H locs := by rw [hH0, hlo0]; exact hS
  have hW : Wd Γ lo S (mcl Γ q M ++ Y) H := by rw [hH0]; exact hW
  rw [← hH0, ← hlo0]
  unfold fX10_isGame at hf
  refine lv_iload_n hx hb dX10_isGame_0 rfl (lv_at hl 1 rfl) ?_
  refine lv_iconst (v := (0)) hx hb dX10_isGame_1 (by decide) ?_
  refine lv_aload_n hx hb dX10_isGame_2 rfl (lv_at hl 0 rfl) ?_
  refine va_get hx hb hts ni_X10_isGame_X10 hown hKK.1 (wd_x hW (k := 0) rfl) 0 rfl rfl 24 (by decide) (hts (.fieldLink RX10 165 "TiltRouteModel" "games" "I") (List.mem_of_getElem? (i := 1) rfl)) (fun _ h => h) rfl dX10_isGame_3 ?_
  refine lv_iconst (v := (1)) hx hb dX10_isGame_6 (by decide) ?_
  refine lv_isub hx hb dX10_isGame_7 ?_
  obtain ⟨r1, hc2, hf⟩ := op_cl hf
  refine z_callS (As := [.int i_1, .int (0 : Int32), .int ((M 24 0) - (1 : Int32))]) (rest := []) ⟨hx, hb, hml, hown, hts⟩ (tX10_in l Γ lo S q M Y  hc2) (va_cwS 3 hts gX10_isGame_X10_in rfl rfl rfl (by decide +kernel) ⟨Nat.le_of_ble_eq_true rfl, Nat.le_of_ble_eq_true rfl⟩) hKK hW hS rfl hl.1 rfl (Nat.le_of_ble_eq_true rfl) dX10_isGame_8 ⟨Nat.zero_le _, Nat.zero_le _⟩ (fun H locs hW hS hm1 hE => ?_)
  have b3 := hE
  have hf := Option.some.inj hf
  rw [← hf]
  exact z_iret hx hb hr hlocks (z_bb b3) hW hS hm b3 dX10_isGame_11

def fX10_isVan (M : zMs) (i_1 : Int32) : Option Int32 :=
cl (fX10_in M i_1 (0 : Int32) (1 : Int32)) fun r1 =>
some (r1)
abbrev rmX10_isVan : Room := { frames := 1, cells := 0, slots := 0, locals := 22 }
set_option maxHeartbeats 4000000 in
set_option maxRecDepth 100000 in
theorem tX10_isVan (l : Launch) (Γ : zG) (lo : zId → Nat) (S : zSt) (q : Nat → Nat) (M : zMs) (Y : va_W) {i_1 : Int32}  {y : Int32} (hf : fX10_isVan M i_1 = some y) : Met l yX10_isVan wsX10_isVan rmX10_isVan (zP0 Γ lo S (mcl Γ q M ++ Y) [.int i_1]) (zQ0 Γ lo S S (mcl Γ q M ++ Y) (some (.int y)) (y = 0 ∨ y = 1)) 0 0 (zA Γ) := by
  refine Met.ofW (cc := cX10_isVan) (maxL := 1) (ret := (some .boolean)) (by decide) rfl ?_
  intro p e s m args below meth c s₁ B hml hv
  obtain ⟨rfl, hW, hKK⟩ := hv
  have hx := B.exec
  have hb := B.bytes
  have hr := B.returns
  have hts := atoms_spec (ws := wsX10_isVan) B.pre
  have hown : s.vm.findClass RX10 = some m.cls := findClass_of_methodNamed B.named
  have hlocks := B.notSynchronized
  have hS : va_S (zA Γ) s.heap s.heap [] := va_S.rf
  have hm : ∀ c, zV S c = zV S c := fun _ => rfl
  have hl := lv_entry ([.int i_1]) (n := 1) (Nat.le_of_ble_eq_true rfl)
  rw [lg_entry_eq]
  generalize (lg_sl ([.int i_1]) ++ List.replicate (1 - (lg_sl ([.int i_1])).length) Slot.unset).toArray = ls at hl ⊢
  have hl : lv_has ls 1 [(0, .int i_1)] := hl
  obtain ⟨H, hH0⟩ : ∃ H, H = s.heap := ⟨_, rfl⟩
  obtain ⟨locs, hlo0⟩ : ∃ L : List Loc, L = [] := ⟨_, rfl⟩
  have hS : va_S (zA Γ) s.heap H locs := by rw [hH0, hlo0]; exact hS
  have hW : Wd Γ lo S (mcl Γ q M ++ Y) H := by rw [hH0]; exact hW
  rw [← hH0, ← hlo0]
  unfold fX10_isVan at hf
  refine lv_iload_n hx hb dX10_isVan_0 rfl (lv_at hl 0 rfl) ?_
  refine lv_iconst (v := (0)) hx hb dX10_isVan_1 (by decide) ?_
  refine lv_iconst (v := (1)) hx hb dX10_isVan_2 (by decide) ?_
  obtain ⟨r1, hc2, hf⟩ := op_cl hf
  refine z_callS (As := [.int i_1, .int (0 : Int32), .int (1 : Int32)]) (rest := []) ⟨hx, hb, hml, hown, hts⟩ (tX10_in l Γ lo S q M Y  hc2) (va_cwS 3 hts gX10_isVan_X10_in rfl rfl rfl (by decide +kernel) ⟨Nat.le_of_ble_eq_true rfl, Nat.le_of_ble_eq_true rfl⟩) hKK hW hS rfl hl.1 rfl (Nat.le_of_ble_eq_true rfl) dX10_isVan_3 ⟨Nat.zero_le _, Nat.zero_le _⟩ (fun H locs hW hS hm1 hE => ?_)
  have b3 := hE
  have hf := Option.some.inj hf
  rw [← hf]
  exact z_iret hx hb hr hlocks (z_bb b3) hW hS hm b3 dX10_isVan_6

theorem ni_X10_isFree_X10 : ∀ w ∈ wsX100, w ∈ wsX10_isFree := by decide +kernel
def fX10_isFree (M : zMs) (i_1 : Int32) : Option Int32 :=
gd (¬ (i_1 < 0 ∨ 6 ≤ i_1.toNatClampNeg)) (
if (M 7 i_1.toNatClampNeg) = (-1 : Int32) then
some ((1 : Int32))
else
some ((0 : Int32)))
abbrev rmX10_isFree : Room := { frames := 0, cells := 0, slots := 0, locals := 0 }
set_option maxHeartbeats 4000000 in
set_option maxRecDepth 100000 in
theorem tX10_isFree (l : Launch) (Γ : zG) (lo : zId → Nat) (S : zSt) (q : Nat → Nat) (M : zMs) (Y : va_W) {i_1 : Int32}  {y : Int32} (hf : fX10_isFree M i_1 = some y) : Met l yX10_isFree wsX10_isFree rmX10_isFree (zP0 Γ lo S (mcl Γ q M ++ Y) [.ref (q 0), .int i_1]) (zQ0 Γ lo S S (mcl Γ q M ++ Y) (some (.int y)) (y = 0 ∨ y = 1)) 0 0 (zA Γ) := by
  refine Met.ofW (cc := cX10_isFree) (maxL := 2) (ret := (some .boolean)) (by decide) rfl ?_
  intro p e s m args below meth c s₁ B hml hv
  obtain ⟨rfl, hW, hKK⟩ := hv
  have hx := B.exec
  have hb := B.bytes
  have hr := B.returns
  have hts := atoms_spec (ws := wsX10_isFree) B.pre
  have hown : s.vm.findClass RX10 = some m.cls := findClass_of_methodNamed B.named
  have hlocks := B.notSynchronized
  have hS : va_S (zA Γ) s.heap s.heap [] := va_S.rf
  have hm : ∀ c, zV S c = zV S c := fun _ => rfl
  have hl := lv_entry ([.ref (q 0), .int i_1]) (n := 2) (Nat.le_of_ble_eq_true rfl)
  rw [lg_entry_eq]
  generalize (lg_sl ([.ref (q 0), .int i_1]) ++ List.replicate (2 - (lg_sl ([.ref (q 0), .int i_1])).length) Slot.unset).toArray = ls at hl ⊢
  have hl : lv_has ls 2 [(0, .ref (q 0)), (1, .int i_1)] := hl
  obtain ⟨H, hH0⟩ : ∃ H, H = s.heap := ⟨_, rfl⟩
  obtain ⟨locs, hlo0⟩ : ∃ L : List Loc, L = [] := ⟨_, rfl⟩
  have hS : va_S (zA Γ) s.heap H locs := by rw [hH0, hlo0]; exact hS
  have hW : Wd Γ lo S (mcl Γ q M ++ Y) H := by rw [hH0]; exact hW
  rw [← hH0, ← hlo0]
  unfold fX10_isFree at hf
  refine lv_aload_n hx hb dX10_isFree_0 rfl (lv_at hl 0 rfl) ?_
  refine va_get hx hb hts ni_X10_isFree_X10 hown hKK.1 (wd_x hW (k := 0) rfl) 0 rfl rfl 7 (by decide) (hts (.fieldLink RX10 25 "TiltRouteModel" "onNow" "[I") (List.mem_of_getElem? (i := 1) rfl)) (fun _ h => h) rfl dX10_isFree_1 ?_
  refine lv_iload_n hx hb dX10_isFree_4 rfl (lv_at hl 1 rfl) ?_
  obtain ⟨h5, hf⟩ := op_gd hf
  refine va_iald hx hb hKK.1 (wd_x hW (k := 6) rfl) 0 0 (n := 6) rfl rfl h5 dX10_isFree_5 ?_
  refine lv_iconst (v := (-1)) hx hb dX10_isFree_6 (by decide) ?_
  refine lv_icmp_ne (tgt := 14) hx hb dX10_isFree_7 (by decide) (fun k7 => ?_) (fun k7 => ?_)
  · have hf := (op_if hf).2 k7
    refine lv_iconst (v := (0)) hx hb dX10_isFree_14 (by decide) ?_
    have hf := Option.some.inj hf
    rw [← hf]
    exact z_iret hx hb hr hlocks (z_bb (Or.inl rfl)) hW hS hm (Or.inl rfl) dX10_isFree_15
  · have hf := (op_if hf).1 k7
    refine lv_iconst (v := (1)) hx hb dX10_isFree_10 (by decide) ?_
    refine lv_goto (tgt := 15) hx hb dX10_isFree_11 (by decide) ?_
    have hf := Option.some.inj hf
    rw [← hf]
    exact z_iret hx hb hr hlocks (z_bb (Or.inr rfl)) hW hS hm (Or.inr rfl) dX10_isFree_15

theorem ni_X10_addTable_X10 : ∀ w ∈ wsX100, w ∈ wsX10_addTable := by decide +kernel
def fX10_addTable (M : zMs) (i_1 : Int32) (i_2 : Int32) : Option (Int32 × zMs) :=
cl (fX10_in M i_1 (0 : Int32) (100 : Int32)) fun r1 =>
st (fun (y4 : Int32) => (st y4 fun x7 =>
st (fun (y8 : Int32) => (cl2 (fX10_refused M y8) fun r10 M12 =>
if r10 = 0 then
gd (¬ ((M12 1 0) < 0 ∨ 6 ≤ (M12 1 0).toNatClampNeg)) (
st (pM M12 2 (M12 1 0).toNatClampNeg i_1) fun M14 =>
gd (¬ ((M14 1 0) < 0 ∨ 6 ≤ (M14 1 0).toNatClampNeg)) (
st (pM M14 3 (M14 1 0).toNatClampNeg i_2) fun M15 =>
gd (¬ ((M15 1 0) < 0 ∨ 6 ≤ (M15 1 0).toNatClampNeg)) (
st (pM M15 7 (M15 1 0).toNatClampNeg (-1 : Int32)) fun M16 =>
st (pM M16 1 0 ((M16 1 0) + (1 : Int32))) fun M17 =>
some ((((M17 1 0) - (1 : Int32)), M17)))))
else
some (((0 : Int32), M12)) : Option (Int32 × zMs))) fun j9 =>
if x7 = 0 then
j9 (1 : Int32)
else
if (M 1 0) = (6 : Int32) then
j9 (2 : Int32)
else
j9 (0 : Int32) : Option (Int32 × zMs))) fun j6 =>
st (fun (u_ : Unit) => (j6 (0 : Int32) : Option (Int32 × zMs))) fun j18 =>
if r1 = 0 then
j18 ()
else
cl (fX10_in M i_2 (1 : Int32) (9 : Int32)) fun r19 =>
if r19 = 0 then
j18 ()
else
j6 (1 : Int32)
abbrev rmX10_addTable : Room := { frames := 1, cells := 0, slots := 0, locals := 22 }
set_option maxHeartbeats 4000000 in
set_option maxRecDepth 100000 in
theorem tX10_addTable (l : Launch) (Γ : zG) (lo : zId → Nat) (S : zSt) (q : Nat → Nat) (M : zMs) (Y : va_W) {i_1 : Int32} {i_2 : Int32}  {y : (Int32 × zMs)} (hf : fX10_addTable M i_1 i_2 = some y) : Met l yX10_addTable wsX10_addTable rmX10_addTable (zP0 Γ lo S (mcl Γ q M ++ Y) [.ref (q 0), .int i_1, .int i_2]) (zQ0 Γ lo S S (mcl Γ q y.2 ++ Y) (some (.int y.1)) True) 0 0 (zA Γ) := by
  refine Met.ofW (cc := cX10_addTable) (maxL := 4) (ret := (some .int)) (by decide) rfl ?_
  intro p e s m args below meth c s₁ B hml hv
  obtain ⟨rfl, hW, hKK⟩ := hv
  have hx := B.exec
  have hb := B.bytes
  have hr := B.returns
  have hts := atoms_spec (ws := wsX10_addTable) B.pre
  have hown : s.vm.findClass RX10 = some m.cls := findClass_of_methodNamed B.named
  have hlocks := B.notSynchronized
  have hS : va_S (zA Γ) s.heap s.heap [] := va_S.rf
  have hm : ∀ c, zV S c = zV S c := fun _ => rfl
  have hl := lv_entry ([.ref (q 0), .int i_1, .int i_2]) (n := 4) (Nat.le_of_ble_eq_true rfl)
  rw [lg_entry_eq]
  generalize (lg_sl ([.ref (q 0), .int i_1, .int i_2]) ++ List.replicate (4 - (lg_sl ([.ref (q 0), .int i_1, .int i_2])).length) Slot.unset).toArray = ls at hl ⊢
  have hl : lv_has ls 4 [(0, .ref (q 0)), (1, .int i_1), (2, .int i_2)] := hl
  obtain ⟨H, hH0⟩ : ∃ H, H = s.heap := ⟨_, rfl⟩
  obtain ⟨locs, hlo0⟩ : ∃ L : List Loc, L = [] := ⟨_, rfl⟩
  have hS : va_S (zA Γ) s.heap H locs := by rw [hH0, hlo0]; exact hS
  have hW : Wd Γ lo S (mcl Γ q M ++ Y) H := by rw [hH0]; exact hW
  rw [← hH0, ← hlo0]
  unfold fX10_addTable at hf
  refine lv_iload_n hx hb dX10_addTable_0 rfl (lv_at hl 1 rfl) ?_
  refine lv_iconst (v := (0)) hx hb dX10_addTable_1 (by decide) ?_
  refine lv_bipush (v := (100)) hx hb dX10_addTable_2 (by decide) ?_
  obtain ⟨r1, hc2, hf⟩ := op_cl hf
  refine z_callS (As := [.int i_1, .int (0 : Int32), .int (100 : Int32)]) (rest := []) ⟨hx, hb, hml, hown, hts⟩ (tX10_in l Γ lo S q M Y  hc2) (va_cwS 3 hts gX10_addTable_X10_in rfl rfl rfl (by decide +kernel) ⟨Nat.le_of_ble_eq_true rfl, Nat.le_of_ble_eq_true rfl⟩) hKK hW hS rfl hl.1 rfl (Nat.le_of_ble_eq_true rfl) dX10_addTable_4 ⟨Nat.zero_le _, Nat.zero_le _⟩ (fun H locs hW hS hm1 hE => ?_)
  have b3 := hE
  obtain ⟨j6, ej6, hf⟩ := op_st hf
  have hj6 : ∀ (y4 : Int32) (H : Heap) (locs : List Loc) (ls : Array Slot) (b5 : y4 = 0 ∨ y4 = 1), lv_has ls 4 [(0, .ref (q 0)), (1, .int i_1), (2, .int i_2)] → Wd Γ lo S (mcl Γ q M ++ Y) H → va_S (zA Γ) s.heap H locs → (∀ c, zV S c = zV S c) → j6 y4 = some y → W p l e (headSpec wsX10_addTable rmX10_addTable).room s m ([.ref (q 0), .int i_1, .int i_2] : List Value).toArray below meth c H locs 0 0 (MQ below (zQ0 Γ lo S S (mcl Γ q y.2 ++ Y) (some (.int y.1)) True) ([.ref (q 0), .int i_1, .int i_2] : List Value).toArray s 0 0 (zA Γ)) (F0 m 25 ls [.int y4]) := by
    intro y4 H locs ls b5 hl hW hS hm hf
    rw [ej6] at hf
    obtain ⟨x7, ex7, hf⟩ := op_st hf
    have bx7 : x7 = 0 ∨ x7 = 1 := by rw [ex7]; exact b5
    refine z_istn (lv' := [(3, .int x7), (0, .ref (q 0)), (1, .int i_1), (2, .int i_2)]) ex7 hx hb dX10_addTable_25 rfl hl (by decide) rfl (fun ls hl => ?_)
    refine lv_aload_n hx hb dX10_addTable_26 rfl (lv_at hl 1 rfl) ?_
    refine lv_iload_n hx hb dX10_addTable_27 rfl (lv_at hl 0 rfl) ?_
    obtain ⟨j9, ej9, hf⟩ := op_st hf
    have hj9 : ∀ (y8 : Int32) (H : Heap) (locs : List Loc) (ls : Array Slot), lv_has ls 4 [(0, .ref (q 0)), (1, .int i_1), (2, .int i_2)] → Wd Γ lo S (mcl Γ q M ++ Y) H → va_S (zA Γ) s.heap H locs → (∀ c, zV S c = zV S c) → j9 y8 = some y → W p l e (headSpec wsX10_addTable rmX10_addTable).room s m ([.ref (q 0), .int i_1, .int i_2] : List Value).toArray below meth c H locs 0 0 (MQ below (zQ0 Γ lo S S (mcl Γ q y.2 ++ Y) (some (.int y.1)) True) ([.ref (q 0), .int i_1, .int i_2] : List Value).toArray s 0 0 (zA Γ)) (F0 m 49 ls [.int y8, .ref (q 0)]) := by
      intro y8 H locs ls  hl hW hS hm hf
      rw [ej9] at hf
      obtain ⟨r10, M12, hc11, hf⟩ := op_cl2 hf
      refine z_callV (As := [.int y8]) (rest := []) ⟨hx, hb, hml, hown, hts⟩ (tX10_refused l Γ lo S q M Y  hc11) (cwV 1 hts gX10_addTable_X10_refused rfl rfl rfl (by decide +kernel) ⟨Nat.le_of_ble_eq_true rfl, Nat.le_of_ble_eq_true rfl⟩) (wd_x hW (k := 0) rfl) rfl hKK hW hS rfl hl.1 rfl (Nat.le_of_ble_eq_true rfl) dX10_addTable_49 ⟨Nat.zero_le _, Nat.zero_le _⟩ (fun H locs hW hS hm1 hE => ?_)
      have b13 := hE
      refine lv_if_eq (tgt := 57) hx hb dX10_addTable_52 (by decide) (fun k52 => ?_) (fun k52 => ?_)
      · have hf := (op_if hf).1 k52
        refine lv_aload_n hx hb dX10_addTable_57 rfl (lv_at hl 0 rfl) ?_
        refine va_get hx hb hts ni_X10_addTable_X10 hown hKK.1 (wd_x hW (k := 0) rfl) 0 rfl rfl 2 (by decide) (hts (.fieldLink RX10 7 "TiltRouteModel" "sites" "[I") (List.mem_of_getElem? (i := 2) rfl)) (fun _ h => h) rfl dX10_addTable_58 ?_
        refine lv_aload_n hx hb dX10_addTable_61 rfl (lv_at hl 0 rfl) ?_
        refine va_get hx hb hts ni_X10_addTable_X10 hown hKK.1 (wd_x hW (k := 0) rfl) 0 rfl rfl 1 (by decide) (hts (.fieldLink RX10 154 "TiltRouteModel" "tables" "I") (List.mem_of_getElem? (i := 1) rfl)) (fun _ h => h) rfl dX10_addTable_62 ?_
        refine lv_iload_n hx hb dX10_addTable_65 rfl (lv_at hl 1 rfl) ?_
        obtain ⟨h66, hf⟩ := op_gd hf
        obtain ⟨M14, eM14, hf⟩ := op_st hf
        refine m_iast hx hb hKK.1 hW hS 2 1 6 rfl h66 eM14 (ms_2 Γ q _ Y _ _) dX10_addTable_66 (fun H locs hW hS => ?_)
        refine lv_aload_n hx hb dX10_addTable_67 rfl (lv_at hl 0 rfl) ?_
        refine va_get hx hb hts ni_X10_addTable_X10 hown hKK.1 (wd_x hW (k := 0) rfl) 0 rfl rfl 3 (by decide) (hts (.fieldLink RX10 13 "TiltRouteModel" "prices" "[I") (List.mem_of_getElem? (i := 3) rfl)) (fun _ h => h) rfl dX10_addTable_68 ?_
        refine lv_aload_n hx hb dX10_addTable_71 rfl (lv_at hl 0 rfl) ?_
        refine va_get hx hb hts ni_X10_addTable_X10 hown hKK.1 (wd_x hW (k := 0) rfl) 0 rfl rfl 1 (by decide) (hts (.fieldLink RX10 154 "TiltRouteModel" "tables" "I") (List.mem_of_getElem? (i := 1) rfl)) (fun _ h => h) rfl dX10_addTable_72 ?_
        refine lv_iload_n hx hb dX10_addTable_75 rfl (lv_at hl 2 rfl) ?_
        obtain ⟨h76, hf⟩ := op_gd hf
        obtain ⟨M15, eM15, hf⟩ := op_st hf
        refine m_iast hx hb hKK.1 hW hS 3 2 6 rfl h76 eM15 (ms_3 Γ q _ Y _ _) dX10_addTable_76 (fun H locs hW hS => ?_)
        refine lv_aload_n hx hb dX10_addTable_77 rfl (lv_at hl 0 rfl) ?_
        refine va_get hx hb hts ni_X10_addTable_X10 hown hKK.1 (wd_x hW (k := 0) rfl) 0 rfl rfl 7 (by decide) (hts (.fieldLink RX10 25 "TiltRouteModel" "onNow" "[I") (List.mem_of_getElem? (i := 4) rfl)) (fun _ h => h) rfl dX10_addTable_78 ?_
        refine lv_aload_n hx hb dX10_addTable_81 rfl (lv_at hl 0 rfl) ?_
        refine va_get hx hb hts ni_X10_addTable_X10 hown hKK.1 (wd_x hW (k := 0) rfl) 0 rfl rfl 1 (by decide) (hts (.fieldLink RX10 154 "TiltRouteModel" "tables" "I") (List.mem_of_getElem? (i := 1) rfl)) (fun _ h => h) rfl dX10_addTable_82 ?_
        refine lv_iconst (v := (-1)) hx hb dX10_addTable_85 (by decide) ?_
        obtain ⟨h86, hf⟩ := op_gd hf
        obtain ⟨M16, eM16, hf⟩ := op_st hf
        refine m_iast hx hb hKK.1 hW hS 7 6 6 rfl h86 eM16 (ms_7 Γ q _ Y _ _) dX10_addTable_86 (fun H locs hW hS => ?_)
        refine lv_aload_n hx hb dX10_addTable_87 rfl (lv_at hl 0 rfl) ?_
        refine lv_dup hx hb dX10_addTable_88 rfl ?_
        refine va_get hx hb hts ni_X10_addTable_X10 hown hKK.1 (wd_x hW (k := 0) rfl) 0 rfl rfl 1 (by decide) (hts (.fieldLink RX10 154 "TiltRouteModel" "tables" "I") (List.mem_of_getElem? (i := 1) rfl)) (fun _ h => h) rfl dX10_addTable_89 ?_
        refine lv_iconst (v := (1)) hx hb dX10_addTable_92 (by decide) ?_
        refine lv_iadd hx hb dX10_addTable_93 ?_
        obtain ⟨M17, eM17, hf⟩ := op_st hf
        refine m_put hx hb hts ni_X10_addTable_X10 hown hKK.1 hW hS 1 (by decide) (hts (.fieldLink RX10 154 "TiltRouteModel" "tables" "I") (List.mem_of_getElem? (i := 1) rfl)) rfl rfl rfl eM17 (ms_1 Γ q _ Y _) dX10_addTable_94 (fun H locs hW hS => ?_)
        refine lv_aload_n hx hb dX10_addTable_97 rfl (lv_at hl 0 rfl) ?_
        refine va_get hx hb hts ni_X10_addTable_X10 hown hKK.1 (wd_x hW (k := 0) rfl) 0 rfl rfl 1 (by decide) (hts (.fieldLink RX10 154 "TiltRouteModel" "tables" "I") (List.mem_of_getElem? (i := 1) rfl)) (fun _ h => h) rfl dX10_addTable_98 ?_
        refine lv_iconst (v := (1)) hx hb dX10_addTable_101 (by decide) ?_
        refine lv_isub hx hb dX10_addTable_102 ?_
        have hf := Option.some.inj hf
        rw [← hf]
        exact z_iret hx hb hr hlocks rfl hW hS hm trivial dX10_addTable_103
      · have hf := (op_if hf).2 k52
        refine lv_iconst (v := (0)) hx hb dX10_addTable_55 (by decide) ?_
        have hf := Option.some.inj hf
        rw [← hf]
        exact z_iret hx hb hr hlocks rfl hW hS hm trivial dX10_addTable_56
    refine lv_if_ne (tgt := 35) hx hb dX10_addTable_28 (by decide) (fun k28 => ?_) (fun k28 => ?_)
    · have hf := (op_if hf).2 k28
      refine lv_aload_n hx hb dX10_addTable_35 rfl (lv_at hl 1 rfl) ?_
      refine va_get hx hb hts ni_X10_addTable_X10 hown hKK.1 (wd_x hW (k := 0) rfl) 0 rfl rfl 1 (by decide) (hts (.fieldLink RX10 154 "TiltRouteModel" "tables" "I") (List.mem_of_getElem? (i := 1) rfl)) (fun _ h => h) rfl dX10_addTable_36 ?_
      refine lv_bipush (v := (6)) hx hb dX10_addTable_39 (by decide) ?_
      refine lv_icmp_ne (tgt := 48) hx hb dX10_addTable_41 (by decide) (fun k41 => ?_) (fun k41 => ?_)
      · have hf := (op_if hf).2 k41
        refine lv_iconst (v := (0)) hx hb dX10_addTable_48 (by decide) ?_
        exact hj9 (0 : Int32) H locs ls  (lv_sub hl [1, 2, 3] rfl) hW hS hm hf
      · have hf := (op_if hf).1 k41
        refine lv_iconst (v := (2)) hx hb dX10_addTable_44 (by decide) ?_
        refine lv_goto (tgt := 49) hx hb dX10_addTable_45 (by decide) ?_
        exact hj9 (2 : Int32) H locs ls  (lv_sub hl [1, 2, 3] rfl) hW hS hm hf
    · have hf := (op_if hf).1 k28
      refine lv_iconst (v := (1)) hx hb dX10_addTable_31 (by decide) ?_
      refine lv_goto (tgt := 49) hx hb dX10_addTable_32 (by decide) ?_
      exact hj9 (1 : Int32) H locs ls  (lv_sub hl [1, 2, 3] rfl) hW hS hm hf
  obtain ⟨j18, ej18, hf⟩ := op_st hf
  have hj18 : ∀ (u_ : Unit) (H : Heap) (locs : List Loc) (ls : Array Slot), lv_has ls 4 [(0, .ref (q 0)), (1, .int i_1), (2, .int i_2)] → Wd Γ lo S (mcl Γ q M ++ Y) H → va_S (zA Γ) s.heap H locs → (∀ c, zV S c = zV S c) → j18 () = some y → W p l e (headSpec wsX10_addTable rmX10_addTable).room s m ([.ref (q 0), .int i_1, .int i_2] : List Value).toArray below meth c H locs 0 0 (MQ below (zQ0 Γ lo S S (mcl Γ q y.2 ++ Y) (some (.int y.1)) True) ([.ref (q 0), .int i_1, .int i_2] : List Value).toArray s 0 0 (zA Γ)) (F0 m 24 ls []) := by
    intro u_ H locs ls  hl hW hS hm hf
    rw [ej18] at hf
    refine lv_iconst (v := (0)) hx hb dX10_addTable_24 (by decide) ?_
    exact hj6 (0 : Int32) H locs ls (Or.inl rfl) (lv_sub hl [0, 1, 2] rfl) hW hS hm hf
  refine lv_if_eq (tgt := 24) hx hb dX10_addTable_7 (by decide) (fun k7 => ?_) (fun k7 => ?_)
  · have hf := (op_if hf).1 k7
    exact hj18 () H locs ls  (lv_sub hl [0, 1, 2] rfl) hW hS hm hf
  · have hf := (op_if hf).2 k7
    refine lv_iload_n hx hb dX10_addTable_10 rfl (lv_at hl 2 rfl) ?_
    refine lv_iconst (v := (1)) hx hb dX10_addTable_11 (by decide) ?_
    refine lv_bipush (v := (9)) hx hb dX10_addTable_12 (by decide) ?_
    obtain ⟨r19, hc20, hf⟩ := op_cl hf
    refine z_callS (As := [.int i_2, .int (1 : Int32), .int (9 : Int32)]) (rest := []) ⟨hx, hb, hml, hown, hts⟩ (tX10_in l Γ lo S q M Y  hc20) (va_cwS 3 hts gX10_addTable_X10_in rfl rfl rfl (by decide +kernel) ⟨Nat.le_of_ble_eq_true rfl, Nat.le_of_ble_eq_true rfl⟩) hKK hW hS rfl hl.1 rfl (Nat.le_of_ble_eq_true rfl) dX10_addTable_14 ⟨Nat.zero_le _, Nat.zero_le _⟩ (fun H locs hW hS hm1 hE => ?_)
    have b21 := hE
    refine lv_if_eq (tgt := 24) hx hb dX10_addTable_17 (by decide) (fun k17 => ?_) (fun k17 => ?_)
    · have hf := (op_if hf).1 k17
      exact hj18 () H locs ls  (lv_sub hl [0, 1, 2] rfl) hW hS hm hf
    · have hf := (op_if hf).2 k17
      refine lv_iconst (v := (1)) hx hb dX10_addTable_20 (by decide) ?_
      refine lv_goto (tgt := 25) hx hb dX10_addTable_21 (by decide) ?_
      exact hj6 (1 : Int32) H locs ls (Or.inr rfl) (lv_sub hl [0, 1, 2] rfl) hW hS hm hf

theorem ni_X10_addBumper_X10 : ∀ w ∈ wsX100, w ∈ wsX10_addBumper := by decide +kernel
def fX10_addBumper (M : zMs) (i_1 : Int32) (i_2 : Int32) (i_3 : Int32) (i_4 : Int32) (i_5 : Int32) : Option (Int32 × zMs) :=
cl (fX10_in M i_2 (0 : Int32) (159 : Int32)) fun r1 =>
st (fun (y4 : Int32) => (st y4 fun x7 =>
cl (fX10_isTable M i_1) fun r8 =>
st (fun (y11 : Int32) => (st y11 fun x14 =>
cl (fX10_isTable M i_1) fun r15 =>
st (fun (y18 : Int32) => (cl2 (fX10_refused M y18) fun r20 M22 =>
if r20 = 0 then
gd (¬ (i_1 < 0 ∨ 6 ≤ i_1.toNatClampNeg)) (
st (((8 : Int32) * i_1) + (M22 8 i_1.toNatClampNeg)) fun x24 =>
gd (¬ (x24 < 0 ∨ 48 ≤ x24.toNatClampNeg)) (
st (pM M22 9 x24.toNatClampNeg i_2) fun M25 =>
gd (¬ (x24 < 0 ∨ 48 ≤ x24.toNatClampNeg)) (
st (pM M25 10 x24.toNatClampNeg i_3) fun M26 =>
gd (¬ (x24 < 0 ∨ 48 ≤ x24.toNatClampNeg)) (
st (pM M26 11 x24.toNatClampNeg (i_4 / (100 : Int32))) fun M27 =>
gd (¬ (x24 < 0 ∨ 48 ≤ x24.toNatClampNeg)) (
st (pM M27 12 x24.toNatClampNeg (i_4 - i_4 / (100 : Int32) * (100 : Int32))) fun M28 =>
gd (¬ (x24 < 0 ∨ 48 ≤ x24.toNatClampNeg)) (
st (pM M28 13 x24.toNatClampNeg i_5) fun M29 =>
gd (¬ (i_1 < 0 ∨ 6 ≤ i_1.toNatClampNeg)) (
gd (¬ (i_1 < 0 ∨ 6 ≤ i_1.toNatClampNeg)) (
st (pM M29 8 i_1.toNatClampNeg ((M29 8 i_1.toNatClampNeg) + (1 : Int32))) fun M30 =>
gd (¬ (i_1 < 0 ∨ 6 ≤ i_1.toNatClampNeg)) (
some ((((M30 8 i_1.toNatClampNeg) - (1 : Int32)), M30)))))))))))
else
some (((0 : Int32), M22)) : Option (Int32 × zMs))) fun j19 =>
if r15 = 0 then
j19 (1 : Int32)
else
if x7 = 0 then
j19 (2 : Int32)
else
if x14 = 0 then
j19 (3 : Int32)
else
j19 (0 : Int32) : Option (Int32 × zMs))) fun j13 =>
st (fun (u_ : Unit) => (j13 (0 : Int32) : Option (Int32 × zMs))) fun j31 =>
if r8 = 0 then
j31 ()
else
if x7 = 0 then
j31 ()
else
cl (fX10_isFree M i_1) fun r32 =>
if r32 = 0 then
j31 ()
else
gd (¬ (i_1 < 0 ∨ 6 ≤ i_1.toNatClampNeg)) (
if (8 : Int32) ≤ (M 8 i_1.toNatClampNeg) then
j31 ()
else
j13 (1 : Int32)) : Option (Int32 × zMs))) fun j6 =>
st (fun (u_ : Unit) => (j6 (0 : Int32) : Option (Int32 × zMs))) fun j35 =>
if r1 = 0 then
j35 ()
else
cl (fX10_in M i_3 (0 : Int32) (239 : Int32)) fun r36 =>
if r36 = 0 then
j35 ()
else
cl (fX10_in M i_4 (101 : Int32) (6060 : Int32)) fun r39 =>
if r39 = 0 then
j35 ()
else
cl (fX10_in M (i_4 / (100 : Int32)) (1 : Int32) (60 : Int32)) fun r42 =>
if r42 = 0 then
j35 ()
else
cl (fX10_in M (i_4 - i_4 / (100 : Int32) * (100 : Int32)) (1 : Int32) (60 : Int32)) fun r45 =>
if r45 = 0 then
j35 ()
else
cl (fX10_in M i_5 (0 : Int32) (20 : Int32)) fun r48 =>
if r48 = 0 then
j35 ()
else
j6 (1 : Int32)
abbrev rmX10_addBumper : Room := { frames := 2, cells := 0, slots := 0, locals := 43 }
set_option maxHeartbeats 4000000 in
set_option maxRecDepth 100000 in
theorem tX10_addBumper (l : Launch) (Γ : zG) (lo : zId → Nat) (S : zSt) (q : Nat → Nat) (M : zMs) (Y : va_W) {i_1 : Int32} {i_2 : Int32} {i_3 : Int32} {i_4 : Int32} {i_5 : Int32}  {y : (Int32 × zMs)} (hf : fX10_addBumper M i_1 i_2 i_3 i_4 i_5 = some y) : Met l yX10_addBumper wsX10_addBumper rmX10_addBumper (zP0 Γ lo S (mcl Γ q M ++ Y) [.ref (q 0), .int i_1, .int i_2, .int i_3, .int i_4, .int i_5]) (zQ0 Γ lo S S (mcl Γ q y.2 ++ Y) (some (.int y.1)) True) 0 0 (zA Γ) := by
  refine Met.ofW (cc := cX10_addBumper) (maxL := 9) (ret := (some .int)) (by decide) rfl ?_
  intro p e s m args below meth c s₁ B hml hv
  obtain ⟨rfl, hW, hKK⟩ := hv
  have hx := B.exec
  have hb := B.bytes
  have hr := B.returns
  have hts := atoms_spec (ws := wsX10_addBumper) B.pre
  have hown : s.vm.findClass RX10 = some m.cls := findClass_of_methodNamed B.named
  have hlocks := B.notSynchronized
  have hS : va_S (zA Γ) s.heap s.heap [] := va_S.rf
  have hm : ∀ c, zV S c = zV S c := fun _ => rfl
  have hl := lv_entry ([.ref (q 0), .int i_1, .int i_2, .int i_3, .int i_4, .int i_5]) (n := 9) (Nat.le_of_ble_eq_true rfl)
  rw [lg_entry_eq]
  generalize (lg_sl ([.ref (q 0), .int i_1, .int i_2, .int i_3, .int i_4, .int i_5]) ++ List.replicate (9 - (lg_sl ([.ref (q 0), .int i_1, .int i_2, .int i_3, .int i_4, .int i_5])).length) Slot.unset).toArray = ls at hl ⊢
  have hl : lv_has ls 9 [(0, .ref (q 0)), (1, .int i_1), (2, .int i_2), (3, .int i_3), (4, .int i_4), (5, .int i_5)] := hl
  obtain ⟨H, hH0⟩ : ∃ H, H = s.heap := ⟨_, rfl⟩
  obtain ⟨locs, hlo0⟩ : ∃ L : List Loc, L = [] := ⟨_, rfl⟩
  have hS : va_S (zA Γ) s.heap H locs := by rw [hH0, hlo0]; exact hS
  have hW : Wd Γ lo S (mcl Γ q M ++ Y) H := by rw [hH0]; exact hW
  rw [← hH0, ← hlo0]
  unfold fX10_addBumper at hf
  refine lv_iload_n hx hb dX10_addBumper_0 rfl (lv_at hl 2 rfl) ?_
  refine lv_iconst (v := (0)) hx hb dX10_addBumper_1 (by decide) ?_
  refine lv_sipush (v := (159)) hx hb dX10_addBumper_2 (by decide) ?_
  obtain ⟨r1, hc2, hf⟩ := op_cl hf
  refine z_callS (As := [.int i_2, .int (0 : Int32), .int (159 : Int32)]) (rest := []) ⟨hx, hb, hml, hown, hts⟩ (tX10_in l Γ lo S q M Y  hc2) (va_cwS 3 hts gX10_addBumper_X10_in rfl rfl rfl (by decide +kernel) ⟨Nat.le_of_ble_eq_true rfl, Nat.le_of_ble_eq_true rfl⟩) hKK hW hS rfl hl.1 rfl (Nat.le_of_ble_eq_true rfl) dX10_addBumper_5 ⟨Nat.zero_le _, Nat.zero_le _⟩ (fun H locs hW hS hm1 hE => ?_)
  have b3 := hE
  obtain ⟨j6, ej6, hf⟩ := op_st hf
  have hj6 : ∀ (y4 : Int32) (H : Heap) (locs : List Loc) (ls : Array Slot) (b5 : y4 = 0 ∨ y4 = 1), lv_has ls 9 [(0, .ref (q 0)), (1, .int i_1), (2, .int i_2), (3, .int i_3), (4, .int i_4), (5, .int i_5)] → Wd Γ lo S (mcl Γ q M ++ Y) H → va_S (zA Γ) s.heap H locs → (∀ c, zV S c = zV S c) → j6 y4 = some y → W p l e (headSpec wsX10_addBumper rmX10_addBumper).room s m ([.ref (q 0), .int i_1, .int i_2, .int i_3, .int i_4, .int i_5] : List Value).toArray below meth c H locs 0 0 (MQ below (zQ0 Γ lo S S (mcl Γ q y.2 ++ Y) (some (.int y.1)) True) ([.ref (q 0), .int i_1, .int i_2, .int i_3, .int i_4, .int i_5] : List Value).toArray s 0 0 (zA Γ)) (F0 m 79 ls [.int y4]) := by
    intro y4 H locs ls b5 hl hW hS hm hf
    rw [ej6] at hf
    obtain ⟨x7, ex7, hf⟩ := op_st hf
    have bx7 : x7 = 0 ∨ x7 = 1 := by rw [ex7]; exact b5
    refine z_ist (lv' := [(6, .int x7), (0, .ref (q 0)), (1, .int i_1), (2, .int i_2), (3, .int i_3), (4, .int i_4), (5, .int i_5)]) ex7 hx hb dX10_addBumper_79 hl (by decide) rfl (fun ls hl => ?_)
    refine lv_aload_n hx hb dX10_addBumper_81 rfl (lv_at hl 1 rfl) ?_
    refine lv_iload_n hx hb dX10_addBumper_82 rfl (lv_at hl 2 rfl) ?_
    obtain ⟨r8, hc9, hf⟩ := op_cl hf
    refine z_callV (As := [.int i_1]) (rest := []) ⟨hx, hb, hml, hown, hts⟩ (tX10_isTable l Γ lo S q M Y  hc9) (cwV 1 hts gX10_addBumper_X10_isTable rfl rfl rfl (by decide +kernel) ⟨Nat.le_of_ble_eq_true rfl, Nat.le_of_ble_eq_true rfl⟩) (wd_x hW (k := 0) rfl) rfl hKK hW hS rfl hl.1 rfl (Nat.le_of_ble_eq_true rfl) dX10_addBumper_83 ⟨Nat.zero_le _, Nat.zero_le _⟩ (fun H locs hW hS hm1 hE => ?_)
    have b10 := hE
    obtain ⟨j13, ej13, hf⟩ := op_st hf
    have hj13 : ∀ (y11 : Int32) (H : Heap) (locs : List Loc) (ls : Array Slot) (b12 : y11 = 0 ∨ y11 = 1), lv_has ls 9 [(6, .int x7), (0, .ref (q 0)), (1, .int i_1), (2, .int i_2), (3, .int i_3), (4, .int i_4), (5, .int i_5)] → Wd Γ lo S (mcl Γ q M ++ Y) H → va_S (zA Γ) s.heap H locs → (∀ c, zV S c = zV S c) → j13 y11 = some y → W p l e (headSpec wsX10_addBumper rmX10_addBumper).room s m ([.ref (q 0), .int i_1, .int i_2, .int i_3, .int i_4, .int i_5] : List Value).toArray below meth c H locs 0 0 (MQ below (zQ0 Γ lo S S (mcl Γ q y.2 ++ Y) (some (.int y.1)) True) ([.ref (q 0), .int i_1, .int i_2, .int i_3, .int i_4, .int i_5] : List Value).toArray s 0 0 (zA Γ)) (F0 m 118 ls [.int y11]) := by
      intro y11 H locs ls b12 hl hW hS hm hf
      rw [ej13] at hf
      obtain ⟨x14, ex14, hf⟩ := op_st hf
      have bx14 : x14 = 0 ∨ x14 = 1 := by rw [ex14]; exact b12
      refine z_ist (lv' := [(7, .int x14), (6, .int x7), (0, .ref (q 0)), (1, .int i_1), (2, .int i_2), (3, .int i_3), (4, .int i_4), (5, .int i_5)]) ex14 hx hb dX10_addBumper_118 hl (by decide) rfl (fun ls hl => ?_)
      refine lv_aload_n hx hb dX10_addBumper_120 rfl (lv_at hl 2 rfl) ?_
      refine lv_aload_n hx hb dX10_addBumper_121 rfl (lv_at hl 2 rfl) ?_
      refine lv_iload_n hx hb dX10_addBumper_122 rfl (lv_at hl 3 rfl) ?_
      obtain ⟨r15, hc16, hf⟩ := op_cl hf
      refine z_callV (As := [.int i_1]) (rest := [.ref (q 0)]) ⟨hx, hb, hml, hown, hts⟩ (tX10_isTable l Γ lo S q M Y  hc16) (cwV 1 hts gX10_addBumper_X10_isTable rfl rfl rfl (by decide +kernel) ⟨Nat.le_of_ble_eq_true rfl, Nat.le_of_ble_eq_true rfl⟩) (wd_x hW (k := 0) rfl) rfl hKK hW hS rfl hl.1 rfl (Nat.le_of_ble_eq_true rfl) dX10_addBumper_123 ⟨Nat.zero_le _, Nat.zero_le _⟩ (fun H locs hW hS hm1 hE => ?_)
      have b17 := hE
      obtain ⟨j19, ej19, hf⟩ := op_st hf
      have hj19 : ∀ (y18 : Int32) (H : Heap) (locs : List Loc) (ls : Array Slot), lv_has ls 9 [(0, .ref (q 0)), (1, .int i_1), (2, .int i_2), (3, .int i_3), (4, .int i_4), (5, .int i_5)] → Wd Γ lo S (mcl Γ q M ++ Y) H → va_S (zA Γ) s.heap H locs → (∀ c, zV S c = zV S c) → j19 y18 = some y → W p l e (headSpec wsX10_addBumper rmX10_addBumper).room s m ([.ref (q 0), .int i_1, .int i_2, .int i_3, .int i_4, .int i_5] : List Value).toArray below meth c H locs 0 0 (MQ below (zQ0 Γ lo S S (mcl Γ q y.2 ++ Y) (some (.int y.1)) True) ([.ref (q 0), .int i_1, .int i_2, .int i_3, .int i_4, .int i_5] : List Value).toArray s 0 0 (zA Γ)) (F0 m 152 ls [.int y18, .ref (q 0)]) := by
        intro y18 H locs ls  hl hW hS hm hf
        rw [ej19] at hf
        obtain ⟨r20, M22, hc21, hf⟩ := op_cl2 hf
        refine z_callV (As := [.int y18]) (rest := []) ⟨hx, hb, hml, hown, hts⟩ (tX10_refused l Γ lo S q M Y  hc21) (cwV 1 hts gX10_addBumper_X10_refused rfl rfl rfl (by decide +kernel) ⟨Nat.le_of_ble_eq_true rfl, Nat.le_of_ble_eq_true rfl⟩) (wd_x hW (k := 0) rfl) rfl hKK hW hS rfl hl.1 rfl (Nat.le_of_ble_eq_true rfl) dX10_addBumper_152 ⟨Nat.zero_le _, Nat.zero_le _⟩ (fun H locs hW hS hm1 hE => ?_)
        have b23 := hE
        refine lv_if_eq (tgt := 160) hx hb dX10_addBumper_155 (by decide) (fun k155 => ?_) (fun k155 => ?_)
        · have hf := (op_if hf).1 k155
          refine lv_bipush (v := (8)) hx hb dX10_addBumper_160 (by decide) ?_
          refine lv_iload_n hx hb dX10_addBumper_162 rfl (lv_at hl 1 rfl) ?_
          refine lv_imul hx hb dX10_addBumper_163 ?_
          refine lv_aload_n hx hb dX10_addBumper_164 rfl (lv_at hl 0 rfl) ?_
          refine va_get hx hb hts ni_X10_addBumper_X10 hown hKK.1 (wd_x hW (k := 0) rfl) 0 rfl rfl 8 (by decide) (hts (.fieldLink RX10 28 "TiltRouteModel" "bumpers" "[I") (List.mem_of_getElem? (i := 1) rfl)) (fun _ h => h) rfl dX10_addBumper_165 ?_
          refine lv_iload_n hx hb dX10_addBumper_168 rfl (lv_at hl 1 rfl) ?_
          obtain ⟨h169, hf⟩ := op_gd hf
          refine va_iald hx hb hKK.1 (wd_x hW (k := 7) rfl) 0 0 (n := 6) rfl rfl h169 dX10_addBumper_169 ?_
          refine lv_iadd hx hb dX10_addBumper_170 ?_
          obtain ⟨x24, ex24, hf⟩ := op_st hf
          refine z_ist (lv' := [(8, .int x24), (0, .ref (q 0)), (1, .int i_1), (2, .int i_2), (3, .int i_3), (4, .int i_4), (5, .int i_5)]) ex24 hx hb dX10_addBumper_171 hl (by decide) rfl (fun ls hl => ?_)
          refine lv_aload_n hx hb dX10_addBumper_173 rfl (lv_at hl 1 rfl) ?_
          refine va_get hx hb hts ni_X10_addBumper_X10 hown hKK.1 (wd_x hW (k := 0) rfl) 0 rfl rfl 9 (by decide) (hts (.fieldLink RX10 31 "TiltRouteModel" "lefts" "[I") (List.mem_of_getElem? (i := 2) rfl)) (fun _ h => h) rfl dX10_addBumper_174 ?_
          refine lv_iload hx hb dX10_addBumper_177 (lv_at hl 0 rfl) ?_
          refine lv_iload_n hx hb dX10_addBumper_179 rfl (lv_at hl 3 rfl) ?_
          obtain ⟨h180, hf⟩ := op_gd hf
          obtain ⟨M25, eM25, hf⟩ := op_st hf
          refine m_iast hx hb hKK.1 hW hS 9 8 48 rfl h180 eM25 (ms_9 Γ q _ Y _ _) dX10_addBumper_180 (fun H locs hW hS => ?_)
          refine lv_aload_n hx hb dX10_addBumper_181 rfl (lv_at hl 1 rfl) ?_
          refine va_get hx hb hts ni_X10_addBumper_X10 hown hKK.1 (wd_x hW (k := 0) rfl) 0 rfl rfl 10 (by decide) (hts (.fieldLink RX10 34 "TiltRouteModel" "tops" "[I") (List.mem_of_getElem? (i := 3) rfl)) (fun _ h => h) rfl dX10_addBumper_182 ?_
          refine lv_iload hx hb dX10_addBumper_185 (lv_at hl 0 rfl) ?_
          refine lv_iload_n hx hb dX10_addBumper_187 rfl (lv_at hl 4 rfl) ?_
          obtain ⟨h188, hf⟩ := op_gd hf
          obtain ⟨M26, eM26, hf⟩ := op_st hf
          refine m_iast hx hb hKK.1 hW hS 10 9 48 rfl h188 eM26 (ms_10 Γ q _ Y _ _) dX10_addBumper_188 (fun H locs hW hS => ?_)
          refine lv_aload_n hx hb dX10_addBumper_189 rfl (lv_at hl 1 rfl) ?_
          refine va_get hx hb hts ni_X10_addBumper_X10 hown hKK.1 (wd_x hW (k := 0) rfl) 0 rfl rfl 11 (by decide) (hts (.fieldLink RX10 37 "TiltRouteModel" "widths" "[I") (List.mem_of_getElem? (i := 4) rfl)) (fun _ h => h) rfl dX10_addBumper_190 ?_
          refine lv_iload hx hb dX10_addBumper_193 (lv_at hl 0 rfl) ?_
          refine lv_iload hx hb dX10_addBumper_195 (lv_at hl 5 rfl) ?_
          refine lv_bipush (v := (100)) hx hb dX10_addBumper_197 (by decide) ?_
          refine lv_idiv hx hb dX10_addBumper_199 (by decide) ?_
          obtain ⟨h200, hf⟩ := op_gd hf
          obtain ⟨M27, eM27, hf⟩ := op_st hf
          refine m_iast hx hb hKK.1 hW hS 11 10 48 rfl h200 eM27 (ms_11 Γ q _ Y _ _) dX10_addBumper_200 (fun H locs hW hS => ?_)
          refine lv_aload_n hx hb dX10_addBumper_201 rfl (lv_at hl 1 rfl) ?_
          refine va_get hx hb hts ni_X10_addBumper_X10 hown hKK.1 (wd_x hW (k := 0) rfl) 0 rfl rfl 12 (by decide) (hts (.fieldLink RX10 40 "TiltRouteModel" "heights" "[I") (List.mem_of_getElem? (i := 5) rfl)) (fun _ h => h) rfl dX10_addBumper_202 ?_
          refine lv_iload hx hb dX10_addBumper_205 (lv_at hl 0 rfl) ?_
          refine lv_iload hx hb dX10_addBumper_207 (lv_at hl 5 rfl) ?_
          refine lv_bipush (v := (100)) hx hb dX10_addBumper_209 (by decide) ?_
          refine lv_irem hx hb dX10_addBumper_211 (by decide) ?_
          obtain ⟨h212, hf⟩ := op_gd hf
          obtain ⟨M28, eM28, hf⟩ := op_st hf
          refine m_iast hx hb hKK.1 hW hS 12 11 48 rfl h212 eM28 (ms_12 Γ q _ Y _ _) dX10_addBumper_212 (fun H locs hW hS => ?_)
          refine lv_aload_n hx hb dX10_addBumper_213 rfl (lv_at hl 1 rfl) ?_
          refine va_get hx hb hts ni_X10_addBumper_X10 hown hKK.1 (wd_x hW (k := 0) rfl) 0 rfl rfl 13 (by decide) (hts (.fieldLink RX10 43 "TiltRouteModel" "kicks" "[I") (List.mem_of_getElem? (i := 6) rfl)) (fun _ h => h) rfl dX10_addBumper_214 ?_
          refine lv_iload hx hb dX10_addBumper_217 (lv_at hl 0 rfl) ?_
          refine lv_iload hx hb dX10_addBumper_219 (lv_at hl 6 rfl) ?_
          obtain ⟨h221, hf⟩ := op_gd hf
          obtain ⟨M29, eM29, hf⟩ := op_st hf
          refine m_iast hx hb hKK.1 hW hS 13 12 48 rfl h221 eM29 (ms_13 Γ q _ Y _ _) dX10_addBumper_221 (fun H locs hW hS => ?_)
          refine lv_aload_n hx hb dX10_addBumper_222 rfl (lv_at hl 1 rfl) ?_
          refine va_get hx hb hts ni_X10_addBumper_X10 hown hKK.1 (wd_x hW (k := 0) rfl) 0 rfl rfl 8 (by decide) (hts (.fieldLink RX10 28 "TiltRouteModel" "bumpers" "[I") (List.mem_of_getElem? (i := 1) rfl)) (fun _ h => h) rfl dX10_addBumper_223 ?_
          refine lv_iload_n hx hb dX10_addBumper_226 rfl (lv_at hl 2 rfl) ?_
          refine lv_dup2_11 hx hb dX10_addBumper_227 rfl rfl ?_
          obtain ⟨h228, hf⟩ := op_gd hf
          refine va_iald hx hb hKK.1 (wd_x hW (k := 7) rfl) 0 0 (n := 6) rfl rfl h228 dX10_addBumper_228 ?_
          refine lv_iconst (v := (1)) hx hb dX10_addBumper_229 (by decide) ?_
          refine lv_iadd hx hb dX10_addBumper_230 ?_
          obtain ⟨h231, hf⟩ := op_gd hf
          obtain ⟨M30, eM30, hf⟩ := op_st hf
          refine m_iast hx hb hKK.1 hW hS 8 7 6 rfl h231 eM30 (ms_8 Γ q _ Y _ _) dX10_addBumper_231 (fun H locs hW hS => ?_)
          refine lv_aload_n hx hb dX10_addBumper_232 rfl (lv_at hl 1 rfl) ?_
          refine va_get hx hb hts ni_X10_addBumper_X10 hown hKK.1 (wd_x hW (k := 0) rfl) 0 rfl rfl 8 (by decide) (hts (.fieldLink RX10 28 "TiltRouteModel" "bumpers" "[I") (List.mem_of_getElem? (i := 1) rfl)) (fun _ h => h) rfl dX10_addBumper_233 ?_
          refine lv_iload_n hx hb dX10_addBumper_236 rfl (lv_at hl 2 rfl) ?_
          obtain ⟨h237, hf⟩ := op_gd hf
          refine va_iald hx hb hKK.1 (wd_x hW (k := 7) rfl) 0 0 (n := 6) rfl rfl h237 dX10_addBumper_237 ?_
          refine lv_iconst (v := (1)) hx hb dX10_addBumper_238 (by decide) ?_
          refine lv_isub hx hb dX10_addBumper_239 ?_
          have hf := Option.some.inj hf
          rw [← hf]
          exact z_iret hx hb hr hlocks rfl hW hS hm trivial dX10_addBumper_240
        · have hf := (op_if hf).2 k155
          refine lv_iconst (v := (0)) hx hb dX10_addBumper_158 (by decide) ?_
          have hf := Option.some.inj hf
          rw [← hf]
          exact z_iret hx hb hr hlocks rfl hW hS hm trivial dX10_addBumper_159
      refine lv_if_ne (tgt := 133) hx hb dX10_addBumper_126 (by decide) (fun k126 => ?_) (fun k126 => ?_)
      · have hf := (op_if hf).2 k126
        refine lv_iload hx hb dX10_addBumper_133 (lv_at hl 1 rfl) ?_
        refine lv_if_ne (tgt := 142) hx hb dX10_addBumper_135 (by decide) (fun k135 => ?_) (fun k135 => ?_)
        · have hf := (op_if hf).2 k135
          refine lv_iload hx hb dX10_addBumper_142 (lv_at hl 0 rfl) ?_
          refine lv_if_eq (tgt := 151) hx hb dX10_addBumper_144 (by decide) (fun k144 => ?_) (fun k144 => ?_)
          · have hf := (op_if hf).1 k144
            refine lv_iconst (v := (3)) hx hb dX10_addBumper_151 (by decide) ?_
            exact hj19 (3 : Int32) H locs ls  (lv_sub hl [2, 3, 4, 5, 6, 7] rfl) hW hS hm hf
          · have hf := (op_if hf).2 k144
            refine lv_iconst (v := (0)) hx hb dX10_addBumper_147 (by decide) ?_
            refine lv_goto (tgt := 152) hx hb dX10_addBumper_148 (by decide) ?_
            exact hj19 (0 : Int32) H locs ls  (lv_sub hl [2, 3, 4, 5, 6, 7] rfl) hW hS hm hf
        · have hf := (op_if hf).1 k135
          refine lv_iconst (v := (2)) hx hb dX10_addBumper_138 (by decide) ?_
          refine lv_goto (tgt := 152) hx hb dX10_addBumper_139 (by decide) ?_
          exact hj19 (2 : Int32) H locs ls  (lv_sub hl [2, 3, 4, 5, 6, 7] rfl) hW hS hm hf
      · have hf := (op_if hf).1 k126
        refine lv_iconst (v := (1)) hx hb dX10_addBumper_129 (by decide) ?_
        refine lv_goto (tgt := 152) hx hb dX10_addBumper_130 (by decide) ?_
        exact hj19 (1 : Int32) H locs ls  (lv_sub hl [2, 3, 4, 5, 6, 7] rfl) hW hS hm hf
    obtain ⟨j31, ej31, hf⟩ := op_st hf
    have hj31 : ∀ (u_ : Unit) (H : Heap) (locs : List Loc) (ls : Array Slot), lv_has ls 9 [(6, .int x7), (0, .ref (q 0)), (1, .int i_1), (2, .int i_2), (3, .int i_3), (4, .int i_4), (5, .int i_5)] → Wd Γ lo S (mcl Γ q M ++ Y) H → va_S (zA Γ) s.heap H locs → (∀ c, zV S c = zV S c) → j31 () = some y → W p l e (headSpec wsX10_addBumper rmX10_addBumper).room s m ([.ref (q 0), .int i_1, .int i_2, .int i_3, .int i_4, .int i_5] : List Value).toArray below meth c H locs 0 0 (MQ below (zQ0 Γ lo S S (mcl Γ q y.2 ++ Y) (some (.int y.1)) True) ([.ref (q 0), .int i_1, .int i_2, .int i_3, .int i_4, .int i_5] : List Value).toArray s 0 0 (zA Γ)) (F0 m 117 ls []) := by
      intro u_ H locs ls  hl hW hS hm hf
      rw [ej31] at hf
      refine lv_iconst (v := (0)) hx hb dX10_addBumper_117 (by decide) ?_
      exact hj13 (0 : Int32) H locs ls (Or.inl rfl) (lv_sub hl [0, 1, 2, 3, 4, 5, 6] rfl) hW hS hm hf
    refine lv_if_eq (tgt := 117) hx hb dX10_addBumper_86 (by decide) (fun k86 => ?_) (fun k86 => ?_)
    · have hf := (op_if hf).1 k86
      exact hj31 () H locs ls  (lv_sub hl [0, 1, 2, 3, 4, 5, 6] rfl) hW hS hm hf
    · have hf := (op_if hf).2 k86
      refine lv_iload hx hb dX10_addBumper_89 (lv_at hl 0 rfl) ?_
      refine lv_if_eq (tgt := 117) hx hb dX10_addBumper_91 (by decide) (fun k91 => ?_) (fun k91 => ?_)
      · have hf := (op_if hf).1 k91
        exact hj31 () H locs ls  (lv_sub hl [0, 1, 2, 3, 4, 5, 6] rfl) hW hS hm hf
      · have hf := (op_if hf).2 k91
        refine lv_aload_n hx hb dX10_addBumper_94 rfl (lv_at hl 1 rfl) ?_
        refine lv_iload_n hx hb dX10_addBumper_95 rfl (lv_at hl 2 rfl) ?_
        obtain ⟨r32, hc33, hf⟩ := op_cl hf
        refine z_callV (As := [.int i_1]) (rest := []) ⟨hx, hb, hml, hown, hts⟩ (tX10_isFree l Γ lo S q M Y  hc33) (cwV 1 hts gX10_addBumper_X10_isFree rfl rfl rfl (by decide +kernel) ⟨Nat.le_of_ble_eq_true rfl, Nat.le_of_ble_eq_true rfl⟩) (wd_x hW (k := 0) rfl) rfl hKK hW hS rfl hl.1 rfl (Nat.le_of_ble_eq_true rfl) dX10_addBumper_96 ⟨Nat.zero_le _, Nat.zero_le _⟩ (fun H locs hW hS hm1 hE => ?_)
        have b34 := hE
        refine lv_if_eq (tgt := 117) hx hb dX10_addBumper_99 (by decide) (fun k99 => ?_) (fun k99 => ?_)
        · have hf := (op_if hf).1 k99
          exact hj31 () H locs ls  (lv_sub hl [0, 1, 2, 3, 4, 5, 6] rfl) hW hS hm hf
        · have hf := (op_if hf).2 k99
          refine lv_aload_n hx hb dX10_addBumper_102 rfl (lv_at hl 1 rfl) ?_
          refine va_get hx hb hts ni_X10_addBumper_X10 hown hKK.1 (wd_x hW (k := 0) rfl) 0 rfl rfl 8 (by decide) (hts (.fieldLink RX10 28 "TiltRouteModel" "bumpers" "[I") (List.mem_of_getElem? (i := 1) rfl)) (fun _ h => h) rfl dX10_addBumper_103 ?_
          refine lv_iload_n hx hb dX10_addBumper_106 rfl (lv_at hl 2 rfl) ?_
          obtain ⟨h107, hf⟩ := op_gd hf
          refine va_iald hx hb hKK.1 (wd_x hW (k := 7) rfl) 0 0 (n := 6) rfl rfl h107 dX10_addBumper_107 ?_
          refine lv_bipush (v := (8)) hx hb dX10_addBumper_108 (by decide) ?_
          refine lv_icmp_ge (tgt := 117) hx hb dX10_addBumper_110 (by decide) (fun k110 => ?_) (fun k110 => ?_)
          · have hf := (op_if hf).1 k110
            exact hj31 () H locs ls  (lv_sub hl [0, 1, 2, 3, 4, 5, 6] rfl) hW hS hm hf
          · have hf := (op_if hf).2 k110
            refine lv_iconst (v := (1)) hx hb dX10_addBumper_113 (by decide) ?_
            refine lv_goto (tgt := 118) hx hb dX10_addBumper_114 (by decide) ?_
            exact hj13 (1 : Int32) H locs ls (Or.inr rfl) (lv_sub hl [0, 1, 2, 3, 4, 5, 6] rfl) hW hS hm hf
  obtain ⟨j35, ej35, hf⟩ := op_st hf
  have hj35 : ∀ (u_ : Unit) (H : Heap) (locs : List Loc) (ls : Array Slot), lv_has ls 9 [(0, .ref (q 0)), (1, .int i_1), (2, .int i_2), (3, .int i_3), (4, .int i_4), (5, .int i_5)] → Wd Γ lo S (mcl Γ q M ++ Y) H → va_S (zA Γ) s.heap H locs → (∀ c, zV S c = zV S c) → j35 () = some y → W p l e (headSpec wsX10_addBumper rmX10_addBumper).room s m ([.ref (q 0), .int i_1, .int i_2, .int i_3, .int i_4, .int i_5] : List Value).toArray below meth c H locs 0 0 (MQ below (zQ0 Γ lo S S (mcl Γ q y.2 ++ Y) (some (.int y.1)) True) ([.ref (q 0), .int i_1, .int i_2, .int i_3, .int i_4, .int i_5] : List Value).toArray s 0 0 (zA Γ)) (F0 m 78 ls []) := by
    intro u_ H locs ls  hl hW hS hm hf
    rw [ej35] at hf
    refine lv_iconst (v := (0)) hx hb dX10_addBumper_78 (by decide) ?_
    exact hj6 (0 : Int32) H locs ls (Or.inl rfl) (lv_sub hl [0, 1, 2, 3, 4, 5] rfl) hW hS hm hf
  refine lv_if_eq (tgt := 78) hx hb dX10_addBumper_8 (by decide) (fun k8 => ?_) (fun k8 => ?_)
  · have hf := (op_if hf).1 k8
    exact hj35 () H locs ls  (lv_sub hl [0, 1, 2, 3, 4, 5] rfl) hW hS hm hf
  · have hf := (op_if hf).2 k8
    refine lv_iload_n hx hb dX10_addBumper_11 rfl (lv_at hl 3 rfl) ?_
    refine lv_iconst (v := (0)) hx hb dX10_addBumper_12 (by decide) ?_
    refine lv_sipush (v := (239)) hx hb dX10_addBumper_13 (by decide) ?_
    obtain ⟨r36, hc37, hf⟩ := op_cl hf
    refine z_callS (As := [.int i_3, .int (0 : Int32), .int (239 : Int32)]) (rest := []) ⟨hx, hb, hml, hown, hts⟩ (tX10_in l Γ lo S q M Y  hc37) (va_cwS 3 hts gX10_addBumper_X10_in rfl rfl rfl (by decide +kernel) ⟨Nat.le_of_ble_eq_true rfl, Nat.le_of_ble_eq_true rfl⟩) hKK hW hS rfl hl.1 rfl (Nat.le_of_ble_eq_true rfl) dX10_addBumper_16 ⟨Nat.zero_le _, Nat.zero_le _⟩ (fun H locs hW hS hm1 hE => ?_)
    have b38 := hE
    refine lv_if_eq (tgt := 78) hx hb dX10_addBumper_19 (by decide) (fun k19 => ?_) (fun k19 => ?_)
    · have hf := (op_if hf).1 k19
      exact hj35 () H locs ls  (lv_sub hl [0, 1, 2, 3, 4, 5] rfl) hW hS hm hf
    · have hf := (op_if hf).2 k19
      refine lv_iload hx hb dX10_addBumper_22 (lv_at hl 4 rfl) ?_
      refine lv_bipush (v := (101)) hx hb dX10_addBumper_24 (by decide) ?_
      refine lv_sipush (v := (6060)) hx hb dX10_addBumper_26 (by decide) ?_
      obtain ⟨r39, hc40, hf⟩ := op_cl hf
      refine z_callS (As := [.int i_4, .int (101 : Int32), .int (6060 : Int32)]) (rest := []) ⟨hx, hb, hml, hown, hts⟩ (tX10_in l Γ lo S q M Y  hc40) (va_cwS 3 hts gX10_addBumper_X10_in rfl rfl rfl (by decide +kernel) ⟨Nat.le_of_ble_eq_true rfl, Nat.le_of_ble_eq_true rfl⟩) hKK hW hS rfl hl.1 rfl (Nat.le_of_ble_eq_true rfl) dX10_addBumper_29 ⟨Nat.zero_le _, Nat.zero_le _⟩ (fun H locs hW hS hm1 hE => ?_)
      have b41 := hE
      refine lv_if_eq (tgt := 78) hx hb dX10_addBumper_32 (by decide) (fun k32 => ?_) (fun k32 => ?_)
      · have hf := (op_if hf).1 k32
        exact hj35 () H locs ls  (lv_sub hl [0, 1, 2, 3, 4, 5] rfl) hW hS hm hf
      · have hf := (op_if hf).2 k32
        refine lv_iload hx hb dX10_addBumper_35 (lv_at hl 4 rfl) ?_
        refine lv_bipush (v := (100)) hx hb dX10_addBumper_37 (by decide) ?_
        refine lv_idiv hx hb dX10_addBumper_39 (by decide) ?_
        refine lv_iconst (v := (1)) hx hb dX10_addBumper_40 (by decide) ?_
        refine lv_bipush (v := (60)) hx hb dX10_addBumper_41 (by decide) ?_
        obtain ⟨r42, hc43, hf⟩ := op_cl hf
        refine z_callS (As := [.int (i_4 / (100 : Int32)), .int (1 : Int32), .int (60 : Int32)]) (rest := []) ⟨hx, hb, hml, hown, hts⟩ (tX10_in l Γ lo S q M Y  hc43) (va_cwS 3 hts gX10_addBumper_X10_in rfl rfl rfl (by decide +kernel) ⟨Nat.le_of_ble_eq_true rfl, Nat.le_of_ble_eq_true rfl⟩) hKK hW hS rfl hl.1 rfl (Nat.le_of_ble_eq_true rfl) dX10_addBumper_43 ⟨Nat.zero_le _, Nat.zero_le _⟩ (fun H locs hW hS hm1 hE => ?_)
        have b44 := hE
        refine lv_if_eq (tgt := 78) hx hb dX10_addBumper_46 (by decide) (fun k46 => ?_) (fun k46 => ?_)
        · have hf := (op_if hf).1 k46
          exact hj35 () H locs ls  (lv_sub hl [0, 1, 2, 3, 4, 5] rfl) hW hS hm hf
        · have hf := (op_if hf).2 k46
          refine lv_iload hx hb dX10_addBumper_49 (lv_at hl 4 rfl) ?_
          refine lv_bipush (v := (100)) hx hb dX10_addBumper_51 (by decide) ?_
          refine lv_irem hx hb dX10_addBumper_53 (by decide) ?_
          refine lv_iconst (v := (1)) hx hb dX10_addBumper_54 (by decide) ?_
          refine lv_bipush (v := (60)) hx hb dX10_addBumper_55 (by decide) ?_
          obtain ⟨r45, hc46, hf⟩ := op_cl hf
          refine z_callS (As := [.int (i_4 - i_4 / (100 : Int32) * (100 : Int32)), .int (1 : Int32), .int (60 : Int32)]) (rest := []) ⟨hx, hb, hml, hown, hts⟩ (tX10_in l Γ lo S q M Y  hc46) (va_cwS 3 hts gX10_addBumper_X10_in rfl rfl rfl (by decide +kernel) ⟨Nat.le_of_ble_eq_true rfl, Nat.le_of_ble_eq_true rfl⟩) hKK hW hS rfl hl.1 rfl (Nat.le_of_ble_eq_true rfl) dX10_addBumper_57 ⟨Nat.zero_le _, Nat.zero_le _⟩ (fun H locs hW hS hm1 hE => ?_)
          have b47 := hE
          refine lv_if_eq (tgt := 78) hx hb dX10_addBumper_60 (by decide) (fun k60 => ?_) (fun k60 => ?_)
          · have hf := (op_if hf).1 k60
            exact hj35 () H locs ls  (lv_sub hl [0, 1, 2, 3, 4, 5] rfl) hW hS hm hf
          · have hf := (op_if hf).2 k60
            refine lv_iload hx hb dX10_addBumper_63 (lv_at hl 5 rfl) ?_
            refine lv_iconst (v := (0)) hx hb dX10_addBumper_65 (by decide) ?_
            refine lv_bipush (v := (20)) hx hb dX10_addBumper_66 (by decide) ?_
            obtain ⟨r48, hc49, hf⟩ := op_cl hf
            refine z_callS (As := [.int i_5, .int (0 : Int32), .int (20 : Int32)]) (rest := []) ⟨hx, hb, hml, hown, hts⟩ (tX10_in l Γ lo S q M Y  hc49) (va_cwS 3 hts gX10_addBumper_X10_in rfl rfl rfl (by decide +kernel) ⟨Nat.le_of_ble_eq_true rfl, Nat.le_of_ble_eq_true rfl⟩) hKK hW hS rfl hl.1 rfl (Nat.le_of_ble_eq_true rfl) dX10_addBumper_68 ⟨Nat.zero_le _, Nat.zero_le _⟩ (fun H locs hW hS hm1 hE => ?_)
            have b50 := hE
            refine lv_if_eq (tgt := 78) hx hb dX10_addBumper_71 (by decide) (fun k71 => ?_) (fun k71 => ?_)
            · have hf := (op_if hf).1 k71
              exact hj35 () H locs ls  (lv_sub hl [0, 1, 2, 3, 4, 5] rfl) hW hS hm hf
            · have hf := (op_if hf).2 k71
              refine lv_iconst (v := (1)) hx hb dX10_addBumper_74 (by decide) ?_
              refine lv_goto (tgt := 79) hx hb dX10_addBumper_75 (by decide) ?_
              exact hj6 (1 : Int32) H locs ls (Or.inr rfl) (lv_sub hl [0, 1, 2, 3, 4, 5] rfl) hW hS hm hf

theorem ni_X10_setPoints_X10 : ∀ w ∈ wsX100, w ∈ wsX10_setPoints := by decide +kernel
def fX10_setPoints (M : zMs) (i_1 : Int32) (i_2 : Int32) (i_3 : Int32) : Option (Int32 × zMs) :=
cl (fX10_isSwitch M i_1 i_2) fun r1 =>
st r1 fun x4 =>
cl (fX10_in M i_3 (0 : Int32) (1000 : Int32)) fun r5 =>
st r5 fun x8 =>
st (fun (y9 : Int32) => (cl2 (fX10_refused M y9) fun r11 M13 =>
if r11 = 0 then
gd (¬ ((((8 : Int32) * i_1) + i_2) < 0 ∨ 48 ≤ (((8 : Int32) * i_1) + i_2).toNatClampNeg)) (
st (M13 14 (((8 : Int32) * i_1) + i_2).toNatClampNeg) fun x15 =>
gd (¬ ((((8 : Int32) * i_1) + i_2) < 0 ∨ 48 ≤ (((8 : Int32) * i_1) + i_2).toNatClampNeg)) (
st (pM M13 14 (((8 : Int32) * i_1) + i_2).toNatClampNeg i_3) fun M16 =>
some ((x15, M16))))
else
some (((0 : Int32), M13)) : Option (Int32 × zMs))) fun j10 =>
if x4 = 0 then
j10 (1 : Int32)
else
if x8 = 0 then
j10 (2 : Int32)
else
cl (fX10_isFree M i_1) fun r17 =>
if r17 = 0 then
j10 (3 : Int32)
else
j10 (0 : Int32)
abbrev rmX10_setPoints : Room := { frames := 3, cells := 0, slots := 0, locals := 65 }
set_option maxHeartbeats 4000000 in
set_option maxRecDepth 100000 in
theorem tX10_setPoints (l : Launch) (Γ : zG) (lo : zId → Nat) (S : zSt) (q : Nat → Nat) (M : zMs) (Y : va_W) {i_1 : Int32} {i_2 : Int32} {i_3 : Int32}  {y : (Int32 × zMs)} (hf : fX10_setPoints M i_1 i_2 i_3 = some y) : Met l yX10_setPoints wsX10_setPoints rmX10_setPoints (zP0 Γ lo S (mcl Γ q M ++ Y) [.ref (q 0), .int i_1, .int i_2, .int i_3]) (zQ0 Γ lo S S (mcl Γ q y.2 ++ Y) (some (.int y.1)) True) 0 0 (zA Γ) := by
  refine Met.ofW (cc := cX10_setPoints) (maxL := 7) (ret := (some .int)) (by decide) rfl ?_
  intro p e s m args below meth c s₁ B hml hv
  obtain ⟨rfl, hW, hKK⟩ := hv
  have hx := B.exec
  have hb := B.bytes
  have hr := B.returns
  have hts := atoms_spec (ws := wsX10_setPoints) B.pre
  have hown : s.vm.findClass RX10 = some m.cls := findClass_of_methodNamed B.named
  have hlocks := B.notSynchronized
  have hS : va_S (zA Γ) s.heap s.heap [] := va_S.rf
  have hm : ∀ c, zV S c = zV S c := fun _ => rfl
  have hl := lv_entry ([.ref (q 0), .int i_1, .int i_2, .int i_3]) (n := 7) (Nat.le_of_ble_eq_true rfl)
  rw [lg_entry_eq]
  generalize (lg_sl ([.ref (q 0), .int i_1, .int i_2, .int i_3]) ++ List.replicate (7 - (lg_sl ([.ref (q 0), .int i_1, .int i_2, .int i_3])).length) Slot.unset).toArray = ls at hl ⊢
  have hl : lv_has ls 7 [(0, .ref (q 0)), (1, .int i_1), (2, .int i_2), (3, .int i_3)] := hl
  obtain ⟨H, hH0⟩ : ∃ H, H = s.heap := ⟨_, rfl⟩
  obtain ⟨locs, hlo0⟩ : ∃ L : List Loc, L = [] := ⟨_, rfl⟩
  have hS : va_S (zA Γ) s.heap H locs := by rw [hH0, hlo0]; exact hS
  have hW : Wd Γ lo S (mcl Γ q M ++ Y) H := by rw [hH0]; exact hW
  rw [← hH0, ← hlo0]
  unfold fX10_setPoints at hf
  refine lv_aload_n hx hb dX10_setPoints_0 rfl (lv_at hl 0 rfl) ?_
  refine lv_iload_n hx hb dX10_setPoints_1 rfl (lv_at hl 1 rfl) ?_
  refine lv_iload_n hx hb dX10_setPoints_2 rfl (lv_at hl 2 rfl) ?_
  obtain ⟨r1, hc2, hf⟩ := op_cl hf
  refine z_callV (As := [.int i_1, .int i_2]) (rest := []) ⟨hx, hb, hml, hown, hts⟩ (tX10_isSwitch l Γ lo S q M Y  hc2) (cwV 2 hts gX10_setPoints_X10_isSwitch rfl rfl rfl (by decide +kernel) ⟨Nat.le_of_ble_eq_true rfl, Nat.le_of_ble_eq_true rfl⟩) (wd_x hW (k := 0) rfl) rfl hKK hW hS rfl hl.1 rfl (Nat.le_of_ble_eq_true rfl) dX10_setPoints_3 ⟨Nat.zero_le _, Nat.zero_le _⟩ (fun H locs hW hS hm1 hE => ?_)
  have b3 := hE
  obtain ⟨x4, ex4, hf⟩ := op_st hf
  have bx4 : x4 = 0 ∨ x4 = 1 := by rw [ex4]; exact b3
  refine z_ist (lv' := [(4, .int x4), (0, .ref (q 0)), (1, .int i_1), (2, .int i_2), (3, .int i_3)]) ex4 hx hb dX10_setPoints_6 hl (by decide) rfl (fun ls hl => ?_)
  refine lv_iload_n hx hb dX10_setPoints_8 rfl (lv_at hl 4 rfl) ?_
  refine lv_iconst (v := (0)) hx hb dX10_setPoints_9 (by decide) ?_
  refine lv_sipush (v := (1000)) hx hb dX10_setPoints_10 (by decide) ?_
  obtain ⟨r5, hc6, hf⟩ := op_cl hf
  refine z_callS (As := [.int i_3, .int (0 : Int32), .int (1000 : Int32)]) (rest := []) ⟨hx, hb, hml, hown, hts⟩ (tX10_in l Γ lo S q M Y  hc6) (va_cwS 3 hts gX10_setPoints_X10_in rfl rfl rfl (by decide +kernel) ⟨Nat.le_of_ble_eq_true rfl, Nat.le_of_ble_eq_true rfl⟩) hKK hW hS rfl hl.1 rfl (Nat.le_of_ble_eq_true rfl) dX10_setPoints_13 ⟨Nat.zero_le _, Nat.zero_le _⟩ (fun H locs hW hS hm1 hE => ?_)
  have b7 := hE
  obtain ⟨x8, ex8, hf⟩ := op_st hf
  have bx8 : x8 = 0 ∨ x8 = 1 := by rw [ex8]; exact b7
  refine z_ist (lv' := [(5, .int x8), (4, .int x4), (0, .ref (q 0)), (1, .int i_1), (2, .int i_2), (3, .int i_3)]) ex8 hx hb dX10_setPoints_16 hl (by decide) rfl (fun ls hl => ?_)
  refine lv_aload_n hx hb dX10_setPoints_18 rfl (lv_at hl 2 rfl) ?_
  refine lv_iload hx hb dX10_setPoints_19 (lv_at hl 1 rfl) ?_
  obtain ⟨j10, ej10, hf⟩ := op_st hf
  have hj10 : ∀ (y9 : Int32) (H : Heap) (locs : List Loc) (ls : Array Slot), lv_has ls 7 [(0, .ref (q 0)), (1, .int i_1), (2, .int i_2), (3, .int i_3)] → Wd Γ lo S (mcl Γ q M ++ Y) H → va_S (zA Γ) s.heap H locs → (∀ c, zV S c = zV S c) → j10 y9 = some y → W p l e (headSpec wsX10_setPoints rmX10_setPoints).room s m ([.ref (q 0), .int i_1, .int i_2, .int i_3] : List Value).toArray below meth c H locs 0 0 (MQ below (zQ0 Γ lo S S (mcl Γ q y.2 ++ Y) (some (.int y.1)) True) ([.ref (q 0), .int i_1, .int i_2, .int i_3] : List Value).toArray s 0 0 (zA Γ)) (F0 m 50 ls [.int y9, .ref (q 0)]) := by
    intro y9 H locs ls  hl hW hS hm hf
    rw [ej10] at hf
    obtain ⟨r11, M13, hc12, hf⟩ := op_cl2 hf
    refine z_callV (As := [.int y9]) (rest := []) ⟨hx, hb, hml, hown, hts⟩ (tX10_refused l Γ lo S q M Y  hc12) (cwV 1 hts gX10_setPoints_X10_refused rfl rfl rfl (by decide +kernel) ⟨Nat.le_of_ble_eq_true rfl, Nat.le_of_ble_eq_true rfl⟩) (wd_x hW (k := 0) rfl) rfl hKK hW hS rfl hl.1 rfl (Nat.le_of_ble_eq_true rfl) dX10_setPoints_50 ⟨Nat.zero_le _, Nat.zero_le _⟩ (fun H locs hW hS hm1 hE => ?_)
    have b14 := hE
    refine lv_if_eq (tgt := 58) hx hb dX10_setPoints_53 (by decide) (fun k53 => ?_) (fun k53 => ?_)
    · have hf := (op_if hf).1 k53
      refine lv_aload_n hx hb dX10_setPoints_58 rfl (lv_at hl 0 rfl) ?_
      refine va_get hx hb hts ni_X10_setPoints_X10 hown hKK.1 (wd_x hW (k := 0) rfl) 0 rfl rfl 14 (by decide) (hts (.fieldLink RX10 46 "TiltRouteModel" "points" "[I") (List.mem_of_getElem? (i := 1) rfl)) (fun _ h => h) rfl dX10_setPoints_59 ?_
      refine lv_bipush (v := (8)) hx hb dX10_setPoints_62 (by decide) ?_
      refine lv_iload_n hx hb dX10_setPoints_64 rfl (lv_at hl 1 rfl) ?_
      refine lv_imul hx hb dX10_setPoints_65 ?_
      refine lv_iload_n hx hb dX10_setPoints_66 rfl (lv_at hl 2 rfl) ?_
      refine lv_iadd hx hb dX10_setPoints_67 ?_
      obtain ⟨h68, hf⟩ := op_gd hf
      refine va_iald hx hb hKK.1 (wd_x hW (k := 13) rfl) 0 0 (n := 48) rfl rfl h68 dX10_setPoints_68 ?_
      obtain ⟨x15, ex15, hf⟩ := op_st hf
      refine z_ist (lv' := [(6, .int x15), (0, .ref (q 0)), (1, .int i_1), (2, .int i_2), (3, .int i_3)]) ex15 hx hb dX10_setPoints_69 hl (by decide) rfl (fun ls hl => ?_)
      refine lv_aload_n hx hb dX10_setPoints_71 rfl (lv_at hl 1 rfl) ?_
      refine va_get hx hb hts ni_X10_setPoints_X10 hown hKK.1 (wd_x hW (k := 0) rfl) 0 rfl rfl 14 (by decide) (hts (.fieldLink RX10 46 "TiltRouteModel" "points" "[I") (List.mem_of_getElem? (i := 1) rfl)) (fun _ h => h) rfl dX10_setPoints_72 ?_
      refine lv_bipush (v := (8)) hx hb dX10_setPoints_75 (by decide) ?_
      refine lv_iload_n hx hb dX10_setPoints_77 rfl (lv_at hl 2 rfl) ?_
      refine lv_imul hx hb dX10_setPoints_78 ?_
      refine lv_iload_n hx hb dX10_setPoints_79 rfl (lv_at hl 3 rfl) ?_
      refine lv_iadd hx hb dX10_setPoints_80 ?_
      refine lv_iload_n hx hb dX10_setPoints_81 rfl (lv_at hl 4 rfl) ?_
      obtain ⟨h82, hf⟩ := op_gd hf
      obtain ⟨M16, eM16, hf⟩ := op_st hf
      refine m_iast hx hb hKK.1 hW hS 14 13 48 rfl h82 eM16 (ms_14 Γ q _ Y _ _) dX10_setPoints_82 (fun H locs hW hS => ?_)
      refine lv_iload hx hb dX10_setPoints_83 (lv_at hl 0 rfl) ?_
      have hf := Option.some.inj hf
      rw [← hf]
      exact z_iret hx hb hr hlocks rfl hW hS hm trivial dX10_setPoints_85
    · have hf := (op_if hf).2 k53
      refine lv_iconst (v := (0)) hx hb dX10_setPoints_56 (by decide) ?_
      have hf := Option.some.inj hf
      rw [← hf]
      exact z_iret hx hb hr hlocks rfl hW hS hm trivial dX10_setPoints_57
  refine lv_if_ne (tgt := 28) hx hb dX10_setPoints_21 (by decide) (fun k21 => ?_) (fun k21 => ?_)
  · have hf := (op_if hf).2 k21
    refine lv_iload hx hb dX10_setPoints_28 (lv_at hl 0 rfl) ?_
    refine lv_if_ne (tgt := 37) hx hb dX10_setPoints_30 (by decide) (fun k30 => ?_) (fun k30 => ?_)
    · have hf := (op_if hf).2 k30
      refine lv_aload_n hx hb dX10_setPoints_37 rfl (lv_at hl 2 rfl) ?_
      refine lv_iload_n hx hb dX10_setPoints_38 rfl (lv_at hl 3 rfl) ?_
      obtain ⟨r17, hc18, hf⟩ := op_cl hf
      refine z_callV (As := [.int i_1]) (rest := [.ref (q 0)]) ⟨hx, hb, hml, hown, hts⟩ (tX10_isFree l Γ lo S q M Y  hc18) (cwV 1 hts gX10_setPoints_X10_isFree rfl rfl rfl (by decide +kernel) ⟨Nat.le_of_ble_eq_true rfl, Nat.le_of_ble_eq_true rfl⟩) (wd_x hW (k := 0) rfl) rfl hKK hW hS rfl hl.1 rfl (Nat.le_of_ble_eq_true rfl) dX10_setPoints_39 ⟨Nat.zero_le _, Nat.zero_le _⟩ (fun H locs hW hS hm1 hE => ?_)
      have b19 := hE
      refine lv_if_eq (tgt := 49) hx hb dX10_setPoints_42 (by decide) (fun k42 => ?_) (fun k42 => ?_)
      · have hf := (op_if hf).1 k42
        refine lv_iconst (v := (3)) hx hb dX10_setPoints_49 (by decide) ?_
        exact hj10 (3 : Int32) H locs ls  (lv_sub hl [2, 3, 4, 5] rfl) hW hS hm hf
      · have hf := (op_if hf).2 k42
        refine lv_iconst (v := (0)) hx hb dX10_setPoints_45 (by decide) ?_
        refine lv_goto (tgt := 50) hx hb dX10_setPoints_46 (by decide) ?_
        exact hj10 (0 : Int32) H locs ls  (lv_sub hl [2, 3, 4, 5] rfl) hW hS hm hf
    · have hf := (op_if hf).1 k30
      refine lv_iconst (v := (2)) hx hb dX10_setPoints_33 (by decide) ?_
      refine lv_goto (tgt := 50) hx hb dX10_setPoints_34 (by decide) ?_
      exact hj10 (2 : Int32) H locs ls  (lv_sub hl [2, 3, 4, 5] rfl) hW hS hm hf
  · have hf := (op_if hf).1 k21
    refine lv_iconst (v := (1)) hx hb dX10_setPoints_24 (by decide) ?_
    refine lv_goto (tgt := 50) hx hb dX10_setPoints_25 (by decide) ?_
    exact hj10 (1 : Int32) H locs ls  (lv_sub hl [2, 3, 4, 5] rfl) hW hS hm hf

theorem ni_X10_setMode_X10 : ∀ w ∈ wsX100, w ∈ wsX10_setMode := by decide +kernel
def fX10_setMode (M : zMs) (i_1 : Int32) (i_2 : Int32) (i_3 : Int32) (i_4 : Int32) (i_5 : Int32) : Option (Int32 × zMs) :=
cl (fX10_isTable M i_1) fun r1 =>
st (fun (y4 : Int32) => (st y4 fun x7 =>
st (fun (y8 : Int32) => (st y8 fun x11 =>
st (fun (y12 : Int32) => (st y12 fun x15 =>
st (fun (y16 : Int32) => (cl2 (fX10_refused M y16) fun r18 M20 =>
if r18 = 0 then
st (((4 : Int32) * i_1) + i_2) fun x22 =>
gd (¬ (x22 < 0 ∨ 24 ≤ x22.toNatClampNeg)) (
st (fun (y23 : Int32) => (st y23 fun x26 =>
st (fun (y27 : Int32) => (gd (¬ (x22 < 0 ∨ 24 ≤ x22.toNatClampNeg)) (
st (pM M20 17 x22.toNatClampNeg y27) fun M29 =>
st (fun (y30 : Int32) => (gd (¬ (x22 < 0 ∨ 24 ≤ x22.toNatClampNeg)) (
st (pM M29 18 x22.toNatClampNeg y30) fun M32 =>
gd (¬ (x22 < 0 ∨ 24 ≤ x22.toNatClampNeg)) (
st (pM M32 19 x22.toNatClampNeg (i_4 / (100 : Int32))) fun M33 =>
gd (¬ (x22 < 0 ∨ 24 ≤ x22.toNatClampNeg)) (
st (pM M33 20 x22.toNatClampNeg (i_4 - i_4 / (100 : Int32) * (100 : Int32))) fun M34 =>
gd (¬ (x22 < 0 ∨ 24 ≤ x22.toNatClampNeg)) (
st (pM M34 21 x22.toNatClampNeg i_5) fun M35 =>
some ((x26, M35)))))) : Option (Int32 × zMs))) fun j31 =>
if i_3 = (-1 : Int32) then
j31 (0 : Int32)
else
j31 (i_3 - i_3 / (10 : Int32) * (10 : Int32))) : Option (Int32 × zMs))) fun j28 =>
if i_3 = (-1 : Int32) then
j28 (-1 : Int32)
else
j28 (i_3 / (10 : Int32)) : Option (Int32 × zMs))) fun j25 =>
if (M20 17 x22.toNatClampNeg) = (-1 : Int32) then
j25 (0 : Int32)
else
j25 (1 : Int32))
else
some (((0 : Int32), M20)) : Option (Int32 × zMs))) fun j17 =>
if x7 = 0 then
j17 (1 : Int32)
else
if x11 = 0 then
j17 (2 : Int32)
else
if x15 = 0 then
j17 (3 : Int32)
else
j17 (0 : Int32) : Option (Int32 × zMs))) fun j14 =>
st (fun (u_ : Unit) => (j14 (0 : Int32) : Option (Int32 × zMs))) fun j36 =>
if x7 = 0 then
j36 ()
else
if x11 = 0 then
j36 ()
else
cl (fX10_isFree M i_1) fun r37 =>
if r37 = 0 then
j36 ()
else
j14 (1 : Int32) : Option (Int32 × zMs))) fun j10 =>
st (fun (u_ : Unit) => (j10 (0 : Int32) : Option (Int32 × zMs))) fun j40 =>
if i_3 < (-1 : Int32) then
j40 ()
else
if i_4 < 0 then
j40 ()
else
cl (fX10_in M (i_4 / (100 : Int32)) (1 : Int32) (20 : Int32)) fun r41 =>
if r41 = 0 then
j40 ()
else
cl (fX10_in M (i_4 - i_4 / (100 : Int32) * (100 : Int32)) (2 : Int32) (9 : Int32)) fun r44 =>
if r44 = 0 then
j40 ()
else
cl (fX10_in M i_5 (0 : Int32) (5000 : Int32)) fun r47 =>
if r47 = 0 then
j40 ()
else
j10 (1 : Int32) : Option (Int32 × zMs))) fun j6 =>
st (fun (u_ : Unit) => (j6 (0 : Int32) : Option (Int32 × zMs))) fun j50 =>
if r1 = 0 then
j50 ()
else
cl (fX10_in M i_2 (0 : Int32) (3 : Int32)) fun r51 =>
if r51 = 0 then
j50 ()
else
st (fun (u_ : Unit) => (j6 (1 : Int32) : Option (Int32 × zMs))) fun j54 =>
if i_3 < 0 then
j54 ()
else
cl (fX10_isSwitch M i_1 (i_3 / (10 : Int32))) fun r55 =>
if r55 = 0 then
j50 ()
else
cl (fX10_isSwitch M i_1 (i_3 - i_3 / (10 : Int32) * (10 : Int32))) fun r58 =>
if r58 = 0 then
j50 ()
else
j54 ()
abbrev rmX10_setMode : Room := { frames := 3, cells := 0, slots := 0, locals := 65 }
set_option maxHeartbeats 4000000 in
set_option maxRecDepth 100000 in
theorem tX10_setMode (l : Launch) (Γ : zG) (lo : zId → Nat) (S : zSt) (q : Nat → Nat) (M : zMs) (Y : va_W) {i_1 : Int32} {i_2 : Int32} {i_3 : Int32} {i_4 : Int32} {i_5 : Int32}  {y : (Int32 × zMs)} (hf : fX10_setMode M i_1 i_2 i_3 i_4 i_5 = some y) : Met l yX10_setMode wsX10_setMode rmX10_setMode (zP0 Γ lo S (mcl Γ q M ++ Y) [.ref (q 0), .int i_1, .int i_2, .int i_3, .int i_4, .int i_5]) (zQ0 Γ lo S S (mcl Γ q y.2 ++ Y) (some (.int y.1)) (y.1 = 0 ∨ y.1 = 1)) 0 0 (zA Γ) := by
  refine Met.ofW (cc := cX10_setMode) (maxL := 11) (ret := (some .boolean)) (by decide) rfl ?_
  intro p e s m args below meth c s₁ B hml hv
  obtain ⟨rfl, hW, hKK⟩ := hv
  have hx := B.exec
  have hb := B.bytes
  have hr := B.returns
  have hts := atoms_spec (ws := wsX10_setMode) B.pre
  have hown : s.vm.findClass RX10 = some m.cls := findClass_of_methodNamed B.named
  have hlocks := B.notSynchronized
  have hS : va_S (zA Γ) s.heap s.heap [] := va_S.rf
  have hm : ∀ c, zV S c = zV S c := fun _ => rfl
  have hl := lv_entry ([.ref (q 0), .int i_1, .int i_2, .int i_3, .int i_4, .int i_5]) (n := 11) (Nat.le_of_ble_eq_true rfl)
  rw [lg_entry_eq]
  generalize (lg_sl ([.ref (q 0), .int i_1, .int i_2, .int i_3, .int i_4, .int i_5]) ++ List.replicate (11 - (lg_sl ([.ref (q 0), .int i_1, .int i_2, .int i_3, .int i_4, .int i_5])).length) Slot.unset).toArray = ls at hl ⊢
  have hl : lv_has ls 11 [(0, .ref (q 0)), (1, .int i_1), (2, .int i_2), (3, .int i_3), (4, .int i_4), (5, .int i_5)] := hl
  obtain ⟨H, hH0⟩ : ∃ H, H = s.heap := ⟨_, rfl⟩
  obtain ⟨locs, hlo0⟩ : ∃ L : List Loc, L = [] := ⟨_, rfl⟩
  have hS : va_S (zA Γ) s.heap H locs := by rw [hH0, hlo0]; exact hS
  have hW : Wd Γ lo S (mcl Γ q M ++ Y) H := by rw [hH0]; exact hW
  rw [← hH0, ← hlo0]
  unfold fX10_setMode at hf
  refine lv_aload_n hx hb dX10_setMode_0 rfl (lv_at hl 0 rfl) ?_
  refine lv_iload_n hx hb dX10_setMode_1 rfl (lv_at hl 1 rfl) ?_
  obtain ⟨r1, hc2, hf⟩ := op_cl hf
  refine z_callV (As := [.int i_1]) (rest := []) ⟨hx, hb, hml, hown, hts⟩ (tX10_isTable l Γ lo S q M Y  hc2) (cwV 1 hts gX10_setMode_X10_isTable rfl rfl rfl (by decide +kernel) ⟨Nat.le_of_ble_eq_true rfl, Nat.le_of_ble_eq_true rfl⟩) (wd_x hW (k := 0) rfl) rfl hKK hW hS rfl hl.1 rfl (Nat.le_of_ble_eq_true rfl) dX10_setMode_2 ⟨Nat.zero_le _, Nat.zero_le _⟩ (fun H locs hW hS hm1 hE => ?_)
  have b3 := hE
  obtain ⟨j6, ej6, hf⟩ := op_st hf
  have hj6 : ∀ (y4 : Int32) (H : Heap) (locs : List Loc) (ls : Array Slot) (b5 : y4 = 0 ∨ y4 = 1), lv_has ls 11 [(0, .ref (q 0)), (1, .int i_1), (2, .int i_2), (3, .int i_3), (4, .int i_4), (5, .int i_5)] → Wd Γ lo S (mcl Γ q M ++ Y) H → va_S (zA Γ) s.heap H locs → (∀ c, zV S c = zV S c) → j6 y4 = some y → W p l e (headSpec wsX10_setMode rmX10_setMode).room s m ([.ref (q 0), .int i_1, .int i_2, .int i_3, .int i_4, .int i_5] : List Value).toArray below meth c H locs 0 0 (MQ below (zQ0 Γ lo S S (mcl Γ q y.2 ++ Y) (some (.int y.1)) (y.1 = 0 ∨ y.1 = 1)) ([.ref (q 0), .int i_1, .int i_2, .int i_3, .int i_4, .int i_5] : List Value).toArray s 0 0 (zA Γ)) (F0 m 50 ls [.int y4]) := by
    intro y4 H locs ls b5 hl hW hS hm hf
    rw [ej6] at hf
    obtain ⟨x7, ex7, hf⟩ := op_st hf
    have bx7 : x7 = 0 ∨ x7 = 1 := by rw [ex7]; exact b5
    refine z_ist (lv' := [(6, .int x7), (0, .ref (q 0)), (1, .int i_1), (2, .int i_2), (3, .int i_3), (4, .int i_4), (5, .int i_5)]) ex7 hx hb dX10_setMode_50 hl (by decide) rfl (fun ls hl => ?_)
    refine lv_iload_n hx hb dX10_setMode_52 rfl (lv_at hl 4 rfl) ?_
    refine lv_iconst (v := (-1)) hx hb dX10_setMode_53 (by decide) ?_
    obtain ⟨j10, ej10, hf⟩ := op_st hf
    have hj10 : ∀ (y8 : Int32) (H : Heap) (locs : List Loc) (ls : Array Slot) (b9 : y8 = 0 ∨ y8 = 1), lv_has ls 11 [(6, .int x7), (0, .ref (q 0)), (1, .int i_1), (2, .int i_2), (3, .int i_3), (4, .int i_4), (5, .int i_5)] → Wd Γ lo S (mcl Γ q M ++ Y) H → va_S (zA Γ) s.heap H locs → (∀ c, zV S c = zV S c) → j10 y8 = some y → W p l e (headSpec wsX10_setMode rmX10_setMode).room s m ([.ref (q 0), .int i_1, .int i_2, .int i_3, .int i_4, .int i_5] : List Value).toArray below meth c H locs 0 0 (MQ below (zQ0 Γ lo S S (mcl Γ q y.2 ++ Y) (some (.int y.1)) (y.1 = 0 ∨ y.1 = 1)) ([.ref (q 0), .int i_1, .int i_2, .int i_3, .int i_4, .int i_5] : List Value).toArray s 0 0 (zA Γ)) (F0 m 107 ls [.int y8]) := by
      intro y8 H locs ls b9 hl hW hS hm hf
      rw [ej10] at hf
      obtain ⟨x11, ex11, hf⟩ := op_st hf
      have bx11 : x11 = 0 ∨ x11 = 1 := by rw [ex11]; exact b9
      refine z_ist (lv' := [(7, .int x11), (6, .int x7), (0, .ref (q 0)), (1, .int i_1), (2, .int i_2), (3, .int i_3), (4, .int i_4), (5, .int i_5)]) ex11 hx hb dX10_setMode_107 hl (by decide) rfl (fun ls hl => ?_)
      refine lv_iload hx hb dX10_setMode_109 (lv_at hl 1 rfl) ?_
      obtain ⟨j14, ej14, hf⟩ := op_st hf
      have hj14 : ∀ (y12 : Int32) (H : Heap) (locs : List Loc) (ls : Array Slot) (b13 : y12 = 0 ∨ y12 = 1), lv_has ls 11 [(7, .int x11), (6, .int x7), (0, .ref (q 0)), (1, .int i_1), (2, .int i_2), (3, .int i_3), (4, .int i_4), (5, .int i_5)] → Wd Γ lo S (mcl Γ q M ++ Y) H → va_S (zA Γ) s.heap H locs → (∀ c, zV S c = zV S c) → j14 y12 = some y → W p l e (headSpec wsX10_setMode rmX10_setMode).room s m ([.ref (q 0), .int i_1, .int i_2, .int i_3, .int i_4, .int i_5] : List Value).toArray below meth c H locs 0 0 (MQ below (zQ0 Γ lo S S (mcl Γ q y.2 ++ Y) (some (.int y.1)) (y.1 = 0 ∨ y.1 = 1)) ([.ref (q 0), .int i_1, .int i_2, .int i_3, .int i_4, .int i_5] : List Value).toArray s 0 0 (zA Γ)) (F0 m 132 ls [.int y12]) := by
        intro y12 H locs ls b13 hl hW hS hm hf
        rw [ej14] at hf
        obtain ⟨x15, ex15, hf⟩ := op_st hf
        have bx15 : x15 = 0 ∨ x15 = 1 := by rw [ex15]; exact b13
        refine z_ist (lv' := [(8, .int x15), (7, .int x11), (6, .int x7), (0, .ref (q 0)), (1, .int i_1), (2, .int i_2), (3, .int i_3), (4, .int i_4), (5, .int i_5)]) ex15 hx hb dX10_setMode_132 hl (by decide) rfl (fun ls hl => ?_)
        refine lv_aload_n hx hb dX10_setMode_134 rfl (lv_at hl 3 rfl) ?_
        refine lv_iload hx hb dX10_setMode_135 (lv_at hl 2 rfl) ?_
        obtain ⟨j17, ej17, hf⟩ := op_st hf
        have hj17 : ∀ (y16 : Int32) (H : Heap) (locs : List Loc) (ls : Array Slot), lv_has ls 11 [(0, .ref (q 0)), (1, .int i_1), (2, .int i_2), (3, .int i_3), (4, .int i_4), (5, .int i_5)] → Wd Γ lo S (mcl Γ q M ++ Y) H → va_S (zA Γ) s.heap H locs → (∀ c, zV S c = zV S c) → j17 y16 = some y → W p l e (headSpec wsX10_setMode rmX10_setMode).room s m ([.ref (q 0), .int i_1, .int i_2, .int i_3, .int i_4, .int i_5] : List Value).toArray below meth c H locs 0 0 (MQ below (zQ0 Γ lo S S (mcl Γ q y.2 ++ Y) (some (.int y.1)) (y.1 = 0 ∨ y.1 = 1)) ([.ref (q 0), .int i_1, .int i_2, .int i_3, .int i_4, .int i_5] : List Value).toArray s 0 0 (zA Γ)) (F0 m 163 ls [.int y16, .ref (q 0)]) := by
          intro y16 H locs ls  hl hW hS hm hf
          rw [ej17] at hf
          obtain ⟨r18, M20, hc19, hf⟩ := op_cl2 hf
          refine z_callV (As := [.int y16]) (rest := []) ⟨hx, hb, hml, hown, hts⟩ (tX10_refused l Γ lo S q M Y  hc19) (cwV 1 hts gX10_setMode_X10_refused rfl rfl rfl (by decide +kernel) ⟨Nat.le_of_ble_eq_true rfl, Nat.le_of_ble_eq_true rfl⟩) (wd_x hW (k := 0) rfl) rfl hKK hW hS rfl hl.1 rfl (Nat.le_of_ble_eq_true rfl) dX10_setMode_163 ⟨Nat.zero_le _, Nat.zero_le _⟩ (fun H locs hW hS hm1 hE => ?_)
          have b21 := hE
          refine lv_if_eq (tgt := 171) hx hb dX10_setMode_166 (by decide) (fun k166 => ?_) (fun k166 => ?_)
          · have hf := (op_if hf).1 k166
            refine lv_iconst (v := (4)) hx hb dX10_setMode_171 (by decide) ?_
            refine lv_iload_n hx hb dX10_setMode_172 rfl (lv_at hl 1 rfl) ?_
            refine lv_imul hx hb dX10_setMode_173 ?_
            refine lv_iload_n hx hb dX10_setMode_174 rfl (lv_at hl 2 rfl) ?_
            refine lv_iadd hx hb dX10_setMode_175 ?_
            obtain ⟨x22, ex22, hf⟩ := op_st hf
            refine z_ist (lv' := [(9, .int x22), (0, .ref (q 0)), (1, .int i_1), (2, .int i_2), (3, .int i_3), (4, .int i_4), (5, .int i_5)]) ex22 hx hb dX10_setMode_176 hl (by decide) rfl (fun ls hl => ?_)
            refine lv_aload_n hx hb dX10_setMode_178 rfl (lv_at hl 1 rfl) ?_
            refine va_get hx hb hts ni_X10_setMode_X10 hown hKK.1 (wd_x hW (k := 0) rfl) 0 rfl rfl 17 (by decide) (hts (.fieldLink RX10 55 "TiltRouteModel" "begins" "[I") (List.mem_of_getElem? (i := 1) rfl)) (fun _ h => h) rfl dX10_setMode_179 ?_
            refine lv_iload hx hb dX10_setMode_182 (lv_at hl 0 rfl) ?_
            obtain ⟨h184, hf⟩ := op_gd hf
            refine va_iald hx hb hKK.1 (wd_x hW (k := 16) rfl) 0 0 (n := 24) rfl rfl h184 dX10_setMode_184 ?_
            refine lv_iconst (v := (-1)) hx hb dX10_setMode_185 (by decide) ?_
            obtain ⟨j25, ej25, hf⟩ := op_st hf
            have hj25 : ∀ (y23 : Int32) (H : Heap) (locs : List Loc) (ls : Array Slot) (b24 : y23 = 0 ∨ y23 = 1), lv_has ls 11 [(9, .int x22), (0, .ref (q 0)), (3, .int i_3), (4, .int i_4), (5, .int i_5)] → Wd Γ lo S (mcl Γ q M20 ++ Y) H → va_S (zA Γ) s.heap H locs → (∀ c, zV S c = zV S c) → j25 y23 = some y → W p l e (headSpec wsX10_setMode rmX10_setMode).room s m ([.ref (q 0), .int i_1, .int i_2, .int i_3, .int i_4, .int i_5] : List Value).toArray below meth c H locs 0 0 (MQ below (zQ0 Γ lo S S (mcl Γ q y.2 ++ Y) (some (.int y.1)) (y.1 = 0 ∨ y.1 = 1)) ([.ref (q 0), .int i_1, .int i_2, .int i_3, .int i_4, .int i_5] : List Value).toArray s 0 0 (zA Γ)) (F0 m 194 ls [.int y23]) := by
              intro y23 H locs ls b24 hl hW hS hm hf
              rw [ej25] at hf
              obtain ⟨x26, ex26, hf⟩ := op_st hf
              have bx26 : x26 = 0 ∨ x26 = 1 := by rw [ex26]; exact b24
              refine z_ist (lv' := [(10, .int x26), (9, .int x22), (0, .ref (q 0)), (3, .int i_3), (4, .int i_4), (5, .int i_5)]) ex26 hx hb dX10_setMode_194 hl (by decide) rfl (fun ls hl => ?_)
              refine lv_aload_n hx hb dX10_setMode_196 rfl (lv_at hl 2 rfl) ?_
              refine va_get hx hb hts ni_X10_setMode_X10 hown hKK.1 (wd_x hW (k := 0) rfl) 0 rfl rfl 17 (by decide) (hts (.fieldLink RX10 55 "TiltRouteModel" "begins" "[I") (List.mem_of_getElem? (i := 1) rfl)) (fun _ h => h) rfl dX10_setMode_197 ?_
              refine lv_iload hx hb dX10_setMode_200 (lv_at hl 1 rfl) ?_
              refine lv_iload_n hx hb dX10_setMode_202 rfl (lv_at hl 3 rfl) ?_
              refine lv_iconst (v := (-1)) hx hb dX10_setMode_203 (by decide) ?_
              obtain ⟨j28, ej28, hf⟩ := op_st hf
              have hj28 : ∀ (y27 : Int32) (H : Heap) (locs : List Loc) (ls : Array Slot), lv_has ls 11 [(10, .int x26), (9, .int x22), (0, .ref (q 0)), (3, .int i_3), (4, .int i_4), (5, .int i_5)] → Wd Γ lo S (mcl Γ q M20 ++ Y) H → va_S (zA Γ) s.heap H locs → (∀ c, zV S c = zV S c) → j28 y27 = some y → W p l e (headSpec wsX10_setMode rmX10_setMode).room s m ([.ref (q 0), .int i_1, .int i_2, .int i_3, .int i_4, .int i_5] : List Value).toArray below meth c H locs 0 0 (MQ below (zQ0 Γ lo S S (mcl Γ q y.2 ++ Y) (some (.int y.1)) (y.1 = 0 ∨ y.1 = 1)) ([.ref (q 0), .int i_1, .int i_2, .int i_3, .int i_4, .int i_5] : List Value).toArray s 0 0 (zA Γ)) (F0 m 215 ls [.int y27, .int x22, .ref (q 18)]) := by
                intro y27 H locs ls  hl hW hS hm hf
                rw [ej28] at hf
                obtain ⟨h215, hf⟩ := op_gd hf
                obtain ⟨M29, eM29, hf⟩ := op_st hf
                refine m_iast hx hb hKK.1 hW hS 17 16 24 rfl h215 eM29 (ms_17 Γ q _ Y _ _) dX10_setMode_215 (fun H locs hW hS => ?_)
                refine lv_aload_n hx hb dX10_setMode_216 rfl (lv_at hl 2 rfl) ?_
                refine va_get hx hb hts ni_X10_setMode_X10 hown hKK.1 (wd_x hW (k := 0) rfl) 0 rfl rfl 18 (by decide) (hts (.fieldLink RX10 58 "TiltRouteModel" "ends" "[I") (List.mem_of_getElem? (i := 2) rfl)) (fun _ h => h) rfl dX10_setMode_217 ?_
                refine lv_iload hx hb dX10_setMode_220 (lv_at hl 1 rfl) ?_
                refine lv_iload_n hx hb dX10_setMode_222 rfl (lv_at hl 3 rfl) ?_
                refine lv_iconst (v := (-1)) hx hb dX10_setMode_223 (by decide) ?_
                obtain ⟨j31, ej31, hf⟩ := op_st hf
                have hj31 : ∀ (y30 : Int32) (H : Heap) (locs : List Loc) (ls : Array Slot), lv_has ls 11 [(10, .int x26), (9, .int x22), (0, .ref (q 0)), (4, .int i_4), (5, .int i_5)] → Wd Γ lo S (mcl Γ q M29 ++ Y) H → va_S (zA Γ) s.heap H locs → (∀ c, zV S c = zV S c) → j31 y30 = some y → W p l e (headSpec wsX10_setMode rmX10_setMode).room s m ([.ref (q 0), .int i_1, .int i_2, .int i_3, .int i_4, .int i_5] : List Value).toArray below meth c H locs 0 0 (MQ below (zQ0 Γ lo S S (mcl Γ q y.2 ++ Y) (some (.int y.1)) (y.1 = 0 ∨ y.1 = 1)) ([.ref (q 0), .int i_1, .int i_2, .int i_3, .int i_4, .int i_5] : List Value).toArray s 0 0 (zA Γ)) (F0 m 235 ls [.int y30, .int x22, .ref (q 19)]) := by
                  intro y30 H locs ls  hl hW hS hm hf
                  rw [ej31] at hf
                  obtain ⟨h235, hf⟩ := op_gd hf
                  obtain ⟨M32, eM32, hf⟩ := op_st hf
                  refine m_iast hx hb hKK.1 hW hS 18 17 24 rfl h235 eM32 (ms_18 Γ q _ Y _ _) dX10_setMode_235 (fun H locs hW hS => ?_)
                  refine lv_aload_n hx hb dX10_setMode_236 rfl (lv_at hl 2 rfl) ?_
                  refine va_get hx hb hts ni_X10_setMode_X10 hown hKK.1 (wd_x hW (k := 0) rfl) 0 rfl rfl 19 (by decide) (hts (.fieldLink RX10 61 "TiltRouteModel" "limits" "[I") (List.mem_of_getElem? (i := 3) rfl)) (fun _ h => h) rfl dX10_setMode_237 ?_
                  refine lv_iload hx hb dX10_setMode_240 (lv_at hl 1 rfl) ?_
                  refine lv_iload hx hb dX10_setMode_242 (lv_at hl 3 rfl) ?_
                  refine lv_bipush (v := (100)) hx hb dX10_setMode_244 (by decide) ?_
                  refine lv_idiv hx hb dX10_setMode_246 (by decide) ?_
                  obtain ⟨h247, hf⟩ := op_gd hf
                  obtain ⟨M33, eM33, hf⟩ := op_st hf
                  refine m_iast hx hb hKK.1 hW hS 19 18 24 rfl h247 eM33 (ms_19 Γ q _ Y _ _) dX10_setMode_247 (fun H locs hW hS => ?_)
                  refine lv_aload_n hx hb dX10_setMode_248 rfl (lv_at hl 2 rfl) ?_
                  refine va_get hx hb hts ni_X10_setMode_X10 hown hKK.1 (wd_x hW (k := 0) rfl) 0 rfl rfl 20 (by decide) (hts (.fieldLink RX10 64 "TiltRouteModel" "times" "[I") (List.mem_of_getElem? (i := 4) rfl)) (fun _ h => h) rfl dX10_setMode_249 ?_
                  refine lv_iload hx hb dX10_setMode_252 (lv_at hl 1 rfl) ?_
                  refine lv_iload hx hb dX10_setMode_254 (lv_at hl 3 rfl) ?_
                  refine lv_bipush (v := (100)) hx hb dX10_setMode_256 (by decide) ?_
                  refine lv_irem hx hb dX10_setMode_258 (by decide) ?_
                  obtain ⟨h259, hf⟩ := op_gd hf
                  obtain ⟨M34, eM34, hf⟩ := op_st hf
                  refine m_iast hx hb hKK.1 hW hS 20 19 24 rfl h259 eM34 (ms_20 Γ q _ Y _ _) dX10_setMode_259 (fun H locs hW hS => ?_)
                  refine lv_aload_n hx hb dX10_setMode_260 rfl (lv_at hl 2 rfl) ?_
                  refine va_get hx hb hts ni_X10_setMode_X10 hown hKK.1 (wd_x hW (k := 0) rfl) 0 rfl rfl 21 (by decide) (hts (.fieldLink RX10 67 "TiltRouteModel" "bonuses" "[I") (List.mem_of_getElem? (i := 5) rfl)) (fun _ h => h) rfl dX10_setMode_261 ?_
                  refine lv_iload hx hb dX10_setMode_264 (lv_at hl 1 rfl) ?_
                  refine lv_iload hx hb dX10_setMode_266 (lv_at hl 4 rfl) ?_
                  obtain ⟨h268, hf⟩ := op_gd hf
                  obtain ⟨M35, eM35, hf⟩ := op_st hf
                  refine m_iast hx hb hKK.1 hW hS 21 20 24 rfl h268 eM35 (ms_21 Γ q _ Y _ _) dX10_setMode_268 (fun H locs hW hS => ?_)
                  refine lv_iload hx hb dX10_setMode_269 (lv_at hl 0 rfl) ?_
                  have hf := Option.some.inj hf
                  rw [← hf]
                  exact z_iret hx hb hr hlocks (z_bb bx26) hW hS hm bx26 dX10_setMode_271
                refine lv_icmp_ne (tgt := 231) hx hb dX10_setMode_224 (by decide) (fun k224 => ?_) (fun k224 => ?_)
                · have hf := (op_if hf).2 k224
                  refine lv_iload_n hx hb dX10_setMode_231 rfl (lv_at hl 3 rfl) ?_
                  refine lv_bipush (v := (10)) hx hb dX10_setMode_232 (by decide) ?_
                  refine lv_irem hx hb dX10_setMode_234 (by decide) ?_
                  exact hj31 (i_3 - i_3 / (10 : Int32) * (10 : Int32)) H locs ls  (lv_sub hl [0, 1, 2, 4, 5] rfl) hW hS hm hf
                · have hf := (op_if hf).1 k224
                  refine lv_iconst (v := (0)) hx hb dX10_setMode_227 (by decide) ?_
                  refine lv_goto (tgt := 235) hx hb dX10_setMode_228 (by decide) ?_
                  exact hj31 (0 : Int32) H locs ls  (lv_sub hl [0, 1, 2, 4, 5] rfl) hW hS hm hf
              refine lv_icmp_ne (tgt := 211) hx hb dX10_setMode_204 (by decide) (fun k204 => ?_) (fun k204 => ?_)
              · have hf := (op_if hf).2 k204
                refine lv_iload_n hx hb dX10_setMode_211 rfl (lv_at hl 3 rfl) ?_
                refine lv_bipush (v := (10)) hx hb dX10_setMode_212 (by decide) ?_
                refine lv_idiv hx hb dX10_setMode_214 (by decide) ?_
                exact hj28 (i_3 / (10 : Int32)) H locs ls  (lv_sub hl [0, 1, 2, 3, 4, 5] rfl) hW hS hm hf
              · have hf := (op_if hf).1 k204
                refine lv_iconst (v := (-1)) hx hb dX10_setMode_207 (by decide) ?_
                refine lv_goto (tgt := 215) hx hb dX10_setMode_208 (by decide) ?_
                exact hj28 (-1 : Int32) H locs ls  (lv_sub hl [0, 1, 2, 3, 4, 5] rfl) hW hS hm hf
            refine lv_icmp_eq (tgt := 193) hx hb dX10_setMode_186 (by decide) (fun k186 => ?_) (fun k186 => ?_)
            · have hf := (op_if hf).1 k186
              refine lv_iconst (v := (0)) hx hb dX10_setMode_193 (by decide) ?_
              exact hj25 (0 : Int32) H locs ls (Or.inl rfl) (lv_sub hl [0, 1, 4, 5, 6] rfl) hW hS hm hf
            · have hf := (op_if hf).2 k186
              refine lv_iconst (v := (1)) hx hb dX10_setMode_189 (by decide) ?_
              refine lv_goto (tgt := 194) hx hb dX10_setMode_190 (by decide) ?_
              exact hj25 (1 : Int32) H locs ls (Or.inr rfl) (lv_sub hl [0, 1, 4, 5, 6] rfl) hW hS hm hf
          · have hf := (op_if hf).2 k166
            refine lv_iconst (v := (0)) hx hb dX10_setMode_169 (by decide) ?_
            have hf := Option.some.inj hf
            rw [← hf]
            exact z_iret hx hb hr hlocks (z_bb (Or.inl rfl)) hW hS hm (Or.inl rfl) dX10_setMode_170
        refine lv_if_ne (tgt := 144) hx hb dX10_setMode_137 (by decide) (fun k137 => ?_) (fun k137 => ?_)
        · have hf := (op_if hf).2 k137
          refine lv_iload hx hb dX10_setMode_144 (lv_at hl 1 rfl) ?_
          refine lv_if_ne (tgt := 153) hx hb dX10_setMode_146 (by decide) (fun k146 => ?_) (fun k146 => ?_)
          · have hf := (op_if hf).2 k146
            refine lv_iload hx hb dX10_setMode_153 (lv_at hl 0 rfl) ?_
            refine lv_if_eq (tgt := 162) hx hb dX10_setMode_155 (by decide) (fun k155 => ?_) (fun k155 => ?_)
            · have hf := (op_if hf).1 k155
              refine lv_iconst (v := (3)) hx hb dX10_setMode_162 (by decide) ?_
              exact hj17 (3 : Int32) H locs ls  (lv_sub hl [3, 4, 5, 6, 7, 8] rfl) hW hS hm hf
            · have hf := (op_if hf).2 k155
              refine lv_iconst (v := (0)) hx hb dX10_setMode_158 (by decide) ?_
              refine lv_goto (tgt := 163) hx hb dX10_setMode_159 (by decide) ?_
              exact hj17 (0 : Int32) H locs ls  (lv_sub hl [3, 4, 5, 6, 7, 8] rfl) hW hS hm hf
          · have hf := (op_if hf).1 k146
            refine lv_iconst (v := (2)) hx hb dX10_setMode_149 (by decide) ?_
            refine lv_goto (tgt := 163) hx hb dX10_setMode_150 (by decide) ?_
            exact hj17 (2 : Int32) H locs ls  (lv_sub hl [3, 4, 5, 6, 7, 8] rfl) hW hS hm hf
        · have hf := (op_if hf).1 k137
          refine lv_iconst (v := (1)) hx hb dX10_setMode_140 (by decide) ?_
          refine lv_goto (tgt := 163) hx hb dX10_setMode_141 (by decide) ?_
          exact hj17 (1 : Int32) H locs ls  (lv_sub hl [3, 4, 5, 6, 7, 8] rfl) hW hS hm hf
      obtain ⟨j36, ej36, hf⟩ := op_st hf
      have hj36 : ∀ (u_ : Unit) (H : Heap) (locs : List Loc) (ls : Array Slot), lv_has ls 11 [(7, .int x11), (6, .int x7), (0, .ref (q 0)), (1, .int i_1), (2, .int i_2), (3, .int i_3), (4, .int i_4), (5, .int i_5)] → Wd Γ lo S (mcl Γ q M ++ Y) H → va_S (zA Γ) s.heap H locs → (∀ c, zV S c = zV S c) → j36 () = some y → W p l e (headSpec wsX10_setMode rmX10_setMode).room s m ([.ref (q 0), .int i_1, .int i_2, .int i_3, .int i_4, .int i_5] : List Value).toArray below meth c H locs 0 0 (MQ below (zQ0 Γ lo S S (mcl Γ q y.2 ++ Y) (some (.int y.1)) (y.1 = 0 ∨ y.1 = 1)) ([.ref (q 0), .int i_1, .int i_2, .int i_3, .int i_4, .int i_5] : List Value).toArray s 0 0 (zA Γ)) (F0 m 131 ls []) := by
        intro u_ H locs ls  hl hW hS hm hf
        rw [ej36] at hf
        refine lv_iconst (v := (0)) hx hb dX10_setMode_131 (by decide) ?_
        exact hj14 (0 : Int32) H locs ls (Or.inl rfl) (lv_sub hl [0, 1, 2, 3, 4, 5, 6, 7] rfl) hW hS hm hf
      refine lv_if_eq (tgt := 131) hx hb dX10_setMode_111 (by decide) (fun k111 => ?_) (fun k111 => ?_)
      · have hf := (op_if hf).1 k111
        exact hj36 () H locs ls  (lv_sub hl [0, 1, 2, 3, 4, 5, 6, 7] rfl) hW hS hm hf
      · have hf := (op_if hf).2 k111
        refine lv_iload hx hb dX10_setMode_114 (lv_at hl 0 rfl) ?_
        refine lv_if_eq (tgt := 131) hx hb dX10_setMode_116 (by decide) (fun k116 => ?_) (fun k116 => ?_)
        · have hf := (op_if hf).1 k116
          exact hj36 () H locs ls  (lv_sub hl [0, 1, 2, 3, 4, 5, 6, 7] rfl) hW hS hm hf
        · have hf := (op_if hf).2 k116
          refine lv_aload_n hx hb dX10_setMode_119 rfl (lv_at hl 2 rfl) ?_
          refine lv_iload_n hx hb dX10_setMode_120 rfl (lv_at hl 3 rfl) ?_
          obtain ⟨r37, hc38, hf⟩ := op_cl hf
          refine z_callV (As := [.int i_1]) (rest := []) ⟨hx, hb, hml, hown, hts⟩ (tX10_isFree l Γ lo S q M Y  hc38) (cwV 1 hts gX10_setMode_X10_isFree rfl rfl rfl (by decide +kernel) ⟨Nat.le_of_ble_eq_true rfl, Nat.le_of_ble_eq_true rfl⟩) (wd_x hW (k := 0) rfl) rfl hKK hW hS rfl hl.1 rfl (Nat.le_of_ble_eq_true rfl) dX10_setMode_121 ⟨Nat.zero_le _, Nat.zero_le _⟩ (fun H locs hW hS hm1 hE => ?_)
          have b39 := hE
          refine lv_if_eq (tgt := 131) hx hb dX10_setMode_124 (by decide) (fun k124 => ?_) (fun k124 => ?_)
          · have hf := (op_if hf).1 k124
            exact hj36 () H locs ls  (lv_sub hl [0, 1, 2, 3, 4, 5, 6, 7] rfl) hW hS hm hf
          · have hf := (op_if hf).2 k124
            refine lv_iconst (v := (1)) hx hb dX10_setMode_127 (by decide) ?_
            refine lv_goto (tgt := 132) hx hb dX10_setMode_128 (by decide) ?_
            exact hj14 (1 : Int32) H locs ls (Or.inr rfl) (lv_sub hl [0, 1, 2, 3, 4, 5, 6, 7] rfl) hW hS hm hf
    obtain ⟨j40, ej40, hf⟩ := op_st hf
    have hj40 : ∀ (u_ : Unit) (H : Heap) (locs : List Loc) (ls : Array Slot), lv_has ls 11 [(6, .int x7), (0, .ref (q 0)), (1, .int i_1), (2, .int i_2), (3, .int i_3), (4, .int i_4), (5, .int i_5)] → Wd Γ lo S (mcl Γ q M ++ Y) H → va_S (zA Γ) s.heap H locs → (∀ c, zV S c = zV S c) → j40 () = some y → W p l e (headSpec wsX10_setMode rmX10_setMode).room s m ([.ref (q 0), .int i_1, .int i_2, .int i_3, .int i_4, .int i_5] : List Value).toArray below meth c H locs 0 0 (MQ below (zQ0 Γ lo S S (mcl Γ q y.2 ++ Y) (some (.int y.1)) (y.1 = 0 ∨ y.1 = 1)) ([.ref (q 0), .int i_1, .int i_2, .int i_3, .int i_4, .int i_5] : List Value).toArray s 0 0 (zA Γ)) (F0 m 106 ls []) := by
      intro u_ H locs ls  hl hW hS hm hf
      rw [ej40] at hf
      refine lv_iconst (v := (0)) hx hb dX10_setMode_106 (by decide) ?_
      exact hj10 (0 : Int32) H locs ls (Or.inl rfl) (lv_sub hl [0, 1, 2, 3, 4, 5, 6] rfl) hW hS hm hf
    refine lv_icmp_lt (tgt := 106) hx hb dX10_setMode_54 (by decide) (fun k54 => ?_) (fun k54 => ?_)
    · have hf := (op_if hf).1 k54
      exact hj40 () H locs ls  (lv_sub hl [0, 1, 2, 3, 4, 5, 6] rfl) hW hS hm hf
    · have hf := (op_if hf).2 k54
      refine lv_iload hx hb dX10_setMode_57 (lv_at hl 5 rfl) ?_
      refine lv_if_lt (tgt := 106) hx hb dX10_setMode_59 (by decide) (fun k59 => ?_) (fun k59 => ?_)
      · have hf := (op_if hf).1 k59
        exact hj40 () H locs ls  (lv_sub hl [0, 1, 2, 3, 4, 5, 6] rfl) hW hS hm hf
      · have hf := (op_if hf).2 k59
        refine lv_iload hx hb dX10_setMode_62 (lv_at hl 5 rfl) ?_
        refine lv_bipush (v := (100)) hx hb dX10_setMode_64 (by decide) ?_
        refine lv_idiv hx hb dX10_setMode_66 (by decide) ?_
        refine lv_iconst (v := (1)) hx hb dX10_setMode_67 (by decide) ?_
        refine lv_bipush (v := (20)) hx hb dX10_setMode_68 (by decide) ?_
        obtain ⟨r41, hc42, hf⟩ := op_cl hf
        refine z_callS (As := [.int (i_4 / (100 : Int32)), .int (1 : Int32), .int (20 : Int32)]) (rest := []) ⟨hx, hb, hml, hown, hts⟩ (tX10_in l Γ lo S q M Y  hc42) (va_cwS 3 hts gX10_setMode_X10_in rfl rfl rfl (by decide +kernel) ⟨Nat.le_of_ble_eq_true rfl, Nat.le_of_ble_eq_true rfl⟩) hKK hW hS rfl hl.1 rfl (Nat.le_of_ble_eq_true rfl) dX10_setMode_70 ⟨Nat.zero_le _, Nat.zero_le _⟩ (fun H locs hW hS hm1 hE => ?_)
        have b43 := hE
        refine lv_if_eq (tgt := 106) hx hb dX10_setMode_73 (by decide) (fun k73 => ?_) (fun k73 => ?_)
        · have hf := (op_if hf).1 k73
          exact hj40 () H locs ls  (lv_sub hl [0, 1, 2, 3, 4, 5, 6] rfl) hW hS hm hf
        · have hf := (op_if hf).2 k73
          refine lv_iload hx hb dX10_setMode_76 (lv_at hl 5 rfl) ?_
          refine lv_bipush (v := (100)) hx hb dX10_setMode_78 (by decide) ?_
          refine lv_irem hx hb dX10_setMode_80 (by decide) ?_
          refine lv_iconst (v := (2)) hx hb dX10_setMode_81 (by decide) ?_
          refine lv_bipush (v := (9)) hx hb dX10_setMode_82 (by decide) ?_
          obtain ⟨r44, hc45, hf⟩ := op_cl hf
          refine z_callS (As := [.int (i_4 - i_4 / (100 : Int32) * (100 : Int32)), .int (2 : Int32), .int (9 : Int32)]) (rest := []) ⟨hx, hb, hml, hown, hts⟩ (tX10_in l Γ lo S q M Y  hc45) (va_cwS 3 hts gX10_setMode_X10_in rfl rfl rfl (by decide +kernel) ⟨Nat.le_of_ble_eq_true rfl, Nat.le_of_ble_eq_true rfl⟩) hKK hW hS rfl hl.1 rfl (Nat.le_of_ble_eq_true rfl) dX10_setMode_84 ⟨Nat.zero_le _, Nat.zero_le _⟩ (fun H locs hW hS hm1 hE => ?_)
          have b46 := hE
          refine lv_if_eq (tgt := 106) hx hb dX10_setMode_87 (by decide) (fun k87 => ?_) (fun k87 => ?_)
          · have hf := (op_if hf).1 k87
            exact hj40 () H locs ls  (lv_sub hl [0, 1, 2, 3, 4, 5, 6] rfl) hW hS hm hf
          · have hf := (op_if hf).2 k87
            refine lv_iload hx hb dX10_setMode_90 (lv_at hl 6 rfl) ?_
            refine lv_iconst (v := (0)) hx hb dX10_setMode_92 (by decide) ?_
            refine lv_sipush (v := (5000)) hx hb dX10_setMode_93 (by decide) ?_
            obtain ⟨r47, hc48, hf⟩ := op_cl hf
            refine z_callS (As := [.int i_5, .int (0 : Int32), .int (5000 : Int32)]) (rest := []) ⟨hx, hb, hml, hown, hts⟩ (tX10_in l Γ lo S q M Y  hc48) (va_cwS 3 hts gX10_setMode_X10_in rfl rfl rfl (by decide +kernel) ⟨Nat.le_of_ble_eq_true rfl, Nat.le_of_ble_eq_true rfl⟩) hKK hW hS rfl hl.1 rfl (Nat.le_of_ble_eq_true rfl) dX10_setMode_96 ⟨Nat.zero_le _, Nat.zero_le _⟩ (fun H locs hW hS hm1 hE => ?_)
            have b49 := hE
            refine lv_if_eq (tgt := 106) hx hb dX10_setMode_99 (by decide) (fun k99 => ?_) (fun k99 => ?_)
            · have hf := (op_if hf).1 k99
              exact hj40 () H locs ls  (lv_sub hl [0, 1, 2, 3, 4, 5, 6] rfl) hW hS hm hf
            · have hf := (op_if hf).2 k99
              refine lv_iconst (v := (1)) hx hb dX10_setMode_102 (by decide) ?_
              refine lv_goto (tgt := 107) hx hb dX10_setMode_103 (by decide) ?_
              exact hj10 (1 : Int32) H locs ls (Or.inr rfl) (lv_sub hl [0, 1, 2, 3, 4, 5, 6] rfl) hW hS hm hf
  obtain ⟨j50, ej50, hf⟩ := op_st hf
  have hj50 : ∀ (u_ : Unit) (H : Heap) (locs : List Loc) (ls : Array Slot), lv_has ls 11 [(0, .ref (q 0)), (1, .int i_1), (2, .int i_2), (3, .int i_3), (4, .int i_4), (5, .int i_5)] → Wd Γ lo S (mcl Γ q M ++ Y) H → va_S (zA Γ) s.heap H locs → (∀ c, zV S c = zV S c) → j50 () = some y → W p l e (headSpec wsX10_setMode rmX10_setMode).room s m ([.ref (q 0), .int i_1, .int i_2, .int i_3, .int i_4, .int i_5] : List Value).toArray below meth c H locs 0 0 (MQ below (zQ0 Γ lo S S (mcl Γ q y.2 ++ Y) (some (.int y.1)) (y.1 = 0 ∨ y.1 = 1)) ([.ref (q 0), .int i_1, .int i_2, .int i_3, .int i_4, .int i_5] : List Value).toArray s 0 0 (zA Γ)) (F0 m 49 ls []) := by
    intro u_ H locs ls  hl hW hS hm hf
    rw [ej50] at hf
    refine lv_iconst (v := (0)) hx hb dX10_setMode_49 (by decide) ?_
    exact hj6 (0 : Int32) H locs ls (Or.inl rfl) (lv_sub hl [0, 1, 2, 3, 4, 5] rfl) hW hS hm hf
  refine lv_if_eq (tgt := 49) hx hb dX10_setMode_5 (by decide) (fun k5 => ?_) (fun k5 => ?_)
  · have hf := (op_if hf).1 k5
    exact hj50 () H locs ls  (lv_sub hl [0, 1, 2, 3, 4, 5] rfl) hW hS hm hf
  · have hf := (op_if hf).2 k5
    refine lv_iload_n hx hb dX10_setMode_8 rfl (lv_at hl 2 rfl) ?_
    refine lv_iconst (v := (0)) hx hb dX10_setMode_9 (by decide) ?_
    refine lv_iconst (v := (3)) hx hb dX10_setMode_10 (by decide) ?_
    obtain ⟨r51, hc52, hf⟩ := op_cl hf
    refine z_callS (As := [.int i_2, .int (0 : Int32), .int (3 : Int32)]) (rest := []) ⟨hx, hb, hml, hown, hts⟩ (tX10_in l Γ lo S q M Y  hc52) (va_cwS 3 hts gX10_setMode_X10_in rfl rfl rfl (by decide +kernel) ⟨Nat.le_of_ble_eq_true rfl, Nat.le_of_ble_eq_true rfl⟩) hKK hW hS rfl hl.1 rfl (Nat.le_of_ble_eq_true rfl) dX10_setMode_11 ⟨Nat.zero_le _, Nat.zero_le _⟩ (fun H locs hW hS hm1 hE => ?_)
    have b53 := hE
    refine lv_if_eq (tgt := 49) hx hb dX10_setMode_14 (by decide) (fun k14 => ?_) (fun k14 => ?_)
    · have hf := (op_if hf).1 k14
      exact hj50 () H locs ls  (lv_sub hl [0, 1, 2, 3, 4, 5] rfl) hW hS hm hf
    · have hf := (op_if hf).2 k14
      refine lv_iload_n hx hb dX10_setMode_17 rfl (lv_at hl 3 rfl) ?_
      obtain ⟨j54, ej54, hf⟩ := op_st hf
      have hj54 : ∀ (u_ : Unit) (H : Heap) (locs : List Loc) (ls : Array Slot), lv_has ls 11 [(0, .ref (q 0)), (1, .int i_1), (2, .int i_2), (3, .int i_3), (4, .int i_4), (5, .int i_5)] → Wd Γ lo S (mcl Γ q M ++ Y) H → va_S (zA Γ) s.heap H locs → (∀ c, zV S c = zV S c) → j54 () = some y → W p l e (headSpec wsX10_setMode rmX10_setMode).room s m ([.ref (q 0), .int i_1, .int i_2, .int i_3, .int i_4, .int i_5] : List Value).toArray below meth c H locs 0 0 (MQ below (zQ0 Γ lo S S (mcl Γ q y.2 ++ Y) (some (.int y.1)) (y.1 = 0 ∨ y.1 = 1)) ([.ref (q 0), .int i_1, .int i_2, .int i_3, .int i_4, .int i_5] : List Value).toArray s 0 0 (zA Γ)) (F0 m 45 ls []) := by
        intro u_ H locs ls  hl hW hS hm hf
        rw [ej54] at hf
        refine lv_iconst (v := (1)) hx hb dX10_setMode_45 (by decide) ?_
        refine lv_goto (tgt := 50) hx hb dX10_setMode_46 (by decide) ?_
        exact hj6 (1 : Int32) H locs ls (Or.inr rfl) (lv_sub hl [0, 1, 2, 3, 4, 5] rfl) hW hS hm hf
      refine lv_if_lt (tgt := 45) hx hb dX10_setMode_18 (by decide) (fun k18 => ?_) (fun k18 => ?_)
      · have hf := (op_if hf).1 k18
        exact hj54 () H locs ls  (lv_sub hl [0, 1, 2, 3, 4, 5] rfl) hW hS hm hf
      · have hf := (op_if hf).2 k18
        refine lv_aload_n hx hb dX10_setMode_21 rfl (lv_at hl 0 rfl) ?_
        refine lv_iload_n hx hb dX10_setMode_22 rfl (lv_at hl 1 rfl) ?_
        refine lv_iload_n hx hb dX10_setMode_23 rfl (lv_at hl 3 rfl) ?_
        refine lv_bipush (v := (10)) hx hb dX10_setMode_24 (by decide) ?_
        refine lv_idiv hx hb dX10_setMode_26 (by decide) ?_
        obtain ⟨r55, hc56, hf⟩ := op_cl hf
        refine z_callV (As := [.int i_1, .int (i_3 / (10 : Int32))]) (rest := []) ⟨hx, hb, hml, hown, hts⟩ (tX10_isSwitch l Γ lo S q M Y  hc56) (cwV 2 hts gX10_setMode_X10_isSwitch rfl rfl rfl (by decide +kernel) ⟨Nat.le_of_ble_eq_true rfl, Nat.le_of_ble_eq_true rfl⟩) (wd_x hW (k := 0) rfl) rfl hKK hW hS rfl hl.1 rfl (Nat.le_of_ble_eq_true rfl) dX10_setMode_27 ⟨Nat.zero_le _, Nat.zero_le _⟩ (fun H locs hW hS hm1 hE => ?_)
        have b57 := hE
        refine lv_if_eq (tgt := 49) hx hb dX10_setMode_30 (by decide) (fun k30 => ?_) (fun k30 => ?_)
        · have hf := (op_if hf).1 k30
          exact hj50 () H locs ls  (lv_sub hl [0, 1, 2, 3, 4, 5] rfl) hW hS hm hf
        · have hf := (op_if hf).2 k30
          refine lv_aload_n hx hb dX10_setMode_33 rfl (lv_at hl 0 rfl) ?_
          refine lv_iload_n hx hb dX10_setMode_34 rfl (lv_at hl 1 rfl) ?_
          refine lv_iload_n hx hb dX10_setMode_35 rfl (lv_at hl 3 rfl) ?_
          refine lv_bipush (v := (10)) hx hb dX10_setMode_36 (by decide) ?_
          refine lv_irem hx hb dX10_setMode_38 (by decide) ?_
          obtain ⟨r58, hc59, hf⟩ := op_cl hf
          refine z_callV (As := [.int i_1, .int (i_3 - i_3 / (10 : Int32) * (10 : Int32))]) (rest := []) ⟨hx, hb, hml, hown, hts⟩ (tX10_isSwitch l Γ lo S q M Y  hc59) (cwV 2 hts gX10_setMode_X10_isSwitch rfl rfl rfl (by decide +kernel) ⟨Nat.le_of_ble_eq_true rfl, Nat.le_of_ble_eq_true rfl⟩) (wd_x hW (k := 0) rfl) rfl hKK hW hS rfl hl.1 rfl (Nat.le_of_ble_eq_true rfl) dX10_setMode_39 ⟨Nat.zero_le _, Nat.zero_le _⟩ (fun H locs hW hS hm1 hE => ?_)
          have b60 := hE
          refine lv_if_eq (tgt := 49) hx hb dX10_setMode_42 (by decide) (fun k42 => ?_) (fun k42 => ?_)
          · have hf := (op_if hf).1 k42
            exact hj50 () H locs ls  (lv_sub hl [0, 1, 2, 3, 4, 5] rfl) hW hS hm hf
          · have hf := (op_if hf).2 k42
            exact hj54 () H locs ls  (lv_sub hl [0, 1, 2, 3, 4, 5] rfl) hW hS hm hf

theorem ni_X10_tables_X10 : ∀ w ∈ wsX100, w ∈ wsX10_tables := by decide +kernel
def fX10_tables (M : zMs)  : Option (Int32 × zMs) :=
cl2 (fX10_fine M (M 1 0)) fun r1 M3 =>
some ((r1, M3))
abbrev rmX10_tables : Room := { frames := 1, cells := 0, slots := 0, locals := 21 }
set_option maxHeartbeats 4000000 in
set_option maxRecDepth 100000 in
theorem tX10_tables (l : Launch) (Γ : zG) (lo : zId → Nat) (S : zSt) (q : Nat → Nat) (M : zMs) (Y : va_W)   {y : (Int32 × zMs)} (hf : fX10_tables M  = some y) : Met l yX10_tables wsX10_tables rmX10_tables (zP0 Γ lo S (mcl Γ q M ++ Y) [.ref (q 0)]) (zQ0 Γ lo S S (mcl Γ q y.2 ++ Y) (some (.int y.1)) True) 0 0 (zA Γ) := by
  refine Met.ofW (cc := cX10_tables) (maxL := 1) (ret := (some .int)) (by decide) rfl ?_
  intro p e s m args below meth c s₁ B hml hv
  obtain ⟨rfl, hW, hKK⟩ := hv
  have hx := B.exec
  have hb := B.bytes
  have hr := B.returns
  have hts := atoms_spec (ws := wsX10_tables) B.pre
  have hown : s.vm.findClass RX10 = some m.cls := findClass_of_methodNamed B.named
  have hlocks := B.notSynchronized
  have hS : va_S (zA Γ) s.heap s.heap [] := va_S.rf
  have hm : ∀ c, zV S c = zV S c := fun _ => rfl
  have hl := lv_entry ([.ref (q 0)]) (n := 1) (Nat.le_of_ble_eq_true rfl)
  rw [lg_entry_eq]
  generalize (lg_sl ([.ref (q 0)]) ++ List.replicate (1 - (lg_sl ([.ref (q 0)])).length) Slot.unset).toArray = ls at hl ⊢
  have hl : lv_has ls 1 [(0, .ref (q 0))] := hl
  obtain ⟨H, hH0⟩ : ∃ H, H = s.heap := ⟨_, rfl⟩
  obtain ⟨locs, hlo0⟩ : ∃ L : List Loc, L = [] := ⟨_, rfl⟩
  have hS : va_S (zA Γ) s.heap H locs := by rw [hH0, hlo0]; exact hS
  have hW : Wd Γ lo S (mcl Γ q M ++ Y) H := by rw [hH0]; exact hW
  rw [← hH0, ← hlo0]
  unfold fX10_tables at hf
  refine lv_aload_n hx hb dX10_tables_0 rfl (lv_at hl 0 rfl) ?_
  refine lv_aload_n hx hb dX10_tables_1 rfl (lv_at hl 0 rfl) ?_
  refine va_get hx hb hts ni_X10_tables_X10 hown hKK.1 (wd_x hW (k := 0) rfl) 0 rfl rfl 1 (by decide) (hts (.fieldLink RX10 154 "TiltRouteModel" "tables" "I") (List.mem_of_getElem? (i := 1) rfl)) (fun _ h => h) rfl dX10_tables_2 ?_
  obtain ⟨r1, M3, hc2, hf⟩ := op_cl2 hf
  refine z_callV (As := [.int (M 1 0)]) (rest := []) ⟨hx, hb, hml, hown, hts⟩ (tX10_fine l Γ lo S q M Y  hc2) (cwV 1 hts gX10_tables_X10_fine rfl rfl rfl (by decide +kernel) ⟨Nat.le_of_ble_eq_true rfl, Nat.le_of_ble_eq_true rfl⟩) (wd_x hW (k := 0) rfl) rfl hKK hW hS rfl hl.1 rfl (Nat.le_of_ble_eq_true rfl) dX10_tables_5 ⟨Nat.zero_le _, Nat.zero_le _⟩ (fun H locs hW hS hm1 hE => ?_)
  have hf := Option.some.inj hf
  rw [← hf]
  exact z_iret hx hb hr hlocks rfl hW hS hm trivial dX10_tables_8

theorem ni_X10_stick_X10 : ∀ w ∈ wsX100, w ∈ wsX10_stick := by decide +kernel
def fX10_stick (M : zMs) (i_1 : Int32) (i_2 : Int32) : Option (Int32 × zMs) :=
cl (fX10_isSwitch M i_1 i_2) fun r1 =>
st r1 fun x4 =>
st (fun (y5 : Int32) => (st y5 fun x8 =>
st (fun (y9 : Int32) => (cl2 (fX10_refused M y9) fun r11 M13 =>
if r11 = 0 then
gd (¬ ((((8 : Int32) * i_1) + i_2) < 0 ∨ 48 ≤ (((8 : Int32) * i_1) + i_2).toNatClampNeg)) (
st (pM M13 16 (((8 : Int32) * i_1) + i_2).toNatClampNeg (M13 22 0)) fun M15 =>
st (pM M15 22 0 ((M15 22 0) + (1 : Int32))) fun M16 =>
some ((((M16 22 0) - (1 : Int32)), M16)))
else
some (((0 : Int32), M13)) : Option (Int32 × zMs))) fun j10 =>
if x4 = 0 then
j10 (1 : Int32)
else
if x8 = 0 then
j10 (2 : Int32)
else
j10 (0 : Int32) : Option (Int32 × zMs))) fun j7 =>
st (fun (u_ : Unit) => (j7 (0 : Int32) : Option (Int32 × zMs))) fun j17 =>
if x4 = 0 then
j17 ()
else
gd (¬ ((((8 : Int32) * i_1) + i_2) < 0 ∨ 48 ≤ (((8 : Int32) * i_1) + i_2).toNatClampNeg)) (
if (M 16 (((8 : Int32) * i_1) + i_2).toNatClampNeg) = (-1 : Int32) then
if (60 : Int32) ≤ (M 22 0) then
j17 ()
else
j7 (1 : Int32)
else
j17 ())
abbrev rmX10_stick : Room := { frames := 3, cells := 0, slots := 0, locals := 65 }
set_option maxHeartbeats 4000000 in
set_option maxRecDepth 100000 in
theorem tX10_stick (l : Launch) (Γ : zG) (lo : zId → Nat) (S : zSt) (q : Nat → Nat) (M : zMs) (Y : va_W) {i_1 : Int32} {i_2 : Int32}  {y : (Int32 × zMs)} (hf : fX10_stick M i_1 i_2 = some y) : Met l yX10_stick wsX10_stick rmX10_stick (zP0 Γ lo S (mcl Γ q M ++ Y) [.ref (q 0), .int i_1, .int i_2]) (zQ0 Γ lo S S (mcl Γ q y.2 ++ Y) (some (.int y.1)) True) 0 0 (zA Γ) := by
  refine Met.ofW (cc := cX10_stick) (maxL := 5) (ret := (some .int)) (by decide) rfl ?_
  intro p e s m args below meth c s₁ B hml hv
  obtain ⟨rfl, hW, hKK⟩ := hv
  have hx := B.exec
  have hb := B.bytes
  have hr := B.returns
  have hts := atoms_spec (ws := wsX10_stick) B.pre
  have hown : s.vm.findClass RX10 = some m.cls := findClass_of_methodNamed B.named
  have hlocks := B.notSynchronized
  have hS : va_S (zA Γ) s.heap s.heap [] := va_S.rf
  have hm : ∀ c, zV S c = zV S c := fun _ => rfl
  have hl := lv_entry ([.ref (q 0), .int i_1, .int i_2]) (n := 5) (Nat.le_of_ble_eq_true rfl)
  rw [lg_entry_eq]
  generalize (lg_sl ([.ref (q 0), .int i_1, .int i_2]) ++ List.replicate (5 - (lg_sl ([.ref (q 0), .int i_1, .int i_2])).length) Slot.unset).toArray = ls at hl ⊢
  have hl : lv_has ls 5 [(0, .ref (q 0)), (1, .int i_1), (2, .int i_2)] := hl
  obtain ⟨H, hH0⟩ : ∃ H, H = s.heap := ⟨_, rfl⟩
  obtain ⟨locs, hlo0⟩ : ∃ L : List Loc, L = [] := ⟨_, rfl⟩
  have hS : va_S (zA Γ) s.heap H locs := by rw [hH0, hlo0]; exact hS
  have hW : Wd Γ lo S (mcl Γ q M ++ Y) H := by rw [hH0]; exact hW
  rw [← hH0, ← hlo0]
  unfold fX10_stick at hf
  refine lv_aload_n hx hb dX10_stick_0 rfl (lv_at hl 0 rfl) ?_
  refine lv_iload_n hx hb dX10_stick_1 rfl (lv_at hl 1 rfl) ?_
  refine lv_iload_n hx hb dX10_stick_2 rfl (lv_at hl 2 rfl) ?_
  obtain ⟨r1, hc2, hf⟩ := op_cl hf
  refine z_callV (As := [.int i_1, .int i_2]) (rest := []) ⟨hx, hb, hml, hown, hts⟩ (tX10_isSwitch l Γ lo S q M Y  hc2) (cwV 2 hts gX10_stick_X10_isSwitch rfl rfl rfl (by decide +kernel) ⟨Nat.le_of_ble_eq_true rfl, Nat.le_of_ble_eq_true rfl⟩) (wd_x hW (k := 0) rfl) rfl hKK hW hS rfl hl.1 rfl (Nat.le_of_ble_eq_true rfl) dX10_stick_3 ⟨Nat.zero_le _, Nat.zero_le _⟩ (fun H locs hW hS hm1 hE => ?_)
  have b3 := hE
  obtain ⟨x4, ex4, hf⟩ := op_st hf
  have bx4 : x4 = 0 ∨ x4 = 1 := by rw [ex4]; exact b3
  refine z_istn (lv' := [(3, .int x4), (0, .ref (q 0)), (1, .int i_1), (2, .int i_2)]) ex4 hx hb dX10_stick_6 rfl hl (by decide) rfl (fun ls hl => ?_)
  refine lv_iload_n hx hb dX10_stick_7 rfl (lv_at hl 0 rfl) ?_
  obtain ⟨j7, ej7, hf⟩ := op_st hf
  have hj7 : ∀ (y5 : Int32) (H : Heap) (locs : List Loc) (ls : Array Slot) (b6 : y5 = 0 ∨ y5 = 1), lv_has ls 5 [(3, .int x4), (0, .ref (q 0)), (1, .int i_1), (2, .int i_2)] → Wd Γ lo S (mcl Γ q M ++ Y) H → va_S (zA Γ) s.heap H locs → (∀ c, zV S c = zV S c) → j7 y5 = some y → W p l e (headSpec wsX10_stick rmX10_stick).room s m ([.ref (q 0), .int i_1, .int i_2] : List Value).toArray below meth c H locs 0 0 (MQ below (zQ0 Γ lo S S (mcl Γ q y.2 ++ Y) (some (.int y.1)) True) ([.ref (q 0), .int i_1, .int i_2] : List Value).toArray s 0 0 (zA Γ)) (F0 m 40 ls [.int y5]) := by
    intro y5 H locs ls b6 hl hW hS hm hf
    rw [ej7] at hf
    obtain ⟨x8, ex8, hf⟩ := op_st hf
    have bx8 : x8 = 0 ∨ x8 = 1 := by rw [ex8]; exact b6
    refine z_ist (lv' := [(4, .int x8), (3, .int x4), (0, .ref (q 0)), (1, .int i_1), (2, .int i_2)]) ex8 hx hb dX10_stick_40 hl (by decide) rfl (fun ls hl => ?_)
    refine lv_aload_n hx hb dX10_stick_42 rfl (lv_at hl 2 rfl) ?_
    refine lv_iload_n hx hb dX10_stick_43 rfl (lv_at hl 1 rfl) ?_
    obtain ⟨j10, ej10, hf⟩ := op_st hf
    have hj10 : ∀ (y9 : Int32) (H : Heap) (locs : List Loc) (ls : Array Slot), lv_has ls 5 [(0, .ref (q 0)), (1, .int i_1), (2, .int i_2)] → Wd Γ lo S (mcl Γ q M ++ Y) H → va_S (zA Γ) s.heap H locs → (∀ c, zV S c = zV S c) → j10 y9 = some y → W p l e (headSpec wsX10_stick rmX10_stick).room s m ([.ref (q 0), .int i_1, .int i_2] : List Value).toArray below meth c H locs 0 0 (MQ below (zQ0 Γ lo S S (mcl Γ q y.2 ++ Y) (some (.int y.1)) True) ([.ref (q 0), .int i_1, .int i_2] : List Value).toArray s 0 0 (zA Γ)) (F0 m 61 ls [.int y9, .ref (q 0)]) := by
      intro y9 H locs ls  hl hW hS hm hf
      rw [ej10] at hf
      obtain ⟨r11, M13, hc12, hf⟩ := op_cl2 hf
      refine z_callV (As := [.int y9]) (rest := []) ⟨hx, hb, hml, hown, hts⟩ (tX10_refused l Γ lo S q M Y  hc12) (cwV 1 hts gX10_stick_X10_refused rfl rfl rfl (by decide +kernel) ⟨Nat.le_of_ble_eq_true rfl, Nat.le_of_ble_eq_true rfl⟩) (wd_x hW (k := 0) rfl) rfl hKK hW hS rfl hl.1 rfl (Nat.le_of_ble_eq_true rfl) dX10_stick_61 ⟨Nat.zero_le _, Nat.zero_le _⟩ (fun H locs hW hS hm1 hE => ?_)
      have b14 := hE
      refine lv_if_eq (tgt := 69) hx hb dX10_stick_64 (by decide) (fun k64 => ?_) (fun k64 => ?_)
      · have hf := (op_if hf).1 k64
        refine lv_aload_n hx hb dX10_stick_69 rfl (lv_at hl 0 rfl) ?_
        refine va_get hx hb hts ni_X10_stick_X10 hown hKK.1 (wd_x hW (k := 0) rfl) 0 rfl rfl 16 (by decide) (hts (.fieldLink RX10 52 "TiltRouteModel" "stuck" "[I") (List.mem_of_getElem? (i := 1) rfl)) (fun _ h => h) rfl dX10_stick_70 ?_
        refine lv_bipush (v := (8)) hx hb dX10_stick_73 (by decide) ?_
        refine lv_iload_n hx hb dX10_stick_75 rfl (lv_at hl 1 rfl) ?_
        refine lv_imul hx hb dX10_stick_76 ?_
        refine lv_iload_n hx hb dX10_stick_77 rfl (lv_at hl 2 rfl) ?_
        refine lv_iadd hx hb dX10_stick_78 ?_
        refine lv_aload_n hx hb dX10_stick_79 rfl (lv_at hl 0 rfl) ?_
        refine va_get hx hb hts ni_X10_stick_X10 hown hKK.1 (wd_x hW (k := 0) rfl) 0 rfl rfl 22 (by decide) (hts (.fieldLink RX10 182 "TiltRouteModel" "stickings" "I") (List.mem_of_getElem? (i := 2) rfl)) (fun _ h => h) rfl dX10_stick_80 ?_
        obtain ⟨h83, hf⟩ := op_gd hf
        obtain ⟨M15, eM15, hf⟩ := op_st hf
        refine m_iast hx hb hKK.1 hW hS 16 15 48 rfl h83 eM15 (ms_16 Γ q _ Y _ _) dX10_stick_83 (fun H locs hW hS => ?_)
        refine lv_aload_n hx hb dX10_stick_84 rfl (lv_at hl 0 rfl) ?_
        refine lv_dup hx hb dX10_stick_85 rfl ?_
        refine va_get hx hb hts ni_X10_stick_X10 hown hKK.1 (wd_x hW (k := 0) rfl) 0 rfl rfl 22 (by decide) (hts (.fieldLink RX10 182 "TiltRouteModel" "stickings" "I") (List.mem_of_getElem? (i := 2) rfl)) (fun _ h => h) rfl dX10_stick_86 ?_
        refine lv_iconst (v := (1)) hx hb dX10_stick_89 (by decide) ?_
        refine lv_iadd hx hb dX10_stick_90 ?_
        obtain ⟨M16, eM16, hf⟩ := op_st hf
        refine m_put hx hb hts ni_X10_stick_X10 hown hKK.1 hW hS 22 (by decide) (hts (.fieldLink RX10 182 "TiltRouteModel" "stickings" "I") (List.mem_of_getElem? (i := 2) rfl)) rfl rfl rfl eM16 (ms_22 Γ q _ Y _) dX10_stick_91 (fun H locs hW hS => ?_)
        refine lv_aload_n hx hb dX10_stick_94 rfl (lv_at hl 0 rfl) ?_
        refine va_get hx hb hts ni_X10_stick_X10 hown hKK.1 (wd_x hW (k := 0) rfl) 0 rfl rfl 22 (by decide) (hts (.fieldLink RX10 182 "TiltRouteModel" "stickings" "I") (List.mem_of_getElem? (i := 2) rfl)) (fun _ h => h) rfl dX10_stick_95 ?_
        refine lv_iconst (v := (1)) hx hb dX10_stick_98 (by decide) ?_
        refine lv_isub hx hb dX10_stick_99 ?_
        have hf := Option.some.inj hf
        rw [← hf]
        exact z_iret hx hb hr hlocks rfl hW hS hm trivial dX10_stick_100
      · have hf := (op_if hf).2 k64
        refine lv_iconst (v := (0)) hx hb dX10_stick_67 (by decide) ?_
        have hf := Option.some.inj hf
        rw [← hf]
        exact z_iret hx hb hr hlocks rfl hW hS hm trivial dX10_stick_68
    refine lv_if_ne (tgt := 51) hx hb dX10_stick_44 (by decide) (fun k44 => ?_) (fun k44 => ?_)
    · have hf := (op_if hf).2 k44
      refine lv_iload hx hb dX10_stick_51 (lv_at hl 0 rfl) ?_
      refine lv_if_eq (tgt := 60) hx hb dX10_stick_53 (by decide) (fun k53 => ?_) (fun k53 => ?_)
      · have hf := (op_if hf).1 k53
        refine lv_iconst (v := (2)) hx hb dX10_stick_60 (by decide) ?_
        exact hj10 (2 : Int32) H locs ls  (lv_sub hl [2, 3, 4] rfl) hW hS hm hf
      · have hf := (op_if hf).2 k53
        refine lv_iconst (v := (0)) hx hb dX10_stick_56 (by decide) ?_
        refine lv_goto (tgt := 61) hx hb dX10_stick_57 (by decide) ?_
        exact hj10 (0 : Int32) H locs ls  (lv_sub hl [2, 3, 4] rfl) hW hS hm hf
    · have hf := (op_if hf).1 k44
      refine lv_iconst (v := (1)) hx hb dX10_stick_47 (by decide) ?_
      refine lv_goto (tgt := 61) hx hb dX10_stick_48 (by decide) ?_
      exact hj10 (1 : Int32) H locs ls  (lv_sub hl [2, 3, 4] rfl) hW hS hm hf
  obtain ⟨j17, ej17, hf⟩ := op_st hf
  have hj17 : ∀ (u_ : Unit) (H : Heap) (locs : List Loc) (ls : Array Slot), lv_has ls 5 [(3, .int x4), (0, .ref (q 0)), (1, .int i_1), (2, .int i_2)] → Wd Γ lo S (mcl Γ q M ++ Y) H → va_S (zA Γ) s.heap H locs → (∀ c, zV S c = zV S c) → j17 () = some y → W p l e (headSpec wsX10_stick rmX10_stick).room s m ([.ref (q 0), .int i_1, .int i_2] : List Value).toArray below meth c H locs 0 0 (MQ below (zQ0 Γ lo S S (mcl Γ q y.2 ++ Y) (some (.int y.1)) True) ([.ref (q 0), .int i_1, .int i_2] : List Value).toArray s 0 0 (zA Γ)) (F0 m 39 ls []) := by
    intro u_ H locs ls  hl hW hS hm hf
    rw [ej17] at hf
    refine lv_iconst (v := (0)) hx hb dX10_stick_39 (by decide) ?_
    exact hj7 (0 : Int32) H locs ls (Or.inl rfl) (lv_sub hl [0, 1, 2, 3] rfl) hW hS hm hf
  refine lv_if_eq (tgt := 39) hx hb dX10_stick_8 (by decide) (fun k8 => ?_) (fun k8 => ?_)
  · have hf := (op_if hf).1 k8
    exact hj17 () H locs ls  (lv_sub hl [0, 1, 2, 3] rfl) hW hS hm hf
  · have hf := (op_if hf).2 k8
    refine lv_aload_n hx hb dX10_stick_11 rfl (lv_at hl 1 rfl) ?_
    refine va_get hx hb hts ni_X10_stick_X10 hown hKK.1 (wd_x hW (k := 0) rfl) 0 rfl rfl 16 (by decide) (hts (.fieldLink RX10 52 "TiltRouteModel" "stuck" "[I") (List.mem_of_getElem? (i := 1) rfl)) (fun _ h => h) rfl dX10_stick_12 ?_
    refine lv_bipush (v := (8)) hx hb dX10_stick_15 (by decide) ?_
    refine lv_iload_n hx hb dX10_stick_17 rfl (lv_at hl 2 rfl) ?_
    refine lv_imul hx hb dX10_stick_18 ?_
    refine lv_iload_n hx hb dX10_stick_19 rfl (lv_at hl 3 rfl) ?_
    refine lv_iadd hx hb dX10_stick_20 ?_
    obtain ⟨h21, hf⟩ := op_gd hf
    refine va_iald hx hb hKK.1 (wd_x hW (k := 15) rfl) 0 0 (n := 48) rfl rfl h21 dX10_stick_21 ?_
    refine lv_iconst (v := (-1)) hx hb dX10_stick_22 (by decide) ?_
    refine lv_icmp_ne (tgt := 39) hx hb dX10_stick_23 (by decide) (fun k23 => ?_) (fun k23 => ?_)
    · have hf := (op_if hf).2 k23
      exact hj17 () H locs ls  (lv_sub hl [0, 1, 2, 3] rfl) hW hS hm hf
    · have hf := (op_if hf).1 k23
      refine lv_aload_n hx hb dX10_stick_26 rfl (lv_at hl 1 rfl) ?_
      refine va_get hx hb hts ni_X10_stick_X10 hown hKK.1 (wd_x hW (k := 0) rfl) 0 rfl rfl 22 (by decide) (hts (.fieldLink RX10 182 "TiltRouteModel" "stickings" "I") (List.mem_of_getElem? (i := 2) rfl)) (fun _ h => h) rfl dX10_stick_27 ?_
      refine lv_bipush (v := (60)) hx hb dX10_stick_30 (by decide) ?_
      refine lv_icmp_ge (tgt := 39) hx hb dX10_stick_32 (by decide) (fun k32 => ?_) (fun k32 => ?_)
      · have hf := (op_if hf).1 k32
        exact hj17 () H locs ls  (lv_sub hl [0, 1, 2, 3] rfl) hW hS hm hf
      · have hf := (op_if hf).2 k32
        refine lv_iconst (v := (1)) hx hb dX10_stick_35 (by decide) ?_
        refine lv_goto (tgt := 40) hx hb dX10_stick_36 (by decide) ?_
        exact hj7 (1 : Int32) H locs ls (Or.inr rfl) (lv_sub hl [0, 1, 2, 3] rfl) hW hS hm hf

def fX10_noSwitch (M : zMs) (i_1 : Int32) (i_2 : Int32) : Option (Int32 × zMs) :=
cl (fX10_isSwitch M i_1 i_2) fun r1 =>
st (fun (y4 : Int32) => (cl2 (fX10_refused M y4) fun r7 M9 =>
some ((r7, M9)) : Option (Int32 × zMs))) fun j6 =>
if r1 = 0 then
j6 (1 : Int32)
else
j6 (0 : Int32)
abbrev rmX10_noSwitch : Room := { frames := 3, cells := 0, slots := 0, locals := 65 }
set_option maxHeartbeats 4000000 in
set_option maxRecDepth 100000 in
theorem tX10_noSwitch (l : Launch) (Γ : zG) (lo : zId → Nat) (S : zSt) (q : Nat → Nat) (M : zMs) (Y : va_W) {i_1 : Int32} {i_2 : Int32}  {y : (Int32 × zMs)} (hf : fX10_noSwitch M i_1 i_2 = some y) : Met l yX10_noSwitch wsX10_noSwitch rmX10_noSwitch (zP0 Γ lo S (mcl Γ q M ++ Y) [.ref (q 0), .int i_1, .int i_2]) (zQ0 Γ lo S S (mcl Γ q y.2 ++ Y) (some (.int y.1)) (y.1 = 0 ∨ y.1 = 1)) 0 0 (zA Γ) := by
  refine Met.ofW (cc := cX10_noSwitch) (maxL := 3) (ret := (some .boolean)) (by decide) rfl ?_
  intro p e s m args below meth c s₁ B hml hv
  obtain ⟨rfl, hW, hKK⟩ := hv
  have hx := B.exec
  have hb := B.bytes
  have hr := B.returns
  have hts := atoms_spec (ws := wsX10_noSwitch) B.pre
  have hown : s.vm.findClass RX10 = some m.cls := findClass_of_methodNamed B.named
  have hlocks := B.notSynchronized
  have hS : va_S (zA Γ) s.heap s.heap [] := va_S.rf
  have hm : ∀ c, zV S c = zV S c := fun _ => rfl
  have hl := lv_entry ([.ref (q 0), .int i_1, .int i_2]) (n := 3) (Nat.le_of_ble_eq_true rfl)
  rw [lg_entry_eq]
  generalize (lg_sl ([.ref (q 0), .int i_1, .int i_2]) ++ List.replicate (3 - (lg_sl ([.ref (q 0), .int i_1, .int i_2])).length) Slot.unset).toArray = ls at hl ⊢
  have hl : lv_has ls 3 [(0, .ref (q 0)), (1, .int i_1), (2, .int i_2)] := hl
  obtain ⟨H, hH0⟩ : ∃ H, H = s.heap := ⟨_, rfl⟩
  obtain ⟨locs, hlo0⟩ : ∃ L : List Loc, L = [] := ⟨_, rfl⟩
  have hS : va_S (zA Γ) s.heap H locs := by rw [hH0, hlo0]; exact hS
  have hW : Wd Γ lo S (mcl Γ q M ++ Y) H := by rw [hH0]; exact hW
  rw [← hH0, ← hlo0]
  unfold fX10_noSwitch at hf
  refine lv_aload_n hx hb dX10_noSwitch_0 rfl (lv_at hl 0 rfl) ?_
  refine lv_aload_n hx hb dX10_noSwitch_1 rfl (lv_at hl 0 rfl) ?_
  refine lv_iload_n hx hb dX10_noSwitch_2 rfl (lv_at hl 1 rfl) ?_
  refine lv_iload_n hx hb dX10_noSwitch_3 rfl (lv_at hl 2 rfl) ?_
  obtain ⟨r1, hc2, hf⟩ := op_cl hf
  refine z_callV (As := [.int i_1, .int i_2]) (rest := [.ref (q 0)]) ⟨hx, hb, hml, hown, hts⟩ (tX10_isSwitch l Γ lo S q M Y  hc2) (cwV 2 hts gX10_noSwitch_X10_isSwitch rfl rfl rfl (by decide +kernel) ⟨Nat.le_of_ble_eq_true rfl, Nat.le_of_ble_eq_true rfl⟩) (wd_x hW (k := 0) rfl) rfl hKK hW hS rfl hl.1 rfl (Nat.le_of_ble_eq_true rfl) dX10_noSwitch_4 ⟨Nat.zero_le _, Nat.zero_le _⟩ (fun H locs hW hS hm1 hE => ?_)
  have b3 := hE
  obtain ⟨j6, ej6, hf⟩ := op_st hf
  have hj6 : ∀ (y4 : Int32) (H : Heap) (locs : List Loc) (ls : Array Slot) (b5 : y4 = 0 ∨ y4 = 1), lv_has ls 3 [] → Wd Γ lo S (mcl Γ q M ++ Y) H → va_S (zA Γ) s.heap H locs → (∀ c, zV S c = zV S c) → j6 y4 = some y → W p l e (headSpec wsX10_noSwitch rmX10_noSwitch).room s m ([.ref (q 0), .int i_1, .int i_2] : List Value).toArray below meth c H locs 0 0 (MQ below (zQ0 Γ lo S S (mcl Γ q y.2 ++ Y) (some (.int y.1)) (y.1 = 0 ∨ y.1 = 1)) ([.ref (q 0), .int i_1, .int i_2] : List Value).toArray s 0 0 (zA Γ)) (F0 m 15 ls [.int y4, .ref (q 0)]) := by
    intro y4 H locs ls b5 hl hW hS hm hf
    rw [ej6] at hf
    obtain ⟨r7, M9, hc8, hf⟩ := op_cl2 hf
    refine z_callV (As := [.int y4]) (rest := []) ⟨hx, hb, hml, hown, hts⟩ (tX10_refused l Γ lo S q M Y  hc8) (cwV 1 hts gX10_noSwitch_X10_refused rfl rfl rfl (by decide +kernel) ⟨Nat.le_of_ble_eq_true rfl, Nat.le_of_ble_eq_true rfl⟩) (wd_x hW (k := 0) rfl) rfl hKK hW hS rfl hl.1 rfl (Nat.le_of_ble_eq_true rfl) dX10_noSwitch_15 ⟨Nat.zero_le _, Nat.zero_le _⟩ (fun H locs hW hS hm1 hE => ?_)
    have b10 := hE
    have hf := Option.some.inj hf
    rw [← hf]
    exact z_iret hx hb hr hlocks (z_bb b10) hW hS hm b10 dX10_noSwitch_18
  refine lv_if_eq (tgt := 14) hx hb dX10_noSwitch_7 (by decide) (fun k7 => ?_) (fun k7 => ?_)
  · have hf := (op_if hf).1 k7
    refine lv_iconst (v := (1)) hx hb dX10_noSwitch_14 (by decide) ?_
    exact hj6 (1 : Int32) H locs ls (Or.inr rfl) (lv_sub hl [] rfl) hW hS hm hf
  · have hf := (op_if hf).2 k7
    refine lv_iconst (v := (0)) hx hb dX10_noSwitch_10 (by decide) ?_
    refine lv_goto (tgt := 15) hx hb dX10_noSwitch_11 (by decide) ?_
    exact hj6 (0 : Int32) H locs ls (Or.inl rfl) (lv_sub hl [] rfl) hW hS hm hf

theorem ni_X10_sticks_X10 : ∀ w ∈ wsX100, w ∈ wsX10_sticks := by decide +kernel
def fX10_sticks (M : zMs) (i_1 : Int32) (i_2 : Int32) : Option (Int32 × zMs) :=
cl2 (fX10_noSwitch M i_1 i_2) fun r1 M3 =>
st (fun (u_ : Unit) => (some (((0 : Int32), M3)) : Option (Int32 × zMs))) fun j5 =>
if r1 = 0 then
gd (¬ ((((8 : Int32) * i_1) + i_2) < 0 ∨ 48 ≤ (((8 : Int32) * i_1) + i_2).toNatClampNeg)) (
if (M3 16 (((8 : Int32) * i_1) + i_2).toNatClampNeg) = (-1 : Int32) then
j5 ()
else
some (((1 : Int32), M3)))
else
j5 ()
abbrev rmX10_sticks : Room := { frames := 4, cells := 0, slots := 0, locals := 87 }
set_option maxHeartbeats 4000000 in
set_option maxRecDepth 100000 in
theorem tX10_sticks (l : Launch) (Γ : zG) (lo : zId → Nat) (S : zSt) (q : Nat → Nat) (M : zMs) (Y : va_W) {i_1 : Int32} {i_2 : Int32}  {y : (Int32 × zMs)} (hf : fX10_sticks M i_1 i_2 = some y) : Met l yX10_sticks wsX10_sticks rmX10_sticks (zP0 Γ lo S (mcl Γ q M ++ Y) [.ref (q 0), .int i_1, .int i_2]) (zQ0 Γ lo S S (mcl Γ q y.2 ++ Y) (some (.int y.1)) (y.1 = 0 ∨ y.1 = 1)) 0 0 (zA Γ) := by
  refine Met.ofW (cc := cX10_sticks) (maxL := 3) (ret := (some .boolean)) (by decide) rfl ?_
  intro p e s m args below meth c s₁ B hml hv
  obtain ⟨rfl, hW, hKK⟩ := hv
  have hx := B.exec
  have hb := B.bytes
  have hr := B.returns
  have hts := atoms_spec (ws := wsX10_sticks) B.pre
  have hown : s.vm.findClass RX10 = some m.cls := findClass_of_methodNamed B.named
  have hlocks := B.notSynchronized
  have hS : va_S (zA Γ) s.heap s.heap [] := va_S.rf
  have hm : ∀ c, zV S c = zV S c := fun _ => rfl
  have hl := lv_entry ([.ref (q 0), .int i_1, .int i_2]) (n := 3) (Nat.le_of_ble_eq_true rfl)
  rw [lg_entry_eq]
  generalize (lg_sl ([.ref (q 0), .int i_1, .int i_2]) ++ List.replicate (3 - (lg_sl ([.ref (q 0), .int i_1, .int i_2])).length) Slot.unset).toArray = ls at hl ⊢
  have hl : lv_has ls 3 [(0, .ref (q 0)), (1, .int i_1), (2, .int i_2)] := hl
  obtain ⟨H, hH0⟩ : ∃ H, H = s.heap := ⟨_, rfl⟩
  obtain ⟨locs, hlo0⟩ : ∃ L : List Loc, L = [] := ⟨_, rfl⟩
  have hS : va_S (zA Γ) s.heap H locs := by rw [hH0, hlo0]; exact hS
  have hW : Wd Γ lo S (mcl Γ q M ++ Y) H := by rw [hH0]; exact hW
  rw [← hH0, ← hlo0]
  unfold fX10_sticks at hf
  refine lv_aload_n hx hb dX10_sticks_0 rfl (lv_at hl 0 rfl) ?_
  refine lv_iload_n hx hb dX10_sticks_1 rfl (lv_at hl 1 rfl) ?_
  refine lv_iload_n hx hb dX10_sticks_2 rfl (lv_at hl 2 rfl) ?_
  obtain ⟨r1, M3, hc2, hf⟩ := op_cl2 hf
  refine z_callV (As := [.int i_1, .int i_2]) (rest := []) ⟨hx, hb, hml, hown, hts⟩ (tX10_noSwitch l Γ lo S q M Y  hc2) (cwV 2 hts gX10_sticks_X10_noSwitch rfl rfl rfl (by decide +kernel) ⟨Nat.le_of_ble_eq_true rfl, Nat.le_of_ble_eq_true rfl⟩) (wd_x hW (k := 0) rfl) rfl hKK hW hS rfl hl.1 rfl (Nat.le_of_ble_eq_true rfl) dX10_sticks_3 ⟨Nat.zero_le _, Nat.zero_le _⟩ (fun H locs hW hS hm1 hE => ?_)
  have b4 := hE
  obtain ⟨j5, ej5, hf⟩ := op_st hf
  have hj5 : ∀ (u_ : Unit) (H : Heap) (locs : List Loc) (ls : Array Slot), lv_has ls 3 [] → Wd Γ lo S (mcl Γ q M3 ++ Y) H → va_S (zA Γ) s.heap H locs → (∀ c, zV S c = zV S c) → j5 () = some y → W p l e (headSpec wsX10_sticks rmX10_sticks).room s m ([.ref (q 0), .int i_1, .int i_2] : List Value).toArray below meth c H locs 0 0 (MQ below (zQ0 Γ lo S S (mcl Γ q y.2 ++ Y) (some (.int y.1)) (y.1 = 0 ∨ y.1 = 1)) ([.ref (q 0), .int i_1, .int i_2] : List Value).toArray s 0 0 (zA Γ)) (F0 m 28 ls []) := by
    intro u_ H locs ls  hl hW hS hm hf
    rw [ej5] at hf
    refine lv_iconst (v := (0)) hx hb dX10_sticks_28 (by decide) ?_
    have hf := Option.some.inj hf
    rw [← hf]
    exact z_iret hx hb hr hlocks (z_bb (Or.inl rfl)) hW hS hm (Or.inl rfl) dX10_sticks_29
  refine lv_if_ne (tgt := 28) hx hb dX10_sticks_6 (by decide) (fun k6 => ?_) (fun k6 => ?_)
  · have hf := (op_if hf).2 k6
    exact hj5 () H locs ls  (lv_sub hl [] rfl) hW hS hm hf
  · have hf := (op_if hf).1 k6
    refine lv_aload_n hx hb dX10_sticks_9 rfl (lv_at hl 0 rfl) ?_
    refine va_get hx hb hts ni_X10_sticks_X10 hown hKK.1 (wd_x hW (k := 0) rfl) 0 rfl rfl 16 (by decide) (hts (.fieldLink RX10 52 "TiltRouteModel" "stuck" "[I") (List.mem_of_getElem? (i := 1) rfl)) (fun _ h => h) rfl dX10_sticks_10 ?_
    refine lv_bipush (v := (8)) hx hb dX10_sticks_13 (by decide) ?_
    refine lv_iload_n hx hb dX10_sticks_15 rfl (lv_at hl 1 rfl) ?_
    refine lv_imul hx hb dX10_sticks_16 ?_
    refine lv_iload_n hx hb dX10_sticks_17 rfl (lv_at hl 2 rfl) ?_
    refine lv_iadd hx hb dX10_sticks_18 ?_
    obtain ⟨h19, hf⟩ := op_gd hf
    refine va_iald hx hb hKK.1 (wd_x hW (k := 15) rfl) 0 0 (n := 48) rfl rfl h19 dX10_sticks_19 ?_
    refine lv_iconst (v := (-1)) hx hb dX10_sticks_20 (by decide) ?_
    refine lv_icmp_eq (tgt := 28) hx hb dX10_sticks_21 (by decide) (fun k21 => ?_) (fun k21 => ?_)
    · have hf := (op_if hf).1 k21
      exact hj5 () H locs ls  (lv_sub hl [] rfl) hW hS hm hf
    · have hf := (op_if hf).2 k21
      refine lv_iconst (v := (1)) hx hb dX10_sticks_24 (by decide) ?_
      refine lv_goto (tgt := 29) hx hb dX10_sticks_25 (by decide) ?_
      have hf := Option.some.inj hf
      rw [← hf]
      exact z_iret hx hb hr hlocks (z_bb (Or.inr rfl)) hW hS hm (Or.inr rfl) dX10_sticks_29

theorem ni_X10_wear_X10 : ∀ w ∈ wsX100, w ∈ wsX10_wear := by decide +kernel
def fX10_wear (M : zMs) (i_1 : Int32) (i_2 : Int32) : Option (Int32 × zMs) :=
cl2 (fX10_noSwitch M i_1 i_2) fun r1 M3 =>
if r1 = 0 then
gd (¬ ((((8 : Int32) * i_1) + i_2) < 0 ∨ 48 ≤ (((8 : Int32) * i_1) + i_2).toNatClampNeg)) (
some (((M3 15 (((8 : Int32) * i_1) + i_2).toNatClampNeg), M3)))
else
some (((0 : Int32), M3))
abbrev rmX10_wear : Room := { frames := 4, cells := 0, slots := 0, locals := 87 }
set_option maxHeartbeats 4000000 in
set_option maxRecDepth 100000 in
theorem tX10_wear (l : Launch) (Γ : zG) (lo : zId → Nat) (S : zSt) (q : Nat → Nat) (M : zMs) (Y : va_W) {i_1 : Int32} {i_2 : Int32}  {y : (Int32 × zMs)} (hf : fX10_wear M i_1 i_2 = some y) : Met l yX10_wear wsX10_wear rmX10_wear (zP0 Γ lo S (mcl Γ q M ++ Y) [.ref (q 0), .int i_1, .int i_2]) (zQ0 Γ lo S S (mcl Γ q y.2 ++ Y) (some (.int y.1)) True) 0 0 (zA Γ) := by
  refine Met.ofW (cc := cX10_wear) (maxL := 3) (ret := (some .int)) (by decide) rfl ?_
  intro p e s m args below meth c s₁ B hml hv
  obtain ⟨rfl, hW, hKK⟩ := hv
  have hx := B.exec
  have hb := B.bytes
  have hr := B.returns
  have hts := atoms_spec (ws := wsX10_wear) B.pre
  have hown : s.vm.findClass RX10 = some m.cls := findClass_of_methodNamed B.named
  have hlocks := B.notSynchronized
  have hS : va_S (zA Γ) s.heap s.heap [] := va_S.rf
  have hm : ∀ c, zV S c = zV S c := fun _ => rfl
  have hl := lv_entry ([.ref (q 0), .int i_1, .int i_2]) (n := 3) (Nat.le_of_ble_eq_true rfl)
  rw [lg_entry_eq]
  generalize (lg_sl ([.ref (q 0), .int i_1, .int i_2]) ++ List.replicate (3 - (lg_sl ([.ref (q 0), .int i_1, .int i_2])).length) Slot.unset).toArray = ls at hl ⊢
  have hl : lv_has ls 3 [(0, .ref (q 0)), (1, .int i_1), (2, .int i_2)] := hl
  obtain ⟨H, hH0⟩ : ∃ H, H = s.heap := ⟨_, rfl⟩
  obtain ⟨locs, hlo0⟩ : ∃ L : List Loc, L = [] := ⟨_, rfl⟩
  have hS : va_S (zA Γ) s.heap H locs := by rw [hH0, hlo0]; exact hS
  have hW : Wd Γ lo S (mcl Γ q M ++ Y) H := by rw [hH0]; exact hW
  rw [← hH0, ← hlo0]
  unfold fX10_wear at hf
  refine lv_aload_n hx hb dX10_wear_0 rfl (lv_at hl 0 rfl) ?_
  refine lv_iload_n hx hb dX10_wear_1 rfl (lv_at hl 1 rfl) ?_
  refine lv_iload_n hx hb dX10_wear_2 rfl (lv_at hl 2 rfl) ?_
  obtain ⟨r1, M3, hc2, hf⟩ := op_cl2 hf
  refine z_callV (As := [.int i_1, .int i_2]) (rest := []) ⟨hx, hb, hml, hown, hts⟩ (tX10_noSwitch l Γ lo S q M Y  hc2) (cwV 2 hts gX10_wear_X10_noSwitch rfl rfl rfl (by decide +kernel) ⟨Nat.le_of_ble_eq_true rfl, Nat.le_of_ble_eq_true rfl⟩) (wd_x hW (k := 0) rfl) rfl hKK hW hS rfl hl.1 rfl (Nat.le_of_ble_eq_true rfl) dX10_wear_3 ⟨Nat.zero_le _, Nat.zero_le _⟩ (fun H locs hW hS hm1 hE => ?_)
  have b4 := hE
  refine lv_if_eq (tgt := 13) hx hb dX10_wear_6 (by decide) (fun k6 => ?_) (fun k6 => ?_)
  · have hf := (op_if hf).1 k6
    refine lv_aload_n hx hb dX10_wear_13 rfl (lv_at hl 0 rfl) ?_
    refine va_get hx hb hts ni_X10_wear_X10 hown hKK.1 (wd_x hW (k := 0) rfl) 0 rfl rfl 15 (by decide) (hts (.fieldLink RX10 49 "TiltRouteModel" "wears" "[I") (List.mem_of_getElem? (i := 1) rfl)) (fun _ h => h) rfl dX10_wear_14 ?_
    refine lv_bipush (v := (8)) hx hb dX10_wear_17 (by decide) ?_
    refine lv_iload_n hx hb dX10_wear_19 rfl (lv_at hl 1 rfl) ?_
    refine lv_imul hx hb dX10_wear_20 ?_
    refine lv_iload_n hx hb dX10_wear_21 rfl (lv_at hl 2 rfl) ?_
    refine lv_iadd hx hb dX10_wear_22 ?_
    obtain ⟨h23, hf⟩ := op_gd hf
    refine va_iald hx hb hKK.1 (wd_x hW (k := 14) rfl) 0 0 (n := 48) rfl rfl h23 dX10_wear_23 ?_
    have hf := Option.some.inj hf
    rw [← hf]
    exact z_iret hx hb hr hlocks rfl hW hS hm trivial dX10_wear_24
  · have hf := (op_if hf).2 k6
    refine lv_iconst (v := (0)) hx hb dX10_wear_9 (by decide) ?_
    refine lv_goto (tgt := 24) hx hb dX10_wear_10 (by decide) ?_
    have hf := Option.some.inj hf
    rw [← hf]
    exact z_iret hx hb hr hlocks rfl hW hS hm trivial dX10_wear_24

theorem ni_X10_coin_X10 : ∀ w ∈ wsX100, w ∈ wsX10_coin := by decide +kernel
def fX10_coin (M : zMs) (i_1 : Int32) : Option (Int32 × zMs) :=
cl (fX10_isTable M i_1) fun r1 =>
st (fun (y4 : Int32) => (st y4 fun x7 =>
cl (fX10_isTable M i_1) fun r8 =>
st (fun (y11 : Int32) => (cl2 (fX10_refused M y11) fun r13 M15 =>
if r13 = 0 then
st (M15 24 0) fun x17 =>
gd (¬ (x17 < 0 ∨ 40 ≤ x17.toNatClampNeg)) (
st (pM M15 25 x17.toNatClampNeg i_1) fun M18 =>
gd (¬ (x17 < 0 ∨ 40 ≤ x17.toNatClampNeg)) (
st (pM M18 26 x17.toNatClampNeg (3 : Int32)) fun M19 =>
st (0 : Int32) fun x20 =>
lp (fun (q21 : (Int32 × zMs)) => (if (8 : Int32) ≤ q21.1 then
st (0 : Int32) fun x27 =>
lp (fun (q28 : (Int32 × zMs)) => (if (4 : Int32) ≤ q28.1 then
gd (¬ (i_1 < 0 ∨ 6 ≤ i_1.toNatClampNeg)) (
gd (¬ (i_1 < 0 ∨ 6 ≤ i_1.toNatClampNeg)) (
gd (¬ (i_1 < 0 ∨ 6 ≤ i_1.toNatClampNeg)) (
st (pM q28.2 4 i_1.toNatClampNeg ((q28.2 4 i_1.toNatClampNeg) + (q28.2 3 i_1.toNatClampNeg))) fun M34 =>
gd (¬ (i_1 < 0 ∨ 6 ≤ i_1.toNatClampNeg)) (
gd (¬ (i_1 < 0 ∨ 6 ≤ i_1.toNatClampNeg)) (
gd (¬ (i_1 < 0 ∨ 6 ≤ i_1.toNatClampNeg)) (
st (pM M34 5 i_1.toNatClampNeg ((M34 5 i_1.toNatClampNeg) + (M34 3 i_1.toNatClampNeg))) fun M35 =>
gd (¬ (i_1 < 0 ∨ 6 ≤ i_1.toNatClampNeg)) (
st (pM M35 7 i_1.toNatClampNeg x17) fun M36 =>
st (pM M36 24 0 ((M36 24 0) + (1 : Int32))) fun M37 =>
some (.inr (.inr ((x17, M37)))))))))))
else
gd (¬ ((((4 : Int32) * i_1) + q28.1) < 0 ∨ 24 ≤ (((4 : Int32) * i_1) + q28.1).toNatClampNeg)) (
gd (¬ ((((4 : Int32) * x17) + q28.1) < 0 ∨ 160 ≤ (((4 : Int32) * x17) + q28.1).toNatClampNeg)) (
st (pM q28.2 29 (((4 : Int32) * x17) + q28.1).toNatClampNeg (q28.2 17 (((4 : Int32) * i_1) + q28.1).toNatClampNeg)) fun M38 =>
gd (¬ ((((4 : Int32) * i_1) + q28.1) < 0 ∨ 24 ≤ (((4 : Int32) * i_1) + q28.1).toNatClampNeg)) (
gd (¬ ((((4 : Int32) * x17) + q28.1) < 0 ∨ 160 ≤ (((4 : Int32) * x17) + q28.1).toNatClampNeg)) (
st (pM M38 30 (((4 : Int32) * x17) + q28.1).toNatClampNeg (M38 18 (((4 : Int32) * i_1) + q28.1).toNatClampNeg)) fun M39 =>
gd (¬ ((((4 : Int32) * i_1) + q28.1) < 0 ∨ 24 ≤ (((4 : Int32) * i_1) + q28.1).toNatClampNeg)) (
gd (¬ ((((4 : Int32) * x17) + q28.1) < 0 ∨ 160 ≤ (((4 : Int32) * x17) + q28.1).toNatClampNeg)) (
st (pM M39 31 (((4 : Int32) * x17) + q28.1).toNatClampNeg (M39 19 (((4 : Int32) * i_1) + q28.1).toNatClampNeg)) fun M40 =>
gd (¬ ((((4 : Int32) * i_1) + q28.1) < 0 ∨ 24 ≤ (((4 : Int32) * i_1) + q28.1).toNatClampNeg)) (
gd (¬ ((((4 : Int32) * x17) + q28.1) < 0 ∨ 160 ≤ (((4 : Int32) * x17) + q28.1).toNatClampNeg)) (
st (pM M40 32 (((4 : Int32) * x17) + q28.1).toNatClampNeg (M40 20 (((4 : Int32) * i_1) + q28.1).toNatClampNeg)) fun M41 =>
gd (¬ ((((4 : Int32) * i_1) + q28.1) < 0 ∨ 24 ≤ (((4 : Int32) * i_1) + q28.1).toNatClampNeg)) (
gd (¬ ((((4 : Int32) * x17) + q28.1) < 0 ∨ 160 ≤ (((4 : Int32) * x17) + q28.1).toNatClampNeg)) (
st (pM M41 33 (((4 : Int32) * x17) + q28.1).toNatClampNeg (M41 21 (((4 : Int32) * i_1) + q28.1).toNatClampNeg)) fun M42 =>
st (q28.1 + (1 : Int32)) fun x43 =>
some (.inl (x43, M42)))))))))))) : Option ((Int32 × zMs) ⊕ ((Int32 × zMs) ⊕ (Int32 × zMs))))) 40000 (x27, q21.2)
else
gd (¬ ((((8 : Int32) * i_1) + q21.1) < 0 ∨ 48 ≤ (((8 : Int32) * i_1) + q21.1).toNatClampNeg)) (
gd (¬ ((((8 : Int32) * x17) + q21.1) < 0 ∨ 320 ≤ (((8 : Int32) * x17) + q21.1).toNatClampNeg)) (
st (pM q21.2 28 (((8 : Int32) * x17) + q21.1).toNatClampNeg (q21.2 14 (((8 : Int32) * i_1) + q21.1).toNatClampNeg)) fun M44 =>
st (q21.1 + (1 : Int32)) fun x45 =>
some (.inl (x45, M44)))) : Option ((Int32 × zMs) ⊕ (Int32 × zMs)))) 40000 (x20, M19)))
else
some (((0 : Int32), M15)) : Option (Int32 × zMs))) fun j12 =>
if r8 = 0 then
j12 (1 : Int32)
else
if x7 = 0 then
j12 (2 : Int32)
else
j12 (0 : Int32) : Option (Int32 × zMs))) fun j6 =>
st (fun (u_ : Unit) => (j6 (0 : Int32) : Option (Int32 × zMs))) fun j46 =>
if r1 = 0 then
j46 ()
else
cl (fX10_isFree M i_1) fun r47 =>
if r47 = 0 then
j46 ()
else
if (40 : Int32) ≤ (M 24 0) then
j46 ()
else
j6 (1 : Int32)
abbrev rmX10_coin : Room := { frames := 2, cells := 0, slots := 0, locals := 43 }
set_option maxHeartbeats 4000000 in
set_option maxRecDepth 100000 in
theorem tX10_coin (l : Launch) (Γ : zG) (lo : zId → Nat) (S : zSt) (q : Nat → Nat) (M : zMs) (Y : va_W) {i_1 : Int32}  {y : (Int32 × zMs)} (hf : fX10_coin M i_1 = some y) : Met l yX10_coin wsX10_coin rmX10_coin (zP0 Γ lo S (mcl Γ q M ++ Y) [.ref (q 0), .int i_1]) (zQ0 Γ lo S S (mcl Γ q y.2 ++ Y) (some (.int y.1)) True) 0 0 (zA Γ) := by
  refine Met.ofW (cc := cX10_coin) (maxL := 5) (ret := (some .int)) (by decide) rfl ?_
  intro p e s m args below meth c s₁ B hml hv
  obtain ⟨rfl, hW, hKK⟩ := hv
  have hx := B.exec
  have hb := B.bytes
  have hr := B.returns
  have hts := atoms_spec (ws := wsX10_coin) B.pre
  have hown : s.vm.findClass RX10 = some m.cls := findClass_of_methodNamed B.named
  have hlocks := B.notSynchronized
  have hS : va_S (zA Γ) s.heap s.heap [] := va_S.rf
  have hm : ∀ c, zV S c = zV S c := fun _ => rfl
  have hl := lv_entry ([.ref (q 0), .int i_1]) (n := 5) (Nat.le_of_ble_eq_true rfl)
  rw [lg_entry_eq]
  generalize (lg_sl ([.ref (q 0), .int i_1]) ++ List.replicate (5 - (lg_sl ([.ref (q 0), .int i_1])).length) Slot.unset).toArray = ls at hl ⊢
  have hl : lv_has ls 5 [(0, .ref (q 0)), (1, .int i_1)] := hl
  obtain ⟨H, hH0⟩ : ∃ H, H = s.heap := ⟨_, rfl⟩
  obtain ⟨locs, hlo0⟩ : ∃ L : List Loc, L = [] := ⟨_, rfl⟩
  have hS : va_S (zA Γ) s.heap H locs := by rw [hH0, hlo0]; exact hS
  have hW : Wd Γ lo S (mcl Γ q M ++ Y) H := by rw [hH0]; exact hW
  rw [← hH0, ← hlo0]
  unfold fX10_coin at hf
  refine lv_aload_n hx hb dX10_coin_0 rfl (lv_at hl 0 rfl) ?_
  refine lv_iload_n hx hb dX10_coin_1 rfl (lv_at hl 1 rfl) ?_
  obtain ⟨r1, hc2, hf⟩ := op_cl hf
  refine z_callV (As := [.int i_1]) (rest := []) ⟨hx, hb, hml, hown, hts⟩ (tX10_isTable l Γ lo S q M Y  hc2) (cwV 1 hts gX10_coin_X10_isTable rfl rfl rfl (by decide +kernel) ⟨Nat.le_of_ble_eq_true rfl, Nat.le_of_ble_eq_true rfl⟩) (wd_x hW (k := 0) rfl) rfl hKK hW hS rfl hl.1 rfl (Nat.le_of_ble_eq_true rfl) dX10_coin_2 ⟨Nat.zero_le _, Nat.zero_le _⟩ (fun H locs hW hS hm1 hE => ?_)
  have b3 := hE
  obtain ⟨j6, ej6, hf⟩ := op_st hf
  have hj6 : ∀ (y4 : Int32) (H : Heap) (locs : List Loc) (ls : Array Slot) (b5 : y4 = 0 ∨ y4 = 1), lv_has ls 5 [(0, .ref (q 0)), (1, .int i_1)] → Wd Γ lo S (mcl Γ q M ++ Y) H → va_S (zA Γ) s.heap H locs → (∀ c, zV S c = zV S c) → j6 y4 = some y → W p l e (headSpec wsX10_coin rmX10_coin).room s m ([.ref (q 0), .int i_1] : List Value).toArray below meth c H locs 0 0 (MQ below (zQ0 Γ lo S S (mcl Γ q y.2 ++ Y) (some (.int y.1)) True) ([.ref (q 0), .int i_1] : List Value).toArray s 0 0 (zA Γ)) (F0 m 30 ls [.int y4]) := by
    intro y4 H locs ls b5 hl hW hS hm hf
    rw [ej6] at hf
    obtain ⟨x7, ex7, hf⟩ := op_st hf
    have bx7 : x7 = 0 ∨ x7 = 1 := by rw [ex7]; exact b5
    refine z_istn (lv' := [(2, .int x7), (0, .ref (q 0)), (1, .int i_1)]) ex7 hx hb dX10_coin_30 rfl hl (by decide) rfl (fun ls hl => ?_)
    refine lv_aload_n hx hb dX10_coin_31 rfl (lv_at hl 1 rfl) ?_
    refine lv_aload_n hx hb dX10_coin_32 rfl (lv_at hl 1 rfl) ?_
    refine lv_iload_n hx hb dX10_coin_33 rfl (lv_at hl 2 rfl) ?_
    obtain ⟨r8, hc9, hf⟩ := op_cl hf
    refine z_callV (As := [.int i_1]) (rest := [.ref (q 0)]) ⟨hx, hb, hml, hown, hts⟩ (tX10_isTable l Γ lo S q M Y  hc9) (cwV 1 hts gX10_coin_X10_isTable rfl rfl rfl (by decide +kernel) ⟨Nat.le_of_ble_eq_true rfl, Nat.le_of_ble_eq_true rfl⟩) (wd_x hW (k := 0) rfl) rfl hKK hW hS rfl hl.1 rfl (Nat.le_of_ble_eq_true rfl) dX10_coin_34 ⟨Nat.zero_le _, Nat.zero_le _⟩ (fun H locs hW hS hm1 hE => ?_)
    have b10 := hE
    obtain ⟨j12, ej12, hf⟩ := op_st hf
    have hj12 : ∀ (y11 : Int32) (H : Heap) (locs : List Loc) (ls : Array Slot), lv_has ls 5 [(0, .ref (q 0)), (1, .int i_1)] → Wd Γ lo S (mcl Γ q M ++ Y) H → va_S (zA Γ) s.heap H locs → (∀ c, zV S c = zV S c) → j12 y11 = some y → W p l e (headSpec wsX10_coin rmX10_coin).room s m ([.ref (q 0), .int i_1] : List Value).toArray below meth c H locs 0 0 (MQ below (zQ0 Γ lo S S (mcl Γ q y.2 ++ Y) (some (.int y.1)) True) ([.ref (q 0), .int i_1] : List Value).toArray s 0 0 (zA Γ)) (F0 m 53 ls [.int y11, .ref (q 0)]) := by
      intro y11 H locs ls  hl hW hS hm hf
      rw [ej12] at hf
      obtain ⟨r13, M15, hc14, hf⟩ := op_cl2 hf
      refine z_callV (As := [.int y11]) (rest := []) ⟨hx, hb, hml, hown, hts⟩ (tX10_refused l Γ lo S q M Y  hc14) (cwV 1 hts gX10_coin_X10_refused rfl rfl rfl (by decide +kernel) ⟨Nat.le_of_ble_eq_true rfl, Nat.le_of_ble_eq_true rfl⟩) (wd_x hW (k := 0) rfl) rfl hKK hW hS rfl hl.1 rfl (Nat.le_of_ble_eq_true rfl) dX10_coin_53 ⟨Nat.zero_le _, Nat.zero_le _⟩ (fun H locs hW hS hm1 hE => ?_)
      have b16 := hE
      refine lv_if_eq (tgt := 61) hx hb dX10_coin_56 (by decide) (fun k56 => ?_) (fun k56 => ?_)
      · have hf := (op_if hf).1 k56
        refine lv_aload_n hx hb dX10_coin_61 rfl (lv_at hl 0 rfl) ?_
        refine va_get hx hb hts ni_X10_coin_X10 hown hKK.1 (wd_x hW (k := 0) rfl) 0 rfl rfl 24 (by decide) (hts (.fieldLink RX10 165 "TiltRouteModel" "games" "I") (List.mem_of_getElem? (i := 1) rfl)) (fun _ h => h) rfl dX10_coin_62 ?_
        obtain ⟨x17, ex17, hf⟩ := op_st hf
        refine z_istn (lv' := [(3, .int x17), (0, .ref (q 0)), (1, .int i_1)]) ex17 hx hb dX10_coin_65 rfl hl (by decide) rfl (fun ls hl => ?_)
        refine lv_aload_n hx hb dX10_coin_66 rfl (lv_at hl 1 rfl) ?_
        refine va_get hx hb hts ni_X10_coin_X10 hown hKK.1 (wd_x hW (k := 0) rfl) 0 rfl rfl 25 (by decide) (hts (.fieldLink RX10 74 "TiltRouteModel" "tableOf" "[I") (List.mem_of_getElem? (i := 2) rfl)) (fun _ h => h) rfl dX10_coin_67 ?_
        refine lv_iload_n hx hb dX10_coin_70 rfl (lv_at hl 0 rfl) ?_
        refine lv_iload_n hx hb dX10_coin_71 rfl (lv_at hl 2 rfl) ?_
        obtain ⟨h72, hf⟩ := op_gd hf
        obtain ⟨M18, eM18, hf⟩ := op_st hf
        refine m_iast hx hb hKK.1 hW hS 25 22 40 rfl h72 eM18 (ms_25 Γ q _ Y _ _) dX10_coin_72 (fun H locs hW hS => ?_)
        refine lv_aload_n hx hb dX10_coin_73 rfl (lv_at hl 1 rfl) ?_
        refine va_get hx hb hts ni_X10_coin_X10 hown hKK.1 (wd_x hW (k := 0) rfl) 0 rfl rfl 26 (by decide) (hts (.fieldLink RX10 77 "TiltRouteModel" "left" "[I") (List.mem_of_getElem? (i := 3) rfl)) (fun _ h => h) rfl dX10_coin_74 ?_
        refine lv_iload_n hx hb dX10_coin_77 rfl (lv_at hl 0 rfl) ?_
        refine lv_iconst (v := (3)) hx hb dX10_coin_78 (by decide) ?_
        obtain ⟨h79, hf⟩ := op_gd hf
        obtain ⟨M19, eM19, hf⟩ := op_st hf
        refine m_iast hx hb hKK.1 hW hS 26 23 40 rfl h79 eM19 (ms_26 Γ q _ Y _ _) dX10_coin_79 (fun H locs hW hS => ?_)
        refine lv_iconst (v := (0)) hx hb dX10_coin_80 (by decide) ?_
        obtain ⟨x20, ex20, hf⟩ := op_st hf
        have bx20 : x20 = 0 ∨ x20 = 1 := Or.inl ex20
        refine z_ist (lv' := [(4, .int x20), (3, .int x17), (0, .ref (q 0)), (1, .int i_1)]) ex20 hx hb dX10_coin_81 hl (by decide) rfl (fun ls hl => ?_)
        obtain ⟨w23, q210, ew23, eq210, hf⟩ := op_lb hf
        have hw23 : ∀ n26 : Nat, ∀ (q21 : (Int32 × zMs)) (H : Heap) (locs : List Loc) (ls : Array Slot), lv_has ls 5 [(4, .int q21.1), (3, .int x17), (0, .ref (q 0)), (1, .int i_1)] → Wd Γ lo S (mcl Γ q q21.2 ++ Y) H → va_S (zA Γ) s.heap H locs → (∀ c, zV S c = zV S c) → lp w23 n26 q21 = some y → W p l e (headSpec wsX10_coin rmX10_coin).room s m ([.ref (q 0), .int i_1] : List Value).toArray below meth c H locs 0 0 (MQ below (zQ0 Γ lo S S (mcl Γ q y.2 ++ Y) (some (.int y.1)) True) ([.ref (q 0), .int i_1] : List Value).toArray s 0 0 (zA Γ)) (F0 m 83 ls []) := by
          intro n26
          induction n26 with
          | zero => intro q21 H locs ls hl hW hS hm hf; cases hf
          | succ n26 ih24 =>
            intro q21 H locs ls hl hW hS hm hf
            obtain ⟨n_, r22, hn_, hf, hr25⟩ := op_lq hf
            cases hn_
            rw [ew23] at hf
            refine lv_iload hx hb dX10_coin_83 (lv_at hl 0 rfl) ?_
            refine lv_bipush (v := (8)) hx hb dX10_coin_85 (by decide) ?_
            refine lv_icmp_ge (tgt := 120) hx hb dX10_coin_87 (by decide) (fun k87 => ?_) (fun k87 => ?_)
            · have hf := (op_if hf).1 k87
              refine lv_iconst (v := (0)) hx hb dX10_coin_120 (by decide) ?_
              obtain ⟨x27, ex27, hf⟩ := op_st hf
              have bx27 : x27 = 0 ∨ x27 = 1 := Or.inl ex27
              refine z_ist (lv' := [(4, .int x27), (3, .int x17), (0, .ref (q 0)), (1, .int i_1)]) ex27 hx hb dX10_coin_121 hl (by decide) rfl (fun ls hl => ?_)
              obtain ⟨w30, q280, ew30, eq280, hf⟩ := op_lb hf
              have hw30 : ∀ n33 : Nat, ∀ (q28 : (Int32 × zMs)) (H : Heap) (locs : List Loc) (ls : Array Slot), lv_has ls 5 [(4, .int q28.1), (3, .int x17), (0, .ref (q 0)), (1, .int i_1)] → Wd Γ lo S (mcl Γ q q28.2 ++ Y) H → va_S (zA Γ) s.heap H locs → (∀ c, zV S c = zV S c) → lp w30 n33 q28 = some r22 → W p l e (headSpec wsX10_coin rmX10_coin).room s m ([.ref (q 0), .int i_1] : List Value).toArray below meth c H locs 0 0 (MQ below (zQ0 Γ lo S S (mcl Γ q y.2 ++ Y) (some (.int y.1)) True) ([.ref (q 0), .int i_1] : List Value).toArray s 0 0 (zA Γ)) (F0 m 123 ls []) := by
                intro n33
                induction n33 with
                | zero => intro q28 H locs ls hl hW hS hm hf; cases hf
                | succ n33 ih31 =>
                  intro q28 H locs ls hl hW hS hm hf
                  obtain ⟨n_, r29, hn_, hf, hr32⟩ := op_lq hf
                  cases hn_
                  rw [ew30] at hf
                  refine lv_iload hx hb dX10_coin_123 (lv_at hl 0 rfl) ?_
                  refine lv_iconst (v := (4)) hx hb dX10_coin_125 (by decide) ?_
                  refine lv_icmp_ge (tgt := 245) hx hb dX10_coin_126 (by decide) (fun k126 => ?_) (fun k126 => ?_)
                  · have hf := (op_if hf).1 k126
                    refine lv_aload_n hx hb dX10_coin_245 rfl (lv_at hl 2 rfl) ?_
                    refine va_get hx hb hts ni_X10_coin_X10 hown hKK.1 (wd_x hW (k := 0) rfl) 0 rfl rfl 4 (by decide) (hts (.fieldLink RX10 16 "TiltRouteModel" "boxes" "[I") (List.mem_of_getElem? (i := 16) rfl)) (fun _ h => h) rfl dX10_coin_246 ?_
                    refine lv_iload_n hx hb dX10_coin_249 rfl (lv_at hl 3 rfl) ?_
                    refine lv_dup2_11 hx hb dX10_coin_250 rfl rfl ?_
                    obtain ⟨h251, hf⟩ := op_gd hf
                    refine va_iald hx hb hKK.1 (wd_x hW (k := 3) rfl) 0 0 (n := 6) rfl rfl h251 dX10_coin_251 ?_
                    refine lv_aload_n hx hb dX10_coin_252 rfl (lv_at hl 2 rfl) ?_
                    refine va_get hx hb hts ni_X10_coin_X10 hown hKK.1 (wd_x hW (k := 0) rfl) 0 rfl rfl 3 (by decide) (hts (.fieldLink RX10 13 "TiltRouteModel" "prices" "[I") (List.mem_of_getElem? (i := 17) rfl)) (fun _ h => h) rfl dX10_coin_253 ?_
                    refine lv_iload_n hx hb dX10_coin_256 rfl (lv_at hl 3 rfl) ?_
                    obtain ⟨h257, hf⟩ := op_gd hf
                    refine va_iald hx hb hKK.1 (wd_x hW (k := 2) rfl) 0 0 (n := 6) rfl rfl h257 dX10_coin_257 ?_
                    refine lv_iadd hx hb dX10_coin_258 ?_
                    obtain ⟨h259, hf⟩ := op_gd hf
                    obtain ⟨M34, eM34, hf⟩ := op_st hf
                    refine m_iast hx hb hKK.1 hW hS 4 3 6 rfl h259 eM34 (ms_4 Γ q _ Y _ _) dX10_coin_259 (fun H locs hW hS => ?_)
                    refine lv_aload_n hx hb dX10_coin_260 rfl (lv_at hl 2 rfl) ?_
                    refine va_get hx hb hts ni_X10_coin_X10 hown hKK.1 (wd_x hW (k := 0) rfl) 0 rfl rfl 5 (by decide) (hts (.fieldLink RX10 19 "TiltRouteModel" "brought" "[I") (List.mem_of_getElem? (i := 18) rfl)) (fun _ h => h) rfl dX10_coin_261 ?_
                    refine lv_iload_n hx hb dX10_coin_264 rfl (lv_at hl 3 rfl) ?_
                    refine lv_dup2_11 hx hb dX10_coin_265 rfl rfl ?_
                    obtain ⟨h266, hf⟩ := op_gd hf
                    refine va_iald hx hb hKK.1 (wd_x hW (k := 4) rfl) 0 0 (n := 6) rfl rfl h266 dX10_coin_266 ?_
                    refine lv_aload_n hx hb dX10_coin_267 rfl (lv_at hl 2 rfl) ?_
                    refine va_get hx hb hts ni_X10_coin_X10 hown hKK.1 (wd_x hW (k := 0) rfl) 0 rfl rfl 3 (by decide) (hts (.fieldLink RX10 13 "TiltRouteModel" "prices" "[I") (List.mem_of_getElem? (i := 17) rfl)) (fun _ h => h) rfl dX10_coin_268 ?_
                    refine lv_iload_n hx hb dX10_coin_271 rfl (lv_at hl 3 rfl) ?_
                    obtain ⟨h272, hf⟩ := op_gd hf
                    refine va_iald hx hb hKK.1 (wd_x hW (k := 2) rfl) 0 0 (n := 6) rfl rfl h272 dX10_coin_272 ?_
                    refine lv_iadd hx hb dX10_coin_273 ?_
                    obtain ⟨h274, hf⟩ := op_gd hf
                    obtain ⟨M35, eM35, hf⟩ := op_st hf
                    refine m_iast hx hb hKK.1 hW hS 5 4 6 rfl h274 eM35 (ms_5 Γ q _ Y _ _) dX10_coin_274 (fun H locs hW hS => ?_)
                    refine lv_aload_n hx hb dX10_coin_275 rfl (lv_at hl 2 rfl) ?_
                    refine va_get hx hb hts ni_X10_coin_X10 hown hKK.1 (wd_x hW (k := 0) rfl) 0 rfl rfl 7 (by decide) (hts (.fieldLink RX10 25 "TiltRouteModel" "onNow" "[I") (List.mem_of_getElem? (i := 19) rfl)) (fun _ h => h) rfl dX10_coin_276 ?_
                    refine lv_iload_n hx hb dX10_coin_279 rfl (lv_at hl 3 rfl) ?_
                    refine lv_iload_n hx hb dX10_coin_280 rfl (lv_at hl 1 rfl) ?_
                    obtain ⟨h281, hf⟩ := op_gd hf
                    obtain ⟨M36, eM36, hf⟩ := op_st hf
                    refine m_iast hx hb hKK.1 hW hS 7 6 6 rfl h281 eM36 (ms_7 Γ q _ Y _ _) dX10_coin_281 (fun H locs hW hS => ?_)
                    refine lv_aload_n hx hb dX10_coin_282 rfl (lv_at hl 2 rfl) ?_
                    refine lv_dup hx hb dX10_coin_283 rfl ?_
                    refine va_get hx hb hts ni_X10_coin_X10 hown hKK.1 (wd_x hW (k := 0) rfl) 0 rfl rfl 24 (by decide) (hts (.fieldLink RX10 165 "TiltRouteModel" "games" "I") (List.mem_of_getElem? (i := 1) rfl)) (fun _ h => h) rfl dX10_coin_284 ?_
                    refine lv_iconst (v := (1)) hx hb dX10_coin_287 (by decide) ?_
                    refine lv_iadd hx hb dX10_coin_288 ?_
                    obtain ⟨M37, eM37, hf⟩ := op_st hf
                    refine m_put hx hb hts ni_X10_coin_X10 hown hKK.1 hW hS 24 (by decide) (hts (.fieldLink RX10 165 "TiltRouteModel" "games" "I") (List.mem_of_getElem? (i := 1) rfl)) rfl rfl rfl eM37 (ms_24 Γ q _ Y _) dX10_coin_289 (fun H locs hW hS => ?_)
                    refine lv_iload_n hx hb dX10_coin_292 rfl (lv_at hl 1 rfl) ?_
                    have hf := zr_r hf hr32
                    have hf := congrArg some hf
                    have hf := zr_r hf hr25
                    rw [← hf]
                    exact z_iret hx hb hr hlocks rfl hW hS hm trivial dX10_coin_293
                  · have hf := (op_if hf).2 k126
                    refine lv_aload_n hx hb dX10_coin_129 rfl (lv_at hl 2 rfl) ?_
                    refine va_get hx hb hts ni_X10_coin_X10 hown hKK.1 (wd_x hW (k := 0) rfl) 0 rfl rfl 29 (by decide) (hts (.fieldLink RX10 86 "TiltRouteModel" "ownBegins" "[I") (List.mem_of_getElem? (i := 6) rfl)) (fun _ h => h) rfl dX10_coin_130 ?_
                    refine lv_iconst (v := (4)) hx hb dX10_coin_133 (by decide) ?_
                    refine lv_iload_n hx hb dX10_coin_134 rfl (lv_at hl 1 rfl) ?_
                    refine lv_imul hx hb dX10_coin_135 ?_
                    refine lv_iload hx hb dX10_coin_136 (lv_at hl 0 rfl) ?_
                    refine lv_iadd hx hb dX10_coin_138 ?_
                    refine lv_aload_n hx hb dX10_coin_139 rfl (lv_at hl 2 rfl) ?_
                    refine va_get hx hb hts ni_X10_coin_X10 hown hKK.1 (wd_x hW (k := 0) rfl) 0 rfl rfl 17 (by decide) (hts (.fieldLink RX10 55 "TiltRouteModel" "begins" "[I") (List.mem_of_getElem? (i := 7) rfl)) (fun _ h => h) rfl dX10_coin_140 ?_
                    refine lv_iconst (v := (4)) hx hb dX10_coin_143 (by decide) ?_
                    refine lv_iload_n hx hb dX10_coin_144 rfl (lv_at hl 3 rfl) ?_
                    refine lv_imul hx hb dX10_coin_145 ?_
                    refine lv_iload hx hb dX10_coin_146 (lv_at hl 0 rfl) ?_
                    refine lv_iadd hx hb dX10_coin_148 ?_
                    obtain ⟨h149, hf⟩ := op_gd hf
                    refine va_iald hx hb hKK.1 (wd_x hW (k := 16) rfl) 0 0 (n := 24) rfl rfl h149 dX10_coin_149 ?_
                    obtain ⟨h150, hf⟩ := op_gd hf
                    obtain ⟨M38, eM38, hf⟩ := op_st hf
                    refine m_iast hx hb hKK.1 hW hS 29 26 160 rfl h150 eM38 (ms_29 Γ q _ Y _ _) dX10_coin_150 (fun H locs hW hS => ?_)
                    refine lv_aload_n hx hb dX10_coin_151 rfl (lv_at hl 2 rfl) ?_
                    refine va_get hx hb hts ni_X10_coin_X10 hown hKK.1 (wd_x hW (k := 0) rfl) 0 rfl rfl 30 (by decide) (hts (.fieldLink RX10 89 "TiltRouteModel" "ownEnds" "[I") (List.mem_of_getElem? (i := 8) rfl)) (fun _ h => h) rfl dX10_coin_152 ?_
                    refine lv_iconst (v := (4)) hx hb dX10_coin_155 (by decide) ?_
                    refine lv_iload_n hx hb dX10_coin_156 rfl (lv_at hl 1 rfl) ?_
                    refine lv_imul hx hb dX10_coin_157 ?_
                    refine lv_iload hx hb dX10_coin_158 (lv_at hl 0 rfl) ?_
                    refine lv_iadd hx hb dX10_coin_160 ?_
                    refine lv_aload_n hx hb dX10_coin_161 rfl (lv_at hl 2 rfl) ?_
                    refine va_get hx hb hts ni_X10_coin_X10 hown hKK.1 (wd_x hW (k := 0) rfl) 0 rfl rfl 18 (by decide) (hts (.fieldLink RX10 58 "TiltRouteModel" "ends" "[I") (List.mem_of_getElem? (i := 9) rfl)) (fun _ h => h) rfl dX10_coin_162 ?_
                    refine lv_iconst (v := (4)) hx hb dX10_coin_165 (by decide) ?_
                    refine lv_iload_n hx hb dX10_coin_166 rfl (lv_at hl 3 rfl) ?_
                    refine lv_imul hx hb dX10_coin_167 ?_
                    refine lv_iload hx hb dX10_coin_168 (lv_at hl 0 rfl) ?_
                    refine lv_iadd hx hb dX10_coin_170 ?_
                    obtain ⟨h171, hf⟩ := op_gd hf
                    refine va_iald hx hb hKK.1 (wd_x hW (k := 17) rfl) 0 0 (n := 24) rfl rfl h171 dX10_coin_171 ?_
                    obtain ⟨h172, hf⟩ := op_gd hf
                    obtain ⟨M39, eM39, hf⟩ := op_st hf
                    refine m_iast hx hb hKK.1 hW hS 30 27 160 rfl h172 eM39 (ms_30 Γ q _ Y _ _) dX10_coin_172 (fun H locs hW hS => ?_)
                    refine lv_aload_n hx hb dX10_coin_173 rfl (lv_at hl 2 rfl) ?_
                    refine va_get hx hb hts ni_X10_coin_X10 hown hKK.1 (wd_x hW (k := 0) rfl) 0 rfl rfl 31 (by decide) (hts (.fieldLink RX10 92 "TiltRouteModel" "ownLimits" "[I") (List.mem_of_getElem? (i := 10) rfl)) (fun _ h => h) rfl dX10_coin_174 ?_
                    refine lv_iconst (v := (4)) hx hb dX10_coin_177 (by decide) ?_
                    refine lv_iload_n hx hb dX10_coin_178 rfl (lv_at hl 1 rfl) ?_
                    refine lv_imul hx hb dX10_coin_179 ?_
                    refine lv_iload hx hb dX10_coin_180 (lv_at hl 0 rfl) ?_
                    refine lv_iadd hx hb dX10_coin_182 ?_
                    refine lv_aload_n hx hb dX10_coin_183 rfl (lv_at hl 2 rfl) ?_
                    refine va_get hx hb hts ni_X10_coin_X10 hown hKK.1 (wd_x hW (k := 0) rfl) 0 rfl rfl 19 (by decide) (hts (.fieldLink RX10 61 "TiltRouteModel" "limits" "[I") (List.mem_of_getElem? (i := 11) rfl)) (fun _ h => h) rfl dX10_coin_184 ?_
                    refine lv_iconst (v := (4)) hx hb dX10_coin_187 (by decide) ?_
                    refine lv_iload_n hx hb dX10_coin_188 rfl (lv_at hl 3 rfl) ?_
                    refine lv_imul hx hb dX10_coin_189 ?_
                    refine lv_iload hx hb dX10_coin_190 (lv_at hl 0 rfl) ?_
                    refine lv_iadd hx hb dX10_coin_192 ?_
                    obtain ⟨h193, hf⟩ := op_gd hf
                    refine va_iald hx hb hKK.1 (wd_x hW (k := 18) rfl) 0 0 (n := 24) rfl rfl h193 dX10_coin_193 ?_
                    obtain ⟨h194, hf⟩ := op_gd hf
                    obtain ⟨M40, eM40, hf⟩ := op_st hf
                    refine m_iast hx hb hKK.1 hW hS 31 28 160 rfl h194 eM40 (ms_31 Γ q _ Y _ _) dX10_coin_194 (fun H locs hW hS => ?_)
                    refine lv_aload_n hx hb dX10_coin_195 rfl (lv_at hl 2 rfl) ?_
                    refine va_get hx hb hts ni_X10_coin_X10 hown hKK.1 (wd_x hW (k := 0) rfl) 0 rfl rfl 32 (by decide) (hts (.fieldLink RX10 95 "TiltRouteModel" "ownTimes" "[I") (List.mem_of_getElem? (i := 12) rfl)) (fun _ h => h) rfl dX10_coin_196 ?_
                    refine lv_iconst (v := (4)) hx hb dX10_coin_199 (by decide) ?_
                    refine lv_iload_n hx hb dX10_coin_200 rfl (lv_at hl 1 rfl) ?_
                    refine lv_imul hx hb dX10_coin_201 ?_
                    refine lv_iload hx hb dX10_coin_202 (lv_at hl 0 rfl) ?_
                    refine lv_iadd hx hb dX10_coin_204 ?_
                    refine lv_aload_n hx hb dX10_coin_205 rfl (lv_at hl 2 rfl) ?_
                    refine va_get hx hb hts ni_X10_coin_X10 hown hKK.1 (wd_x hW (k := 0) rfl) 0 rfl rfl 20 (by decide) (hts (.fieldLink RX10 64 "TiltRouteModel" "times" "[I") (List.mem_of_getElem? (i := 13) rfl)) (fun _ h => h) rfl dX10_coin_206 ?_
                    refine lv_iconst (v := (4)) hx hb dX10_coin_209 (by decide) ?_
                    refine lv_iload_n hx hb dX10_coin_210 rfl (lv_at hl 3 rfl) ?_
                    refine lv_imul hx hb dX10_coin_211 ?_
                    refine lv_iload hx hb dX10_coin_212 (lv_at hl 0 rfl) ?_
                    refine lv_iadd hx hb dX10_coin_214 ?_
                    obtain ⟨h215, hf⟩ := op_gd hf
                    refine va_iald hx hb hKK.1 (wd_x hW (k := 19) rfl) 0 0 (n := 24) rfl rfl h215 dX10_coin_215 ?_
                    obtain ⟨h216, hf⟩ := op_gd hf
                    obtain ⟨M41, eM41, hf⟩ := op_st hf
                    refine m_iast hx hb hKK.1 hW hS 32 29 160 rfl h216 eM41 (ms_32 Γ q _ Y _ _) dX10_coin_216 (fun H locs hW hS => ?_)
                    refine lv_aload_n hx hb dX10_coin_217 rfl (lv_at hl 2 rfl) ?_
                    refine va_get hx hb hts ni_X10_coin_X10 hown hKK.1 (wd_x hW (k := 0) rfl) 0 rfl rfl 33 (by decide) (hts (.fieldLink RX10 98 "TiltRouteModel" "ownBonuses" "[I") (List.mem_of_getElem? (i := 14) rfl)) (fun _ h => h) rfl dX10_coin_218 ?_
                    refine lv_iconst (v := (4)) hx hb dX10_coin_221 (by decide) ?_
                    refine lv_iload_n hx hb dX10_coin_222 rfl (lv_at hl 1 rfl) ?_
                    refine lv_imul hx hb dX10_coin_223 ?_
                    refine lv_iload hx hb dX10_coin_224 (lv_at hl 0 rfl) ?_
                    refine lv_iadd hx hb dX10_coin_226 ?_
                    refine lv_aload_n hx hb dX10_coin_227 rfl (lv_at hl 2 rfl) ?_
                    refine va_get hx hb hts ni_X10_coin_X10 hown hKK.1 (wd_x hW (k := 0) rfl) 0 rfl rfl 21 (by decide) (hts (.fieldLink RX10 67 "TiltRouteModel" "bonuses" "[I") (List.mem_of_getElem? (i := 15) rfl)) (fun _ h => h) rfl dX10_coin_228 ?_
                    refine lv_iconst (v := (4)) hx hb dX10_coin_231 (by decide) ?_
                    refine lv_iload_n hx hb dX10_coin_232 rfl (lv_at hl 3 rfl) ?_
                    refine lv_imul hx hb dX10_coin_233 ?_
                    refine lv_iload hx hb dX10_coin_234 (lv_at hl 0 rfl) ?_
                    refine lv_iadd hx hb dX10_coin_236 ?_
                    obtain ⟨h237, hf⟩ := op_gd hf
                    refine va_iald hx hb hKK.1 (wd_x hW (k := 20) rfl) 0 0 (n := 24) rfl rfl h237 dX10_coin_237 ?_
                    obtain ⟨h238, hf⟩ := op_gd hf
                    obtain ⟨M42, eM42, hf⟩ := op_st hf
                    refine m_iast hx hb hKK.1 hW hS 33 30 160 rfl h238 eM42 (ms_33 Γ q _ Y _ _) dX10_coin_238 (fun H locs hW hS => ?_)
                    obtain ⟨x43, ex43, hf⟩ := op_st hf
                    refine lv_iinc (v := x43) (lv' := [(4, .int x43), (3, .int x17), (0, .ref (q 0)), (1, .int i_1)]) hx hb dX10_coin_239 hl (k := 0) rfl (by rw [ex43]; rfl) (by decide) rfl (fun ls hl => ?_)
                    refine lv_goto (tgt := 123) hx hb dX10_coin_242 (by decide) ?_
                    have hf := zr_l hf hr32
                    exact ih31 (x43, M42) H locs ls (lv_sub hl [0, 1, 2, 3] rfl) hW hS hm hf
              rw [eq280] at hf
              exact hw30 _ (x27, q21.2) H locs ls (lv_sub hl [0, 1, 2, 3] rfl) hW hS hm hf
            · have hf := (op_if hf).2 k87
              refine lv_aload_n hx hb dX10_coin_90 rfl (lv_at hl 2 rfl) ?_
              refine va_get hx hb hts ni_X10_coin_X10 hown hKK.1 (wd_x hW (k := 0) rfl) 0 rfl rfl 28 (by decide) (hts (.fieldLink RX10 83 "TiltRouteModel" "ownPoints" "[I") (List.mem_of_getElem? (i := 4) rfl)) (fun _ h => h) rfl dX10_coin_91 ?_
              refine lv_bipush (v := (8)) hx hb dX10_coin_94 (by decide) ?_
              refine lv_iload_n hx hb dX10_coin_96 rfl (lv_at hl 1 rfl) ?_
              refine lv_imul hx hb dX10_coin_97 ?_
              refine lv_iload hx hb dX10_coin_98 (lv_at hl 0 rfl) ?_
              refine lv_iadd hx hb dX10_coin_100 ?_
              refine lv_aload_n hx hb dX10_coin_101 rfl (lv_at hl 2 rfl) ?_
              refine va_get hx hb hts ni_X10_coin_X10 hown hKK.1 (wd_x hW (k := 0) rfl) 0 rfl rfl 14 (by decide) (hts (.fieldLink RX10 46 "TiltRouteModel" "points" "[I") (List.mem_of_getElem? (i := 5) rfl)) (fun _ h => h) rfl dX10_coin_102 ?_
              refine lv_bipush (v := (8)) hx hb dX10_coin_105 (by decide) ?_
              refine lv_iload_n hx hb dX10_coin_107 rfl (lv_at hl 3 rfl) ?_
              refine lv_imul hx hb dX10_coin_108 ?_
              refine lv_iload hx hb dX10_coin_109 (lv_at hl 0 rfl) ?_
              refine lv_iadd hx hb dX10_coin_111 ?_
              obtain ⟨h112, hf⟩ := op_gd hf
              refine va_iald hx hb hKK.1 (wd_x hW (k := 13) rfl) 0 0 (n := 48) rfl rfl h112 dX10_coin_112 ?_
              obtain ⟨h113, hf⟩ := op_gd hf
              obtain ⟨M44, eM44, hf⟩ := op_st hf
              refine m_iast hx hb hKK.1 hW hS 28 25 320 rfl h113 eM44 (ms_28 Γ q _ Y _ _) dX10_coin_113 (fun H locs hW hS => ?_)
              obtain ⟨x45, ex45, hf⟩ := op_st hf
              refine lv_iinc (v := x45) (lv' := [(4, .int x45), (3, .int x17), (0, .ref (q 0)), (1, .int i_1)]) hx hb dX10_coin_114 hl (k := 0) rfl (by rw [ex45]; rfl) (by decide) rfl (fun ls hl => ?_)
              refine lv_goto (tgt := 83) hx hb dX10_coin_117 (by decide) ?_
              have hf := zr_l hf hr25
              exact ih24 (x45, M44) H locs ls (lv_sub hl [0, 1, 2, 3] rfl) hW hS hm hf
        rw [eq210] at hf
        exact hw23 _ (x20, M19) H locs ls (lv_sub hl [0, 1, 2, 3] rfl) hW hS hm hf
      · have hf := (op_if hf).2 k56
        refine lv_iconst (v := (0)) hx hb dX10_coin_59 (by decide) ?_
        have hf := Option.some.inj hf
        rw [← hf]
        exact z_iret hx hb hr hlocks rfl hW hS hm trivial dX10_coin_60
    refine lv_if_ne (tgt := 44) hx hb dX10_coin_37 (by decide) (fun k37 => ?_) (fun k37 => ?_)
    · have hf := (op_if hf).2 k37
      refine lv_iload_n hx hb dX10_coin_44 rfl (lv_at hl 0 rfl) ?_
      refine lv_if_eq (tgt := 52) hx hb dX10_coin_45 (by decide) (fun k45 => ?_) (fun k45 => ?_)
      · have hf := (op_if hf).1 k45
        refine lv_iconst (v := (2)) hx hb dX10_coin_52 (by decide) ?_
        exact hj12 (2 : Int32) H locs ls  (lv_sub hl [1, 2] rfl) hW hS hm hf
      · have hf := (op_if hf).2 k45
        refine lv_iconst (v := (0)) hx hb dX10_coin_48 (by decide) ?_
        refine lv_goto (tgt := 53) hx hb dX10_coin_49 (by decide) ?_
        exact hj12 (0 : Int32) H locs ls  (lv_sub hl [1, 2] rfl) hW hS hm hf
    · have hf := (op_if hf).1 k37
      refine lv_iconst (v := (1)) hx hb dX10_coin_40 (by decide) ?_
      refine lv_goto (tgt := 53) hx hb dX10_coin_41 (by decide) ?_
      exact hj12 (1 : Int32) H locs ls  (lv_sub hl [1, 2] rfl) hW hS hm hf
  obtain ⟨j46, ej46, hf⟩ := op_st hf
  have hj46 : ∀ (u_ : Unit) (H : Heap) (locs : List Loc) (ls : Array Slot), lv_has ls 5 [(0, .ref (q 0)), (1, .int i_1)] → Wd Γ lo S (mcl Γ q M ++ Y) H → va_S (zA Γ) s.heap H locs → (∀ c, zV S c = zV S c) → j46 () = some y → W p l e (headSpec wsX10_coin rmX10_coin).room s m ([.ref (q 0), .int i_1] : List Value).toArray below meth c H locs 0 0 (MQ below (zQ0 Γ lo S S (mcl Γ q y.2 ++ Y) (some (.int y.1)) True) ([.ref (q 0), .int i_1] : List Value).toArray s 0 0 (zA Γ)) (F0 m 29 ls []) := by
    intro u_ H locs ls  hl hW hS hm hf
    rw [ej46] at hf
    refine lv_iconst (v := (0)) hx hb dX10_coin_29 (by decide) ?_
    exact hj6 (0 : Int32) H locs ls (Or.inl rfl) (lv_sub hl [0, 1] rfl) hW hS hm hf
  refine lv_if_eq (tgt := 29) hx hb dX10_coin_5 (by decide) (fun k5 => ?_) (fun k5 => ?_)
  · have hf := (op_if hf).1 k5
    exact hj46 () H locs ls  (lv_sub hl [0, 1] rfl) hW hS hm hf
  · have hf := (op_if hf).2 k5
    refine lv_aload_n hx hb dX10_coin_8 rfl (lv_at hl 0 rfl) ?_
    refine lv_iload_n hx hb dX10_coin_9 rfl (lv_at hl 1 rfl) ?_
    obtain ⟨r47, hc48, hf⟩ := op_cl hf
    refine z_callV (As := [.int i_1]) (rest := []) ⟨hx, hb, hml, hown, hts⟩ (tX10_isFree l Γ lo S q M Y  hc48) (cwV 1 hts gX10_coin_X10_isFree rfl rfl rfl (by decide +kernel) ⟨Nat.le_of_ble_eq_true rfl, Nat.le_of_ble_eq_true rfl⟩) (wd_x hW (k := 0) rfl) rfl hKK hW hS rfl hl.1 rfl (Nat.le_of_ble_eq_true rfl) dX10_coin_10 ⟨Nat.zero_le _, Nat.zero_le _⟩ (fun H locs hW hS hm1 hE => ?_)
    have b49 := hE
    refine lv_if_eq (tgt := 29) hx hb dX10_coin_13 (by decide) (fun k13 => ?_) (fun k13 => ?_)
    · have hf := (op_if hf).1 k13
      exact hj46 () H locs ls  (lv_sub hl [0, 1] rfl) hW hS hm hf
    · have hf := (op_if hf).2 k13
      refine lv_aload_n hx hb dX10_coin_16 rfl (lv_at hl 0 rfl) ?_
      refine va_get hx hb hts ni_X10_coin_X10 hown hKK.1 (wd_x hW (k := 0) rfl) 0 rfl rfl 24 (by decide) (hts (.fieldLink RX10 165 "TiltRouteModel" "games" "I") (List.mem_of_getElem? (i := 1) rfl)) (fun _ h => h) rfl dX10_coin_17 ?_
      refine lv_bipush (v := (40)) hx hb dX10_coin_20 (by decide) ?_
      refine lv_icmp_ge (tgt := 29) hx hb dX10_coin_22 (by decide) (fun k22 => ?_) (fun k22 => ?_)
      · have hf := (op_if hf).1 k22
        exact hj46 () H locs ls  (lv_sub hl [0, 1] rfl) hW hS hm hf
      · have hf := (op_if hf).2 k22
        refine lv_iconst (v := (1)) hx hb dX10_coin_25 (by decide) ?_
        refine lv_goto (tgt := 30) hx hb dX10_coin_26 (by decide) ?_
        exact hj6 (1 : Int32) H locs ls (Or.inr rfl) (lv_sub hl [0, 1] rfl) hW hS hm hf

