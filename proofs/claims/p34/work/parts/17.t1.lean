theorem ni_X9_entryAt_X2 : ∀ w ∈ wsX20, w ∈ wsX9_entryAt := by decide +kernel
def fX9_entryAt (S : zSt) (i_1 : Int32) (i_2 : Int32) : Option ((Nat × zSt) ⊕ Int64) :=
cx (fX9_demandGame S i_1) fun r1 =>
cx (fX9_demandIndex S i_2 (zI S (3, r1, 0) 4)) fun r5 =>
cl (fX2_entryOf S r1 i_2) fun r8 =>
some (.inr r8)
abbrev rmX9_entryAt : Room := { frames := 4, cells := 0, slots := 0, locals := 85 }
set_option maxHeartbeats 4000000 in
set_option maxRecDepth 100000 in
theorem tX9_entryAt (l : Launch) (Γ : zG) (lo : zId → Nat) (S : zSt) (X : va_W) {i_1 : Int32} {i_2 : Int32} (v_z : zV S (10, 0, 0) = true) {y : Int64} (hf : fX9_entryAt S i_1 i_2 = some (Sum.inr y)) : Met l yX9_entryAt wsX9_entryAt rmX9_entryAt (zP0 Γ lo S X [.ref (lo (10, 0, 0)), .int i_1, .int i_2]) (zQ0 Γ lo S S X (some (.long y)) True) 0 0 (zA Γ) := by
  refine Met.ofW (cc := cX9_entryAt) (maxL := 4) (ret := (some .long)) (by decide) rfl ?_
  intro p e s m args below meth c s₁ B hml hv
  obtain ⟨rfl, hW, hKK⟩ := hv
  have hx := B.exec
  have hb := B.bytes
  have hr := B.returns
  have hts := atoms_spec (ws := wsX9_entryAt) B.pre
  have hown : s.vm.findClass RX9 = some m.cls := findClass_of_methodNamed B.named
  have hlocks := B.notSynchronized
  have hS : va_S (zA Γ) s.heap s.heap [] := va_S.rf
  have hm : ∀ c, zV S c = zV S c := fun _ => rfl
  have hl := lv_entry ([.ref (lo (10, 0, 0)), .int i_1, .int i_2]) (n := 4) (Nat.le_of_ble_eq_true rfl)
  rw [lg_entry_eq]
  generalize (lg_sl ([.ref (lo (10, 0, 0)), .int i_1, .int i_2]) ++ List.replicate (4 - (lg_sl ([.ref (lo (10, 0, 0)), .int i_1, .int i_2])).length) Slot.unset).toArray = ls at hl ⊢
  have hl : lv_has ls 4 [(0, .ref (lo (10, 0, 0))), (1, .int i_1), (2, .int i_2)] := hl
  obtain ⟨H, hH0⟩ : ∃ H, H = s.heap := ⟨_, rfl⟩
  obtain ⟨locs, hlo0⟩ : ∃ L : List Loc, L = [] := ⟨_, rfl⟩
  have hS : va_S (zA Γ) s.heap H locs := by rw [hH0, hlo0]; exact hS
  have hW : Wd Γ lo S X H := by rw [hH0]; exact hW
  rw [← hH0, ← hlo0]
  unfold fX9_entryAt at hf
  refine lv_aload_n hx hb dX9_entryAt_0 rfl (lv_at hl 0 rfl) ?_
  refine lv_iload_n hx hb dX9_entryAt_1 rfl (lv_at hl 1 rfl) ?_
  rcases op_cx hf with ⟨ee3, hc2, hf⟩ | ⟨r1, hc2, hf⟩
  · have hf := congrArg some hf
    have hf := Option.some.inj hf
    cases hf
  · skip
    refine z_callV (As := [.int i_1]) (rest := []) ⟨hx, hb, hml, hown, hts⟩ (tX9_demandGame l Γ lo S X v_z hc2) (cwV 1 hts gX9_entryAt_X9_demandGame rfl rfl rfl (by decide +kernel) ⟨Nat.le_of_ble_eq_true rfl, Nat.le_of_ble_eq_true rfl⟩) (wd_1 hW v_z) rfl hKK hW hS rfl hl.1 rfl (Nat.le_of_ble_eq_true rfl) dX9_entryAt_2 ⟨Nat.zero_le _, Nat.zero_le _⟩ (fun H locs hW hS hm1 hE => ?_)
    have v4 : zV S (3, r1, 0) = true := hE
    refine lv_astore_n (lv' := [(3, .ref (lo (3, r1, 0))), (0, .ref (lo (10, 0, 0))), (1, .int i_1), (2, .int i_2)]) hx hb dX9_entryAt_5 rfl hl (by decide) rfl (fun ls hl => ?_)
    refine lv_iload_n hx hb dX9_entryAt_6 rfl (lv_at hl 3 rfl) ?_
    refine lv_aload_n hx hb dX9_entryAt_7 rfl (lv_at hl 0 rfl) ?_
    refine va_get hx hb hts ni_X9_entryAt_X2 hown hKK.1 (wd_1 hW v4) 0 rfl rfl 4 (by decide) (hts (.fieldLink RX9 202 "TiltRoute$Game" "logged" "I") (List.mem_of_getElem? (i := 1) rfl)) (fun _ h => h) rfl dX9_entryAt_8 ?_
    rcases op_cx hf with ⟨ee7, hc6, hf⟩ | ⟨r5, hc6, hf⟩
    · have hf := congrArg some hf
      have hf := Option.some.inj hf
      cases hf
    · skip
      refine z_callS (As := [.int i_2, .int (zI S (3, r1, 0) 4)]) (rest := []) ⟨hx, hb, hml, hown, hts⟩ (tX9_demandIndex l Γ lo S X  hc6) (va_cwS 2 hts gX9_entryAt_X9_demandIndex rfl rfl rfl (by decide +kernel) ⟨Nat.le_of_ble_eq_true rfl, Nat.le_of_ble_eq_true rfl⟩) hKK hW hS rfl hl.1 rfl (Nat.le_of_ble_eq_true rfl) dX9_entryAt_11 ⟨Nat.zero_le _, Nat.zero_le _⟩ (fun H locs hW hS hm1 hE => ?_)
      refine lv_aload_n hx hb dX9_entryAt_14 rfl (lv_at hl 0 rfl) ?_
      refine lv_iload_n hx hb dX9_entryAt_15 rfl (lv_at hl 3 rfl) ?_
      obtain ⟨r8, hc9, hf⟩ := op_cl hf
      refine z_callV (As := [.int i_2]) (rest := []) ⟨hx, hb, hml, hown, hts⟩ (tX2_entryOf l Γ lo S X v4 hc9) (cwV 1 hts gX9_entryAt_X2_entryOf rfl rfl rfl (by decide +kernel) ⟨Nat.le_of_ble_eq_true rfl, Nat.le_of_ble_eq_true rfl⟩) (wd_1 hW v4) rfl hKK hW hS rfl hl.1 rfl (Nat.le_of_ble_eq_true rfl) dX9_entryAt_16 ⟨Nat.zero_le _, Nat.zero_le _⟩ (fun H locs hW hS hm1 hE => ?_)
      have hf := Option.some.inj hf
      have hf := Sum.inr.inj hf
      rw [← hf]
      exact z_lret hx hb hr hlocks hW hS hm trivial dX9_entryAt_19
abbrev rnX9_entryAt : Room := { frames := 7, cells := 1, slots := 6, locals := 103 }
set_option maxHeartbeats 4000000 in
set_option maxRecDepth 100000 in
theorem uX9_entryAt (l : Launch) (hl0 : l.stackTraces = false) (Γ : zG) (lo : zId → Nat) (S : zSt) (X : va_W) {i_1 : Int32} {i_2 : Int32} (v_z : zV S (10, 0, 0) = true) {ee : Nat × zSt} (hf : fX9_entryAt S i_1 i_2 = some (Sum.inl ee)) : vx_Met l yX9_entryAt wsX9_entryAt rnX9_entryAt (zP1 Γ lo S X [.ref (lo (10, 0, 0)), .int i_1, .int i_2]) zF (zT Γ lo S X ee) 1 6 (zA Γ) := by
  refine vx_ofW (cc := cX9_entryAt) (maxL := 4) (ret := (some .long)) (by decide) rfl ?_
  intro p e s m args below meth c s₁ B hml ht hv
  obtain ⟨rfl, hW, hKK, hKX⟩ := hv
  have hx := B.exec
  have hb := B.bytes
  have hr := B.returns
  have hts := atoms_spec (ws := wsX9_entryAt) B.pre
  have hown : s.vm.findClass RX9 = some m.cls := findClass_of_methodNamed B.named
  have hlocks := B.notSynchronized
  have hS : va_S (zA Γ) s.heap s.heap [] := va_S.rf
  have hm : ∀ c, zV S c = zV S c := fun _ => rfl
  have hl := lv_entry ([.ref (lo (10, 0, 0)), .int i_1, .int i_2]) (n := 4) (Nat.le_of_ble_eq_true rfl)
  rw [lg_entry_eq]
  generalize (lg_sl ([.ref (lo (10, 0, 0)), .int i_1, .int i_2]) ++ List.replicate (4 - (lg_sl ([.ref (lo (10, 0, 0)), .int i_1, .int i_2])).length) Slot.unset).toArray = ls at hl ⊢
  have hl : lv_has ls 4 [(0, .ref (lo (10, 0, 0))), (1, .int i_1), (2, .int i_2)] := hl
  obtain ⟨H, hH0⟩ : ∃ H, H = s.heap := ⟨_, rfl⟩
  obtain ⟨locs, hlo0⟩ : ∃ L : List Loc, L = [] := ⟨_, rfl⟩
  have hS : va_S (zA Γ) s.heap H locs := by rw [hH0, hlo0]; exact hS
  have hW : Wd Γ lo S X H := by rw [hH0]; exact hW
  rw [← hH0, ← hlo0]
  unfold fX9_entryAt at hf
  refine lv_aload_n hx hb dX9_entryAt_0 rfl (lv_at hl 0 rfl) ?_
  refine lv_iload_n hx hb dX9_entryAt_1 rfl (lv_at hl 1 rfl) ?_
  rcases op_cx hf with ⟨ee3, hc2, hf⟩ | ⟨r1, hc2, hf⟩
  · have hf := congrArg some hf
    have hf := Option.some.inj hf
    have hf := Sum.inl.inj hf
    rw [← hf]
    exact zx_callV (As := [.int i_1]) (rest := []) ⟨hx, hb, hml, hown, hts⟩ (uX9_demandGame l hl0 Γ lo S X v_z hc2) (cwV 1 hts gX9_entryAt_X9_demandGame rfl rfl rfl (by decide +kernel) ⟨Nat.le_of_ble_eq_true rfl, Nat.le_of_ble_eq_true rfl⟩) (wd_1 hW v_z) rfl hKK hKX hW hS hm rfl hl.1 rfl (Nat.le_of_ble_eq_true rfl) dX9_entryAt_2 ⟨Nat.le_of_ble_eq_true rfl, Nat.le_of_ble_eq_true rfl⟩ ht hlocks
  · skip
    refine z_callV (As := [.int i_1]) (rest := []) ⟨hx, hb, hml, hown, hts⟩ (tX9_demandGame l Γ lo S X v_z hc2) (cwV 1 hts gX9_entryAt_X9_demandGame rfl rfl rfl (by decide +kernel) ⟨Nat.le_of_ble_eq_true rfl, Nat.le_of_ble_eq_true rfl⟩) (wd_1 hW v_z) rfl hKK hW hS rfl hl.1 rfl (Nat.le_of_ble_eq_true rfl) dX9_entryAt_2 ⟨Nat.zero_le _, Nat.zero_le _⟩ (fun H locs hW hS hm1 hE => ?_)
    have v4 : zV S (3, r1, 0) = true := hE
    refine lv_astore_n (lv' := [(3, .ref (lo (3, r1, 0))), (0, .ref (lo (10, 0, 0))), (1, .int i_1), (2, .int i_2)]) hx hb dX9_entryAt_5 rfl hl (by decide) rfl (fun ls hl => ?_)
    refine lv_iload_n hx hb dX9_entryAt_6 rfl (lv_at hl 3 rfl) ?_
    refine lv_aload_n hx hb dX9_entryAt_7 rfl (lv_at hl 0 rfl) ?_
    refine va_get hx hb hts ni_X9_entryAt_X2 hown hKK.1 (wd_1 hW v4) 0 rfl rfl 4 (by decide) (hts (.fieldLink RX9 202 "TiltRoute$Game" "logged" "I") (List.mem_of_getElem? (i := 1) rfl)) (fun _ h => h) rfl dX9_entryAt_8 ?_
    rcases op_cx hf with ⟨ee7, hc6, hf⟩ | ⟨r5, hc6, hf⟩
    · have hf := congrArg some hf
      have hf := Option.some.inj hf
      have hf := Sum.inl.inj hf
      rw [← hf]
      exact zx_callS (As := [.int i_2, .int (zI S (3, r1, 0) 4)]) (rest := []) ⟨hx, hb, hml, hown, hts⟩ (uX9_demandIndex l hl0 Γ lo S X  hc6) (va_cwS 2 hts gX9_entryAt_X9_demandIndex rfl rfl rfl (by decide +kernel) ⟨Nat.le_of_ble_eq_true rfl, Nat.le_of_ble_eq_true rfl⟩) hKK hKX hW hS hm rfl hl.1 rfl (Nat.le_of_ble_eq_true rfl) dX9_entryAt_11 ⟨Nat.le_of_ble_eq_true rfl, Nat.le_of_ble_eq_true rfl⟩ ht hlocks
    · skip
      refine z_callS (As := [.int i_2, .int (zI S (3, r1, 0) 4)]) (rest := []) ⟨hx, hb, hml, hown, hts⟩ (tX9_demandIndex l Γ lo S X  hc6) (va_cwS 2 hts gX9_entryAt_X9_demandIndex rfl rfl rfl (by decide +kernel) ⟨Nat.le_of_ble_eq_true rfl, Nat.le_of_ble_eq_true rfl⟩) hKK hW hS rfl hl.1 rfl (Nat.le_of_ble_eq_true rfl) dX9_entryAt_11 ⟨Nat.zero_le _, Nat.zero_le _⟩ (fun H locs hW hS hm1 hE => ?_)
      refine lv_aload_n hx hb dX9_entryAt_14 rfl (lv_at hl 0 rfl) ?_
      refine lv_iload_n hx hb dX9_entryAt_15 rfl (lv_at hl 3 rfl) ?_
      obtain ⟨r8, hc9, hf⟩ := op_cl hf
      refine z_callV (As := [.int i_2]) (rest := []) ⟨hx, hb, hml, hown, hts⟩ (tX2_entryOf l Γ lo S X v4 hc9) (cwV 1 hts gX9_entryAt_X2_entryOf rfl rfl rfl (by decide +kernel) ⟨Nat.le_of_ble_eq_true rfl, Nat.le_of_ble_eq_true rfl⟩) (wd_1 hW v4) rfl hKK hW hS rfl hl.1 rfl (Nat.le_of_ble_eq_true rfl) dX9_entryAt_16 ⟨Nat.zero_le _, Nat.zero_le _⟩ (fun H locs hW hS hm1 hE => ?_)
      have hf := Option.some.inj hf
      cases hf

theorem ni_X9_twin_X2 : ∀ w ∈ wsX20, w ∈ wsX9_twin := by decide +kernel
theorem ni_X9_twin_X9 : ∀ w ∈ wsX90, w ∈ wsX9_twin := by decide +kernel
def fX9_twin (S : zSt) (i_1 : Int32) : Option ((Nat × zSt) ⊕ Int32) :=
cx (fX9_demandGame S i_1) fun r1 =>
cl (fX2_isOver S r1) fun r5 =>
st (fun (u_ : Unit) => (some (.inr (-1 : Int32)) : Option ((Nat × zSt) ⊕ Int32))) fun j8 =>
if r5 = 0 then
j8 ()
else
if (zI S (3, r1, 0) 4) = 0 then
j8 ()
else
st (0 : Int32) fun x9 =>
lp (fun (q10 : (Int32)) => (cl (fJ_size S 1) fun r17 =>
if r17 ≤ q10 then
some (.inr (.inr (-1 : Int32)))
else
cl (fJ_get S 1 q10) fun r20 =>
st (fun (u_ : Unit) => (st (q10 + (1 : Int32)) fun x24 =>
some (.inl (x24)) : Option ((Int32) ⊕ ((Nat × zSt) ⊕ Int32)))) fun j23 =>
if q10 = i_1 then
j23 ()
else
cl (fX2_isOver S r20) fun r25 =>
if r25 = 0 then
j23 ()
else
cl (fX2_hasLogOf S r1 r20) fun r28 =>
if r28 = 0 then
j23 ()
else
some (.inr (.inr q10)) : Option ((Int32) ⊕ ((Nat × zSt) ⊕ Int32)))) 40000 (x9)
abbrev rmX9_twin : Room := { frames := 4, cells := 0, slots := 0, locals := 85 }
set_option maxHeartbeats 4000000 in
set_option maxRecDepth 100000 in
theorem tX9_twin (l : Launch) (Γ : zG) (lo : zId → Nat) (S : zSt) (X : va_W) {i_1 : Int32} (v_z : zV S (10, 0, 0) = true) {y : Int32} (hf : fX9_twin S i_1 = some (Sum.inr y)) : Met l yX9_twin wsX9_twin rmX9_twin (zP0 Γ lo S X [.ref (lo (10, 0, 0)), .int i_1]) (zQ0 Γ lo S S X (some (.int y)) True) 0 0 (zA Γ) := by
  refine Met.ofW (cc := cX9_twin) (maxL := 5) (ret := (some .int)) (by decide) rfl ?_
  intro p e s m args below meth c s₁ B hml hv
  obtain ⟨rfl, hW, hKK⟩ := hv
  have hx := B.exec
  have hb := B.bytes
  have hr := B.returns
  have hts := atoms_spec (ws := wsX9_twin) B.pre
  have hown : s.vm.findClass RX9 = some m.cls := findClass_of_methodNamed B.named
  have hlocks := B.notSynchronized
  have hS : va_S (zA Γ) s.heap s.heap [] := va_S.rf
  have hm : ∀ c, zV S c = zV S c := fun _ => rfl
  have hl := lv_entry ([.ref (lo (10, 0, 0)), .int i_1]) (n := 5) (Nat.le_of_ble_eq_true rfl)
  rw [lg_entry_eq]
  generalize (lg_sl ([.ref (lo (10, 0, 0)), .int i_1]) ++ List.replicate (5 - (lg_sl ([.ref (lo (10, 0, 0)), .int i_1])).length) Slot.unset).toArray = ls at hl ⊢
  have hl : lv_has ls 5 [(0, .ref (lo (10, 0, 0))), (1, .int i_1)] := hl
  obtain ⟨H, hH0⟩ : ∃ H, H = s.heap := ⟨_, rfl⟩
  obtain ⟨locs, hlo0⟩ : ∃ L : List Loc, L = [] := ⟨_, rfl⟩
  have hS : va_S (zA Γ) s.heap H locs := by rw [hH0, hlo0]; exact hS
  have hW : Wd Γ lo S X H := by rw [hH0]; exact hW
  rw [← hH0, ← hlo0]
  unfold fX9_twin at hf
  refine lv_aload_n hx hb dX9_twin_0 rfl (lv_at hl 0 rfl) ?_
  refine lv_iload_n hx hb dX9_twin_1 rfl (lv_at hl 1 rfl) ?_
  rcases op_cx hf with ⟨ee3, hc2, hf⟩ | ⟨r1, hc2, hf⟩
  · have hf := congrArg some hf
    have hf := Option.some.inj hf
    cases hf
  · skip
    refine z_callV (As := [.int i_1]) (rest := []) ⟨hx, hb, hml, hown, hts⟩ (tX9_demandGame l Γ lo S X v_z hc2) (cwV 1 hts gX9_twin_X9_demandGame rfl rfl rfl (by decide +kernel) ⟨Nat.le_of_ble_eq_true rfl, Nat.le_of_ble_eq_true rfl⟩) (wd_1 hW v_z) rfl hKK hW hS rfl hl.1 rfl (Nat.le_of_ble_eq_true rfl) dX9_twin_2 ⟨Nat.zero_le _, Nat.zero_le _⟩ (fun H locs hW hS hm1 hE => ?_)
    have v4 : zV S (3, r1, 0) = true := hE
    refine lv_astore_n (lv' := [(2, .ref (lo (3, r1, 0))), (0, .ref (lo (10, 0, 0))), (1, .int i_1)]) hx hb dX9_twin_5 rfl hl (by decide) rfl (fun ls hl => ?_)
    refine lv_aload_n hx hb dX9_twin_6 rfl (lv_at hl 0 rfl) ?_
    obtain ⟨r5, hc6, hf⟩ := op_cl hf
    refine z_callV (As := []) (rest := []) ⟨hx, hb, hml, hown, hts⟩ (tX2_isOver l Γ lo S X v4 hc6) (cwV 0 hts gX9_twin_X2_isOver rfl rfl rfl (by decide +kernel) ⟨Nat.le_of_ble_eq_true rfl, Nat.le_of_ble_eq_true rfl⟩) (wd_1 hW v4) rfl hKK hW hS rfl hl.1 rfl (Nat.le_of_ble_eq_true rfl) dX9_twin_7 ⟨Nat.zero_le _, Nat.zero_le _⟩ (fun H locs hW hS hm1 hE => ?_)
    have b7 := hE
    obtain ⟨j8, ej8, hf⟩ := op_st hf
    have hj8 : ∀ (u_ : Unit) (H : Heap) (locs : List Loc) (ls : Array Slot), lv_has ls 5 [] → Wd Γ lo S X H → va_S (zA Γ) s.heap H locs → (∀ c, zV S c = zV S c) → j8 () = some (Sum.inr y) → W p l e (headSpec wsX9_twin rmX9_twin).room s m ([.ref (lo (10, 0, 0)), .int i_1] : List Value).toArray below meth c H locs 0 0 (MQ below (zQ0 Γ lo S S X (some (.int y)) True) ([.ref (lo (10, 0, 0)), .int i_1] : List Value).toArray s 0 0 (zA Γ)) (F0 m 20 ls []) := by
      intro u_ H locs ls  hl hW hS hm hf
      rw [ej8] at hf
      refine lv_iconst (v := (-1)) hx hb dX9_twin_20 (by decide) ?_
      have hf := Option.some.inj hf
      have hf := Sum.inr.inj hf
      rw [← hf]
      exact z_iret hx hb hr hlocks rfl hW hS hm trivial dX9_twin_21
    refine lv_if_eq (tgt := 20) hx hb dX9_twin_10 (by decide) (fun k10 => ?_) (fun k10 => ?_)
    · have hf := (op_if hf).1 k10
      exact hj8 () H locs ls  (lv_sub hl [] rfl) hW hS hm hf
    · have hf := (op_if hf).2 k10
      refine lv_aload_n hx hb dX9_twin_13 rfl (lv_at hl 0 rfl) ?_
      refine va_get hx hb hts ni_X9_twin_X2 hown hKK.1 (wd_1 hW v4) 0 rfl rfl 4 (by decide) (hts (.fieldLink RX9 202 "TiltRoute$Game" "logged" "I") (List.mem_of_getElem? (i := 1) rfl)) (fun _ h => h) rfl dX9_twin_14 ?_
      refine lv_if_ne (tgt := 22) hx hb dX9_twin_17 (by decide) (fun k17 => ?_) (fun k17 => ?_)
      · have hf := (op_if hf).2 k17
        refine lv_iconst (v := (0)) hx hb dX9_twin_22 (by decide) ?_
        obtain ⟨x9, ex9, hf⟩ := op_st hf
        have bx9 : x9 = 0 ∨ x9 = 1 := Or.inl ex9
        refine z_istn (lv' := [(3, .int x9), (2, .ref (lo (3, r1, 0))), (0, .ref (lo (10, 0, 0))), (1, .int i_1)]) ex9 hx hb dX9_twin_23 rfl hl (by decide) rfl (fun ls hl => ?_)
        obtain ⟨w12, q100, ew12, eq100, hf⟩ := op_lb hf
        have hw12 : ∀ n15 : Nat, ∀ (q10 : (Int32)) (H : Heap) (locs : List Loc) (ls : Array Slot), lv_has ls 5 [(3, .int q10), (2, .ref (lo (3, r1, 0))), (0, .ref (lo (10, 0, 0))), (1, .int i_1)] → Wd Γ lo S X H → va_S (zA Γ) s.heap H locs → (∀ c, zV S c = zV S c) → lp w12 n15 q10 = some (Sum.inr y) → W p l e (headSpec wsX9_twin rmX9_twin).room s m ([.ref (lo (10, 0, 0)), .int i_1] : List Value).toArray below meth c H locs 0 0 (MQ below (zQ0 Γ lo S S X (some (.int y)) True) ([.ref (lo (10, 0, 0)), .int i_1] : List Value).toArray s 0 0 (zA Γ)) (F0 m 24 ls []) := by
          intro n15
          induction n15 with
          | zero => intro q10 H locs ls hl hW hS hm hf; cases hf
          | succ n15 ih13 =>
            intro q10 H locs ls hl hW hS hm hf
            obtain ⟨n_, r11, hn_, hf, hr14⟩ := op_lq hf
            cases hn_
            rw [ew12] at hf
            refine lv_iload_n hx hb dX9_twin_24 rfl (lv_at hl 0 rfl) ?_
            refine lv_aload_n hx hb dX9_twin_25 rfl (lv_at hl 2 rfl) ?_
            refine va_get hx hb hts ni_X9_twin_X9 hown hKK.1 (wd_1 hW v_z) 0 rfl rfl 1 (by decide) (hts (.fieldLink RX9 16 "TiltRoute" "games" "Ljava/util/ArrayList;") (List.mem_of_getElem? (i := 2) rfl)) (fun _ h => h) rfl dX9_twin_26 ?_
            have v16 : zV S (0, 1, 0) = true := vf_10_1 hW v_z
            obtain ⟨r17, hc18, hf⟩ := op_cl hf
            refine z_callV (As := []) (rest := [.int q10]) ⟨hx, hb, hml, hown, hts⟩ (tJ_size l Γ lo S X v16 hc18) (cwV 0 hts gX9_twin_Jx4a65c_size_8abf5 rfl rfl rfl (by decide +kernel) ⟨Nat.le_of_ble_eq_true rfl, Nat.le_of_ble_eq_true rfl⟩) (wd_1 hW v16) rfl hKK hW hS rfl hl.1 rfl (Nat.le_of_ble_eq_true rfl) dX9_twin_29 ⟨Nat.zero_le _, Nat.zero_le _⟩ (fun H locs hW hS hm1 hE => ?_)
            refine lv_icmp_ge (tgt := 78) hx hb dX9_twin_32 (by decide) (fun k32 => ?_) (fun k32 => ?_)
            · have hf := (op_if hf).1 k32
              refine lv_iconst (v := (-1)) hx hb dX9_twin_78 (by decide) ?_
              have hf := zr_r hf hr14
              have hf := Sum.inr.inj hf
              rw [← hf]
              exact z_iret hx hb hr hlocks rfl hW hS hm trivial dX9_twin_79
            · have hf := (op_if hf).2 k32
              refine lv_aload_n hx hb dX9_twin_35 rfl (lv_at hl 2 rfl) ?_
              refine va_get hx hb hts ni_X9_twin_X9 hown hKK.1 (wd_1 hW v_z) 0 rfl rfl 1 (by decide) (hts (.fieldLink RX9 16 "TiltRoute" "games" "Ljava/util/ArrayList;") (List.mem_of_getElem? (i := 2) rfl)) (fun _ h => h) rfl dX9_twin_36 ?_
              have v19 : zV S (0, 1, 0) = true := vf_10_1 hW v_z
              refine lv_iload_n hx hb dX9_twin_39 rfl (lv_at hl 0 rfl) ?_
              obtain ⟨r20, hc21, hf⟩ := op_cl hf
              refine z_callV (As := [.int q10]) (rest := []) ⟨hx, hb, hml, hown, hts⟩ (tJ_get l Γ lo S X v19 hc21) (cwV 1 hts gX9_twin_Jx4a65c_get_915e3 rfl rfl rfl (by decide +kernel) ⟨Nat.le_of_ble_eq_true rfl, Nat.le_of_ble_eq_true rfl⟩) (wd_1 hW v19) rfl hKK hW hS rfl hl.1 rfl (Nat.le_of_ble_eq_true rfl) dX9_twin_40 ⟨Nat.zero_le _, Nat.zero_le _⟩ (fun H locs hW hS hm1 hE => ?_)
              have v22 : zV S (3, r20, 0) = true := hE
              refine va_castE hx hb hown (hts (.classLink RX9 143 "TiltRoute$Game") (List.mem_of_getElem? (i := 3) rfl)) (va_recv (q0 := 0) hKK.1 (wd_1 hW v22) (ci := 3) rfl rfl) dX9_twin_43 ?_
              refine lv_astore (lv' := [(4, .ref (lo (3, r20, 0))), (3, .int q10), (2, .ref (lo (3, r1, 0))), (0, .ref (lo (10, 0, 0))), (1, .int i_1)]) hx hb dX9_twin_46 hl (by decide) rfl (fun ls hl => ?_)
              refine lv_iload_n hx hb dX9_twin_48 rfl (lv_at hl 1 rfl) ?_
              refine lv_iload_n hx hb dX9_twin_49 rfl (lv_at hl 4 rfl) ?_
              obtain ⟨j23, ej23, hf⟩ := op_st hf
              have hj23 : ∀ (u_ : Unit) (H : Heap) (locs : List Loc) (ls : Array Slot), lv_has ls 5 [(3, .int q10), (2, .ref (lo (3, r1, 0))), (0, .ref (lo (10, 0, 0))), (1, .int i_1)] → Wd Γ lo S X H → va_S (zA Γ) s.heap H locs → (∀ c, zV S c = zV S c) → j23 () = some r11 → W p l e (headSpec wsX9_twin rmX9_twin).room s m ([.ref (lo (10, 0, 0)), .int i_1] : List Value).toArray below meth c H locs 0 0 (MQ below (zQ0 Γ lo S S X (some (.int y)) True) ([.ref (lo (10, 0, 0)), .int i_1] : List Value).toArray s 0 0 (zA Γ)) (F0 m 72 ls []) := by
                intro u_ H locs ls  hl hW hS hm hf
                rw [ej23] at hf
                obtain ⟨x24, ex24, hf⟩ := op_st hf
                refine lv_iinc (v := x24) (lv' := [(3, .int x24), (2, .ref (lo (3, r1, 0))), (0, .ref (lo (10, 0, 0))), (1, .int i_1)]) hx hb dX9_twin_72 hl (k := 0) rfl (by rw [ex24]; rfl) (by decide) rfl (fun ls hl => ?_)
                refine lv_goto (tgt := 24) hx hb dX9_twin_75 (by decide) ?_
                have hf := zr_l hf hr14
                exact ih13 (x24) H locs ls (lv_sub hl [0, 1, 2, 3] rfl) hW hS hm hf
              refine lv_icmp_eq (tgt := 72) hx hb dX9_twin_50 (by decide) (fun k50 => ?_) (fun k50 => ?_)
              · have hf := (op_if hf).1 k50
                exact hj23 () H locs ls  (lv_sub hl [1, 2, 3, 4] rfl) hW hS hm hf
              · have hf := (op_if hf).2 k50
                refine lv_aload hx hb dX9_twin_53 (lv_at hl 0 rfl) ?_
                obtain ⟨r25, hc26, hf⟩ := op_cl hf
                refine z_callV (As := []) (rest := []) ⟨hx, hb, hml, hown, hts⟩ (tX2_isOver l Γ lo S X v22 hc26) (cwV 0 hts gX9_twin_X2_isOver rfl rfl rfl (by decide +kernel) ⟨Nat.le_of_ble_eq_true rfl, Nat.le_of_ble_eq_true rfl⟩) (wd_1 hW v22) rfl hKK hW hS rfl hl.1 rfl (Nat.le_of_ble_eq_true rfl) dX9_twin_55 ⟨Nat.zero_le _, Nat.zero_le _⟩ (fun H locs hW hS hm1 hE => ?_)
                have b27 := hE
                refine lv_if_eq (tgt := 72) hx hb dX9_twin_58 (by decide) (fun k58 => ?_) (fun k58 => ?_)
                · have hf := (op_if hf).1 k58
                  exact hj23 () H locs ls  (lv_sub hl [1, 2, 3, 4] rfl) hW hS hm hf
                · have hf := (op_if hf).2 k58
                  refine lv_aload_n hx hb dX9_twin_61 rfl (lv_at hl 2 rfl) ?_
                  refine lv_aload hx hb dX9_twin_62 (lv_at hl 0 rfl) ?_
                  obtain ⟨r28, hc29, hf⟩ := op_cl hf
                  refine z_callV (As := [.ref (lo (3, r20, 0))]) (rest := []) ⟨hx, hb, hml, hown, hts⟩ (tX2_hasLogOf l Γ lo S X v4 v22 hc29) (cwV 1 hts gX9_twin_X2_hasLogOf rfl rfl rfl (by decide +kernel) ⟨Nat.le_of_ble_eq_true rfl, Nat.le_of_ble_eq_true rfl⟩) (wd_1 hW v4) rfl hKK hW hS rfl hl.1 rfl (Nat.le_of_ble_eq_true rfl) dX9_twin_64 ⟨Nat.zero_le _, Nat.zero_le _⟩ (fun H locs hW hS hm1 hE => ?_)
                  have b30 := hE
                  refine lv_if_eq (tgt := 72) hx hb dX9_twin_67 (by decide) (fun k67 => ?_) (fun k67 => ?_)
                  · have hf := (op_if hf).1 k67
                    exact hj23 () H locs ls  (lv_sub hl [1, 2, 3, 4] rfl) hW hS hm hf
                  · have hf := (op_if hf).2 k67
                    refine lv_iload_n hx hb dX9_twin_70 rfl (lv_at hl 1 rfl) ?_
                    have hf := zr_r hf hr14
                    have hf := Sum.inr.inj hf
                    rw [← hf]
                    exact z_iret hx hb hr hlocks rfl hW hS hm trivial dX9_twin_71
        rw [eq100] at hf
        exact hw12 _ (x9) H locs ls (lv_sub hl [0, 1, 2, 3] rfl) hW hS hm hf
      · have hf := (op_if hf).1 k17
        exact hj8 () H locs ls  (lv_sub hl [] rfl) hW hS hm hf
abbrev rnX9_twin : Room := { frames := 7, cells := 1, slots := 6, locals := 103 }
set_option maxHeartbeats 4000000 in
set_option maxRecDepth 100000 in
theorem uX9_twin (l : Launch) (hl0 : l.stackTraces = false) (Γ : zG) (lo : zId → Nat) (S : zSt) (X : va_W) {i_1 : Int32} (v_z : zV S (10, 0, 0) = true) {ee : Nat × zSt} (hf : fX9_twin S i_1 = some (Sum.inl ee)) : vx_Met l yX9_twin wsX9_twin rnX9_twin (zP1 Γ lo S X [.ref (lo (10, 0, 0)), .int i_1]) zF (zT Γ lo S X ee) 1 6 (zA Γ) := by
  refine vx_ofW (cc := cX9_twin) (maxL := 5) (ret := (some .int)) (by decide) rfl ?_
  intro p e s m args below meth c s₁ B hml ht hv
  obtain ⟨rfl, hW, hKK, hKX⟩ := hv
  have hx := B.exec
  have hb := B.bytes
  have hr := B.returns
  have hts := atoms_spec (ws := wsX9_twin) B.pre
  have hown : s.vm.findClass RX9 = some m.cls := findClass_of_methodNamed B.named
  have hlocks := B.notSynchronized
  have hS : va_S (zA Γ) s.heap s.heap [] := va_S.rf
  have hm : ∀ c, zV S c = zV S c := fun _ => rfl
  have hl := lv_entry ([.ref (lo (10, 0, 0)), .int i_1]) (n := 5) (Nat.le_of_ble_eq_true rfl)
  rw [lg_entry_eq]
  generalize (lg_sl ([.ref (lo (10, 0, 0)), .int i_1]) ++ List.replicate (5 - (lg_sl ([.ref (lo (10, 0, 0)), .int i_1])).length) Slot.unset).toArray = ls at hl ⊢
  have hl : lv_has ls 5 [(0, .ref (lo (10, 0, 0))), (1, .int i_1)] := hl
  obtain ⟨H, hH0⟩ : ∃ H, H = s.heap := ⟨_, rfl⟩
  obtain ⟨locs, hlo0⟩ : ∃ L : List Loc, L = [] := ⟨_, rfl⟩
  have hS : va_S (zA Γ) s.heap H locs := by rw [hH0, hlo0]; exact hS
  have hW : Wd Γ lo S X H := by rw [hH0]; exact hW
  rw [← hH0, ← hlo0]
  unfold fX9_twin at hf
  refine lv_aload_n hx hb dX9_twin_0 rfl (lv_at hl 0 rfl) ?_
  refine lv_iload_n hx hb dX9_twin_1 rfl (lv_at hl 1 rfl) ?_
  rcases op_cx hf with ⟨ee3, hc2, hf⟩ | ⟨r1, hc2, hf⟩
  · have hf := congrArg some hf
    have hf := Option.some.inj hf
    have hf := Sum.inl.inj hf
    rw [← hf]
    exact zx_callV (As := [.int i_1]) (rest := []) ⟨hx, hb, hml, hown, hts⟩ (uX9_demandGame l hl0 Γ lo S X v_z hc2) (cwV 1 hts gX9_twin_X9_demandGame rfl rfl rfl (by decide +kernel) ⟨Nat.le_of_ble_eq_true rfl, Nat.le_of_ble_eq_true rfl⟩) (wd_1 hW v_z) rfl hKK hKX hW hS hm rfl hl.1 rfl (Nat.le_of_ble_eq_true rfl) dX9_twin_2 ⟨Nat.le_of_ble_eq_true rfl, Nat.le_of_ble_eq_true rfl⟩ ht hlocks
  · skip
    refine z_callV (As := [.int i_1]) (rest := []) ⟨hx, hb, hml, hown, hts⟩ (tX9_demandGame l Γ lo S X v_z hc2) (cwV 1 hts gX9_twin_X9_demandGame rfl rfl rfl (by decide +kernel) ⟨Nat.le_of_ble_eq_true rfl, Nat.le_of_ble_eq_true rfl⟩) (wd_1 hW v_z) rfl hKK hW hS rfl hl.1 rfl (Nat.le_of_ble_eq_true rfl) dX9_twin_2 ⟨Nat.zero_le _, Nat.zero_le _⟩ (fun H locs hW hS hm1 hE => ?_)
    have v4 : zV S (3, r1, 0) = true := hE
    refine lv_astore_n (lv' := [(2, .ref (lo (3, r1, 0))), (0, .ref (lo (10, 0, 0))), (1, .int i_1)]) hx hb dX9_twin_5 rfl hl (by decide) rfl (fun ls hl => ?_)
    refine lv_aload_n hx hb dX9_twin_6 rfl (lv_at hl 0 rfl) ?_
    obtain ⟨r5, hc6, hf⟩ := op_cl hf
    refine z_callV (As := []) (rest := []) ⟨hx, hb, hml, hown, hts⟩ (tX2_isOver l Γ lo S X v4 hc6) (cwV 0 hts gX9_twin_X2_isOver rfl rfl rfl (by decide +kernel) ⟨Nat.le_of_ble_eq_true rfl, Nat.le_of_ble_eq_true rfl⟩) (wd_1 hW v4) rfl hKK hW hS rfl hl.1 rfl (Nat.le_of_ble_eq_true rfl) dX9_twin_7 ⟨Nat.zero_le _, Nat.zero_le _⟩ (fun H locs hW hS hm1 hE => ?_)
    have b7 := hE
    obtain ⟨j8, ej8, hf⟩ := op_st hf
    have hj8 : ∀ (u_ : Unit) (H : Heap) (locs : List Loc) (ls : Array Slot), lv_has ls 5 [] → Wd Γ lo S X H → va_S (zA Γ) s.heap H locs → (∀ c, zV S c = zV S c) → j8 () = some (Sum.inl ee) → W p l e (headSpec wsX9_twin rnX9_twin).room s m ([.ref (lo (10, 0, 0)), .int i_1] : List Value).toArray below meth c H locs 0 0 (vx_MQ below zF (zT Γ lo S X ee) ([.ref (lo (10, 0, 0)), .int i_1] : List Value).toArray s 1 6 (zA Γ)) (F0 m 20 ls []) := by
      intro u_ H locs ls  hl hW hS hm hf
      rw [ej8] at hf
      refine lv_iconst (v := (-1)) hx hb dX9_twin_20 (by decide) ?_
      have hf := Option.some.inj hf
      cases hf
    refine lv_if_eq (tgt := 20) hx hb dX9_twin_10 (by decide) (fun k10 => ?_) (fun k10 => ?_)
    · have hf := (op_if hf).1 k10
      exact hj8 () H locs ls  (lv_sub hl [] rfl) hW hS hm hf
    · have hf := (op_if hf).2 k10
      refine lv_aload_n hx hb dX9_twin_13 rfl (lv_at hl 0 rfl) ?_
      refine va_get hx hb hts ni_X9_twin_X2 hown hKK.1 (wd_1 hW v4) 0 rfl rfl 4 (by decide) (hts (.fieldLink RX9 202 "TiltRoute$Game" "logged" "I") (List.mem_of_getElem? (i := 1) rfl)) (fun _ h => h) rfl dX9_twin_14 ?_
      refine lv_if_ne (tgt := 22) hx hb dX9_twin_17 (by decide) (fun k17 => ?_) (fun k17 => ?_)
      · have hf := (op_if hf).2 k17
        refine lv_iconst (v := (0)) hx hb dX9_twin_22 (by decide) ?_
        obtain ⟨x9, ex9, hf⟩ := op_st hf
        have bx9 : x9 = 0 ∨ x9 = 1 := Or.inl ex9
        refine z_istn (lv' := [(3, .int x9), (2, .ref (lo (3, r1, 0))), (0, .ref (lo (10, 0, 0))), (1, .int i_1)]) ex9 hx hb dX9_twin_23 rfl hl (by decide) rfl (fun ls hl => ?_)
        obtain ⟨w12, q100, ew12, eq100, hf⟩ := op_lb hf
        have hw12 : ∀ n15 : Nat, ∀ (q10 : (Int32)) (H : Heap) (locs : List Loc) (ls : Array Slot), lv_has ls 5 [(3, .int q10), (2, .ref (lo (3, r1, 0))), (0, .ref (lo (10, 0, 0))), (1, .int i_1)] → Wd Γ lo S X H → va_S (zA Γ) s.heap H locs → (∀ c, zV S c = zV S c) → lp w12 n15 q10 = some (Sum.inl ee) → W p l e (headSpec wsX9_twin rnX9_twin).room s m ([.ref (lo (10, 0, 0)), .int i_1] : List Value).toArray below meth c H locs 0 0 (vx_MQ below zF (zT Γ lo S X ee) ([.ref (lo (10, 0, 0)), .int i_1] : List Value).toArray s 1 6 (zA Γ)) (F0 m 24 ls []) := by
          intro n15
          induction n15 with
          | zero => intro q10 H locs ls hl hW hS hm hf; cases hf
          | succ n15 ih13 =>
            intro q10 H locs ls hl hW hS hm hf
            obtain ⟨n_, r11, hn_, hf, hr14⟩ := op_lq hf
            cases hn_
            rw [ew12] at hf
            refine lv_iload_n hx hb dX9_twin_24 rfl (lv_at hl 0 rfl) ?_
            refine lv_aload_n hx hb dX9_twin_25 rfl (lv_at hl 2 rfl) ?_
            refine va_get hx hb hts ni_X9_twin_X9 hown hKK.1 (wd_1 hW v_z) 0 rfl rfl 1 (by decide) (hts (.fieldLink RX9 16 "TiltRoute" "games" "Ljava/util/ArrayList;") (List.mem_of_getElem? (i := 2) rfl)) (fun _ h => h) rfl dX9_twin_26 ?_
            have v16 : zV S (0, 1, 0) = true := vf_10_1 hW v_z
            obtain ⟨r17, hc18, hf⟩ := op_cl hf
            refine z_callV (As := []) (rest := [.int q10]) ⟨hx, hb, hml, hown, hts⟩ (tJ_size l Γ lo S X v16 hc18) (cwV 0 hts gX9_twin_Jx4a65c_size_8abf5 rfl rfl rfl (by decide +kernel) ⟨Nat.le_of_ble_eq_true rfl, Nat.le_of_ble_eq_true rfl⟩) (wd_1 hW v16) rfl hKK hW hS rfl hl.1 rfl (Nat.le_of_ble_eq_true rfl) dX9_twin_29 ⟨Nat.zero_le _, Nat.zero_le _⟩ (fun H locs hW hS hm1 hE => ?_)
            refine lv_icmp_ge (tgt := 78) hx hb dX9_twin_32 (by decide) (fun k32 => ?_) (fun k32 => ?_)
            · have hf := (op_if hf).1 k32
              refine lv_iconst (v := (-1)) hx hb dX9_twin_78 (by decide) ?_
              have hf := zr_r hf hr14
              cases hf
            · have hf := (op_if hf).2 k32
              refine lv_aload_n hx hb dX9_twin_35 rfl (lv_at hl 2 rfl) ?_
              refine va_get hx hb hts ni_X9_twin_X9 hown hKK.1 (wd_1 hW v_z) 0 rfl rfl 1 (by decide) (hts (.fieldLink RX9 16 "TiltRoute" "games" "Ljava/util/ArrayList;") (List.mem_of_getElem? (i := 2) rfl)) (fun _ h => h) rfl dX9_twin_36 ?_
              have v19 : zV S (0, 1, 0) = true := vf_10_1 hW v_z
              refine lv_iload_n hx hb dX9_twin_39 rfl (lv_at hl 0 rfl) ?_
              obtain ⟨r20, hc21, hf⟩ := op_cl hf
              refine z_callV (As := [.int q10]) (rest := []) ⟨hx, hb, hml, hown, hts⟩ (tJ_get l Γ lo S X v19 hc21) (cwV 1 hts gX9_twin_Jx4a65c_get_915e3 rfl rfl rfl (by decide +kernel) ⟨Nat.le_of_ble_eq_true rfl, Nat.le_of_ble_eq_true rfl⟩) (wd_1 hW v19) rfl hKK hW hS rfl hl.1 rfl (Nat.le_of_ble_eq_true rfl) dX9_twin_40 ⟨Nat.zero_le _, Nat.zero_le _⟩ (fun H locs hW hS hm1 hE => ?_)
              have v22 : zV S (3, r20, 0) = true := hE
              refine va_castE hx hb hown (hts (.classLink RX9 143 "TiltRoute$Game") (List.mem_of_getElem? (i := 3) rfl)) (va_recv (q0 := 0) hKK.1 (wd_1 hW v22) (ci := 3) rfl rfl) dX9_twin_43 ?_
              refine lv_astore (lv' := [(4, .ref (lo (3, r20, 0))), (3, .int q10), (2, .ref (lo (3, r1, 0))), (0, .ref (lo (10, 0, 0))), (1, .int i_1)]) hx hb dX9_twin_46 hl (by decide) rfl (fun ls hl => ?_)
              refine lv_iload_n hx hb dX9_twin_48 rfl (lv_at hl 1 rfl) ?_
              refine lv_iload_n hx hb dX9_twin_49 rfl (lv_at hl 4 rfl) ?_
              obtain ⟨j23, ej23, hf⟩ := op_st hf
              have hj23 : ∀ (u_ : Unit) (H : Heap) (locs : List Loc) (ls : Array Slot), lv_has ls 5 [(3, .int q10), (2, .ref (lo (3, r1, 0))), (0, .ref (lo (10, 0, 0))), (1, .int i_1)] → Wd Γ lo S X H → va_S (zA Γ) s.heap H locs → (∀ c, zV S c = zV S c) → j23 () = some r11 → W p l e (headSpec wsX9_twin rnX9_twin).room s m ([.ref (lo (10, 0, 0)), .int i_1] : List Value).toArray below meth c H locs 0 0 (vx_MQ below zF (zT Γ lo S X ee) ([.ref (lo (10, 0, 0)), .int i_1] : List Value).toArray s 1 6 (zA Γ)) (F0 m 72 ls []) := by
                intro u_ H locs ls  hl hW hS hm hf
                rw [ej23] at hf
                obtain ⟨x24, ex24, hf⟩ := op_st hf
                refine lv_iinc (v := x24) (lv' := [(3, .int x24), (2, .ref (lo (3, r1, 0))), (0, .ref (lo (10, 0, 0))), (1, .int i_1)]) hx hb dX9_twin_72 hl (k := 0) rfl (by rw [ex24]; rfl) (by decide) rfl (fun ls hl => ?_)
                refine lv_goto (tgt := 24) hx hb dX9_twin_75 (by decide) ?_
                have hf := zr_l hf hr14
                exact ih13 (x24) H locs ls (lv_sub hl [0, 1, 2, 3] rfl) hW hS hm hf
              refine lv_icmp_eq (tgt := 72) hx hb dX9_twin_50 (by decide) (fun k50 => ?_) (fun k50 => ?_)
              · have hf := (op_if hf).1 k50
                exact hj23 () H locs ls  (lv_sub hl [1, 2, 3, 4] rfl) hW hS hm hf
              · have hf := (op_if hf).2 k50
                refine lv_aload hx hb dX9_twin_53 (lv_at hl 0 rfl) ?_
                obtain ⟨r25, hc26, hf⟩ := op_cl hf
                refine z_callV (As := []) (rest := []) ⟨hx, hb, hml, hown, hts⟩ (tX2_isOver l Γ lo S X v22 hc26) (cwV 0 hts gX9_twin_X2_isOver rfl rfl rfl (by decide +kernel) ⟨Nat.le_of_ble_eq_true rfl, Nat.le_of_ble_eq_true rfl⟩) (wd_1 hW v22) rfl hKK hW hS rfl hl.1 rfl (Nat.le_of_ble_eq_true rfl) dX9_twin_55 ⟨Nat.zero_le _, Nat.zero_le _⟩ (fun H locs hW hS hm1 hE => ?_)
                have b27 := hE
                refine lv_if_eq (tgt := 72) hx hb dX9_twin_58 (by decide) (fun k58 => ?_) (fun k58 => ?_)
                · have hf := (op_if hf).1 k58
                  exact hj23 () H locs ls  (lv_sub hl [1, 2, 3, 4] rfl) hW hS hm hf
                · have hf := (op_if hf).2 k58
                  refine lv_aload_n hx hb dX9_twin_61 rfl (lv_at hl 2 rfl) ?_
                  refine lv_aload hx hb dX9_twin_62 (lv_at hl 0 rfl) ?_
                  obtain ⟨r28, hc29, hf⟩ := op_cl hf
                  refine z_callV (As := [.ref (lo (3, r20, 0))]) (rest := []) ⟨hx, hb, hml, hown, hts⟩ (tX2_hasLogOf l Γ lo S X v4 v22 hc29) (cwV 1 hts gX9_twin_X2_hasLogOf rfl rfl rfl (by decide +kernel) ⟨Nat.le_of_ble_eq_true rfl, Nat.le_of_ble_eq_true rfl⟩) (wd_1 hW v4) rfl hKK hW hS rfl hl.1 rfl (Nat.le_of_ble_eq_true rfl) dX9_twin_64 ⟨Nat.zero_le _, Nat.zero_le _⟩ (fun H locs hW hS hm1 hE => ?_)
                  have b30 := hE
                  refine lv_if_eq (tgt := 72) hx hb dX9_twin_67 (by decide) (fun k67 => ?_) (fun k67 => ?_)
                  · have hf := (op_if hf).1 k67
                    exact hj23 () H locs ls  (lv_sub hl [1, 2, 3, 4] rfl) hW hS hm hf
                  · have hf := (op_if hf).2 k67
                    refine lv_iload_n hx hb dX9_twin_70 rfl (lv_at hl 1 rfl) ?_
                    have hf := zr_r hf hr14
                    cases hf
        rw [eq100] at hf
        exact hw12 _ (x9) H locs ls (lv_sub hl [0, 1, 2, 3] rfl) hW hS hm hf
      · have hf := (op_if hf).1 k17
        exact hj8 () H locs ls  (lv_sub hl [] rfl) hW hS hm hf

theorem ni_X9_high_X9 : ∀ w ∈ wsX90, w ∈ wsX9_high := by decide +kernel
def fX9_high (S : zSt) (i_1 : Int32) (i_2 : Int32) : Option ((Nat × zSt) ⊕ (Int32 × zSt)) :=
cx (fX9_demandTable S i_1) fun r1 =>
cx (fX9_demandLeast S i_2 (0 : Int32)) fun r5 =>
st (0 : Int32) fun x8 =>
lp (fun (q9 : (Int32 × zSt)) => (cl (fJ_size q9.2 1) fun r16 =>
st (fun (u_ : Unit) => (st (0 : Int32) fun x19 =>
lp (fun (q20 : (Int32)) => (cl (fJ_size q9.2 1) fun r27 =>
if r27 ≤ q20 then
some (.inr (.inr (.inr ((-1 : Int32), q9.2))))
else
cl (fX9_ranksAt q9.2 q20 i_1) fun r29 =>
st (fun (u_ : Unit) => (st (q20 + (1 : Int32)) fun x33 =>
some (.inl (x33)) : Option ((Int32) ⊕ ((Int32 × zSt) ⊕ ((Nat × zSt) ⊕ (Int32 × zSt)))))) fun j32 =>
if r29 = 0 then
j32 ()
else
cl (fX9_countAhead q9.2 q20) fun r34 =>
if r34 = i_2 then
some (.inr (.inr (.inr (q20, q9.2))))
else
j32 () : Option ((Int32) ⊕ ((Int32 × zSt) ⊕ ((Nat × zSt) ⊕ (Int32 × zSt)))))) 40000 (x19) : Option ((Int32 × zSt) ⊕ ((Nat × zSt) ⊕ (Int32 × zSt))))) fun j18 =>
if r16 ≤ q9.1 then
j18 ()
else
if (40 : Int32) ≤ q9.1 then
j18 ()
else
cl (fX9_ranksAt q9.2 q9.1 i_1) fun r38 =>
st (fun (y41 : Int32) (S42 : zSt) => (gd (¬ (q9.1 < 0 ∨ 40 ≤ q9.1.toNatClampNeg)) (
st (pI S42 (22, 0, 0) q9.1.toNatClampNeg y41) fun S44 =>
st (q9.1 + (1 : Int32)) fun x45 =>
some (.inl (x45, S44))) : Option ((Int32 × zSt) ⊕ ((Nat × zSt) ⊕ (Int32 × zSt))))) fun j43 =>
if r38 = 0 then
j43 (-1 : Int32) q9.2
else
cl (fJ_get q9.2 1 q9.1) fun r47 =>
cl2 (fX9_replayedScore q9.2 r47 (1 : Int32)) fun r50 S52 =>
j43 r50 S52 : Option ((Int32 × zSt) ⊕ ((Nat × zSt) ⊕ (Int32 × zSt))))) 40000 (x8, S)
abbrev rmX9_high : Room := { frames := 4, cells := 0, slots := 0, locals := 95 }
set_option maxHeartbeats 4000000 in
set_option maxRecDepth 100000 in
theorem tX9_high (l : Launch) (Γ : zG) (lo : zId → Nat) (S : zSt) (X : va_W) {i_1 : Int32} {i_2 : Int32} (v_z : zV S (10, 0, 0) = true) {y : (Int32 × zSt)} (hf : fX9_high S i_1 i_2 = some (Sum.inr y)) : Met l yX9_high wsX9_high rmX9_high (zP0 Γ lo S X [.ref (lo (10, 0, 0)), .int i_1, .int i_2]) (zQ0 Γ lo S y.2 X (some (.int y.1)) True) 0 0 (zA Γ) := by
  refine Met.ofW (cc := cX9_high) (maxL := 4) (ret := (some .int)) (by decide) rfl ?_
  intro p e s m args below meth c s₁ B hml hv
  obtain ⟨rfl, hW, hKK⟩ := hv
  have hx := B.exec
  have hb := B.bytes
  have hr := B.returns
  have hts := atoms_spec (ws := wsX9_high) B.pre
  have hown : s.vm.findClass RX9 = some m.cls := findClass_of_methodNamed B.named
  have hlocks := B.notSynchronized
  have hS : va_S (zA Γ) s.heap s.heap [] := va_S.rf
  have hm : ∀ c, zV S c = zV S c := fun _ => rfl
  have hl := lv_entry ([.ref (lo (10, 0, 0)), .int i_1, .int i_2]) (n := 4) (Nat.le_of_ble_eq_true rfl)
  rw [lg_entry_eq]
  generalize (lg_sl ([.ref (lo (10, 0, 0)), .int i_1, .int i_2]) ++ List.replicate (4 - (lg_sl ([.ref (lo (10, 0, 0)), .int i_1, .int i_2])).length) Slot.unset).toArray = ls at hl ⊢
  have hl : lv_has ls 4 [(0, .ref (lo (10, 0, 0))), (1, .int i_1), (2, .int i_2)] := hl
  obtain ⟨H, hH0⟩ : ∃ H, H = s.heap := ⟨_, rfl⟩
  obtain ⟨locs, hlo0⟩ : ∃ L : List Loc, L = [] := ⟨_, rfl⟩
  have hS : va_S (zA Γ) s.heap H locs := by rw [hH0, hlo0]; exact hS
  have hW : Wd Γ lo S X H := by rw [hH0]; exact hW
  rw [← hH0, ← hlo0]
  unfold fX9_high at hf
  refine lv_aload_n hx hb dX9_high_0 rfl (lv_at hl 0 rfl) ?_
  refine lv_iload_n hx hb dX9_high_1 rfl (lv_at hl 1 rfl) ?_
  rcases op_cx hf with ⟨ee3, hc2, hf⟩ | ⟨r1, hc2, hf⟩
  · have hf := congrArg some hf
    have hf := Option.some.inj hf
    cases hf
  · skip
    refine z_callV (As := [.int i_1]) (rest := []) ⟨hx, hb, hml, hown, hts⟩ (tX9_demandTable l Γ lo S X v_z hc2) (cwV 1 hts gX9_high_X9_demandTable rfl rfl rfl (by decide +kernel) ⟨Nat.le_of_ble_eq_true rfl, Nat.le_of_ble_eq_true rfl⟩) (wd_1 hW v_z) rfl hKK hW hS rfl hl.1 rfl (Nat.le_of_ble_eq_true rfl) dX9_high_2 ⟨Nat.zero_le _, Nat.zero_le _⟩ (fun H locs hW hS hm1 hE => ?_)
    have v4 : zV S (8, r1, 0) = true := hE
    refine lv_pop hx hb dX9_high_5 rfl ?_
    refine lv_iload_n hx hb dX9_high_6 rfl (lv_at hl 2 rfl) ?_
    refine lv_iconst (v := (0)) hx hb dX9_high_7 (by decide) ?_
    rcases op_cx hf with ⟨ee7, hc6, hf⟩ | ⟨r5, hc6, hf⟩
    · have hf := congrArg some hf
      have hf := Option.some.inj hf
      cases hf
    · skip
      refine z_callS (As := [.int i_2, .int (0 : Int32)]) (rest := []) ⟨hx, hb, hml, hown, hts⟩ (tX9_demandLeast l Γ lo S X  hc6) (va_cwS 2 hts gX9_high_X9_demandLeast rfl rfl rfl (by decide +kernel) ⟨Nat.le_of_ble_eq_true rfl, Nat.le_of_ble_eq_true rfl⟩) hKK hW hS rfl hl.1 rfl (Nat.le_of_ble_eq_true rfl) dX9_high_8 ⟨Nat.zero_le _, Nat.zero_le _⟩ (fun H locs hW hS hm1 hE => ?_)
      refine lv_iconst (v := (0)) hx hb dX9_high_11 (by decide) ?_
      obtain ⟨x8, ex8, hf⟩ := op_st hf
      have bx8 : x8 = 0 ∨ x8 = 1 := Or.inl ex8
      refine z_istn (lv' := [(3, .int x8), (0, .ref (lo (10, 0, 0))), (1, .int i_1), (2, .int i_2)]) ex8 hx hb dX9_high_12 rfl hl (by decide) rfl (fun ls hl => ?_)
      obtain ⟨w11, q90, ew11, eq90, hf⟩ := op_lb hf
      have hw11 : ∀ n14 : Nat, ∀ (q9 : (Int32 × zSt)) (H : Heap) (locs : List Loc) (ls : Array Slot), lv_has ls 4 [(3, .int q9.1), (0, .ref (lo (10, 0, 0))), (1, .int i_1), (2, .int i_2)] → Wd Γ lo q9.2 X H → va_S (zA Γ) s.heap H locs → (∀ c, zV q9.2 c = zV S c) → lp w11 n14 q9 = some (Sum.inr y) → W p l e (headSpec wsX9_high rmX9_high).room s m ([.ref (lo (10, 0, 0)), .int i_1, .int i_2] : List Value).toArray below meth c H locs 0 0 (MQ below (zQ0 Γ lo S y.2 X (some (.int y.1)) True) ([.ref (lo (10, 0, 0)), .int i_1, .int i_2] : List Value).toArray s 0 0 (zA Γ)) (F0 m 13 ls []) := by
        intro n14
        induction n14 with
        | zero => intro q9 H locs ls hl hW hS hm hf; cases hf
        | succ n14 ih12 =>
          intro q9 H locs ls hl hW hS hm hf
          obtain ⟨n_, r10, hn_, hf, hr13⟩ := op_lq hf
          cases hn_
          rw [ew11] at hf
          refine lv_iload_n hx hb dX9_high_13 rfl (lv_at hl 0 rfl) ?_
          refine lv_aload_n hx hb dX9_high_14 rfl (lv_at hl 1 rfl) ?_
          refine va_get hx hb hts ni_X9_high_X9 hown hKK.1 (wd_1 hW ((hm _).trans v_z)) 0 rfl rfl 1 (by decide) (hts (.fieldLink RX9 16 "TiltRoute" "games" "Ljava/util/ArrayList;") (List.mem_of_getElem? (i := 1) rfl)) (fun _ h => h) rfl dX9_high_15 ?_
          have v15 : zV S (0, 1, 0) = true := (hm _).symm.trans (vf_10_1 hW ((hm _).trans v_z))
          obtain ⟨r16, hc17, hf⟩ := op_cl hf
          refine z_callV (As := []) (rest := [.int q9.1]) ⟨hx, hb, hml, hown, hts⟩ (tJ_size l Γ lo q9.2 X ((hm _).trans v15) hc17) (cwV 0 hts gX9_high_Jx4a65c_size_8abf5 rfl rfl rfl (by decide +kernel) ⟨Nat.le_of_ble_eq_true rfl, Nat.le_of_ble_eq_true rfl⟩) (wd_1 hW ((hm _).trans v15)) rfl hKK hW hS rfl hl.1 rfl (Nat.le_of_ble_eq_true rfl) dX9_high_18 ⟨Nat.zero_le _, Nat.zero_le _⟩ (fun H locs hW hS hm1 hE => ?_)
          obtain ⟨j18, ej18, hf⟩ := op_st hf
          have hj18 : ∀ (u_ : Unit) (H : Heap) (locs : List Loc) (ls : Array Slot), lv_has ls 4 [(0, .ref (lo (10, 0, 0))), (1, .int i_1), (2, .int i_2)] → Wd Γ lo q9.2 X H → va_S (zA Γ) s.heap H locs → (∀ c, zV q9.2 c = zV S c) → j18 () = some r10 → W p l e (headSpec wsX9_high rmX9_high).room s m ([.ref (lo (10, 0, 0)), .int i_1, .int i_2] : List Value).toArray below meth c H locs 0 0 (MQ below (zQ0 Γ lo S y.2 X (some (.int y.1)) True) ([.ref (lo (10, 0, 0)), .int i_1, .int i_2] : List Value).toArray s 0 0 (zA Γ)) (F0 m 74 ls []) := by
            intro u_ H locs ls  hl hW hS hm hf
            rw [ej18] at hf
            refine lv_iconst (v := (0)) hx hb dX9_high_74 (by decide) ?_
            obtain ⟨x19, ex19, hf⟩ := op_st hf
            have bx19 : x19 = 0 ∨ x19 = 1 := Or.inl ex19
            refine z_istn (lv' := [(3, .int x19), (0, .ref (lo (10, 0, 0))), (1, .int i_1), (2, .int i_2)]) ex19 hx hb dX9_high_75 rfl hl (by decide) rfl (fun ls hl => ?_)
            obtain ⟨w22, q200, ew22, eq200, hf⟩ := op_lb hf
            have hw22 : ∀ n25 : Nat, ∀ (q20 : (Int32)) (H : Heap) (locs : List Loc) (ls : Array Slot), lv_has ls 4 [(3, .int q20), (0, .ref (lo (10, 0, 0))), (1, .int i_1), (2, .int i_2)] → Wd Γ lo q9.2 X H → va_S (zA Γ) s.heap H locs → (∀ c, zV q9.2 c = zV S c) → lp w22 n25 q20 = some r10 → W p l e (headSpec wsX9_high rmX9_high).room s m ([.ref (lo (10, 0, 0)), .int i_1, .int i_2] : List Value).toArray below meth c H locs 0 0 (MQ below (zQ0 Γ lo S y.2 X (some (.int y.1)) True) ([.ref (lo (10, 0, 0)), .int i_1, .int i_2] : List Value).toArray s 0 0 (zA Γ)) (F0 m 76 ls []) := by
              intro n25
              induction n25 with
              | zero => intro q20 H locs ls hl hW hS hm hf; cases hf
              | succ n25 ih23 =>
                intro q20 H locs ls hl hW hS hm hf
                obtain ⟨n_, r21, hn_, hf, hr24⟩ := op_lq hf
                cases hn_
                rw [ew22] at hf
                refine lv_iload_n hx hb dX9_high_76 rfl (lv_at hl 0 rfl) ?_
                refine lv_aload_n hx hb dX9_high_77 rfl (lv_at hl 1 rfl) ?_
                refine va_get hx hb hts ni_X9_high_X9 hown hKK.1 (wd_1 hW ((hm _).trans v_z)) 0 rfl rfl 1 (by decide) (hts (.fieldLink RX9 16 "TiltRoute" "games" "Ljava/util/ArrayList;") (List.mem_of_getElem? (i := 1) rfl)) (fun _ h => h) rfl dX9_high_78 ?_
                have v26 : zV S (0, 1, 0) = true := (hm _).symm.trans (vf_10_1 hW ((hm _).trans v_z))
                obtain ⟨r27, hc28, hf⟩ := op_cl hf
                refine z_callV (As := []) (rest := [.int q20]) ⟨hx, hb, hml, hown, hts⟩ (tJ_size l Γ lo q9.2 X ((hm _).trans v26) hc28) (cwV 0 hts gX9_high_Jx4a65c_size_8abf5 rfl rfl rfl (by decide +kernel) ⟨Nat.le_of_ble_eq_true rfl, Nat.le_of_ble_eq_true rfl⟩) (wd_1 hW ((hm _).trans v26)) rfl hKK hW hS rfl hl.1 rfl (Nat.le_of_ble_eq_true rfl) dX9_high_81 ⟨Nat.zero_le _, Nat.zero_le _⟩ (fun H locs hW hS hm1 hE => ?_)
                refine lv_icmp_ge (tgt := 113) hx hb dX9_high_84 (by decide) (fun k84 => ?_) (fun k84 => ?_)
                · have hf := (op_if hf).1 k84
                  refine lv_iconst (v := (-1)) hx hb dX9_high_113 (by decide) ?_
                  have hf := zr_r hf hr24
                  have hf := congrArg some hf
                  have hf := zr_r hf hr13
                  have hf := Sum.inr.inj hf
                  rw [← hf]
                  exact z_iret hx hb hr hlocks rfl hW hS hm trivial dX9_high_114
                · have hf := (op_if hf).2 k84
                  refine lv_aload_n hx hb dX9_high_87 rfl (lv_at hl 1 rfl) ?_
                  refine lv_iload_n hx hb dX9_high_88 rfl (lv_at hl 0 rfl) ?_
                  refine lv_iload_n hx hb dX9_high_89 rfl (lv_at hl 2 rfl) ?_
                  obtain ⟨r29, hc30, hf⟩ := op_cl hf
                  refine z_callV (As := [.int q20, .int i_1]) (rest := []) ⟨hx, hb, hml, hown, hts⟩ (tX9_ranksAt l Γ lo q9.2 X ((hm _).trans v_z) hc30) (cwV 2 hts gX9_high_X9_ranksAt rfl rfl rfl (by decide +kernel) ⟨Nat.le_of_ble_eq_true rfl, Nat.le_of_ble_eq_true rfl⟩) (wd_1 hW ((hm _).trans v_z)) rfl hKK hW hS rfl hl.1 rfl (Nat.le_of_ble_eq_true rfl) dX9_high_90 ⟨Nat.zero_le _, Nat.zero_le _⟩ (fun H locs hW hS hm1 hE => ?_)
                  have b31 := hE
                  obtain ⟨j32, ej32, hf⟩ := op_st hf
                  have hj32 : ∀ (u_ : Unit) (H : Heap) (locs : List Loc) (ls : Array Slot), lv_has ls 4 [(3, .int q20), (0, .ref (lo (10, 0, 0))), (1, .int i_1), (2, .int i_2)] → Wd Γ lo q9.2 X H → va_S (zA Γ) s.heap H locs → (∀ c, zV q9.2 c = zV S c) → j32 () = some r21 → W p l e (headSpec wsX9_high rmX9_high).room s m ([.ref (lo (10, 0, 0)), .int i_1, .int i_2] : List Value).toArray below meth c H locs 0 0 (MQ below (zQ0 Γ lo S y.2 X (some (.int y.1)) True) ([.ref (lo (10, 0, 0)), .int i_1, .int i_2] : List Value).toArray s 0 0 (zA Γ)) (F0 m 107 ls []) := by
                    intro u_ H locs ls  hl hW hS hm hf
                    rw [ej32] at hf
                    obtain ⟨x33, ex33, hf⟩ := op_st hf
                    refine lv_iinc (v := x33) (lv' := [(3, .int x33), (0, .ref (lo (10, 0, 0))), (1, .int i_1), (2, .int i_2)]) hx hb dX9_high_107 hl (k := 0) rfl (by rw [ex33]; rfl) (by decide) rfl (fun ls hl => ?_)
                    refine lv_goto (tgt := 76) hx hb dX9_high_110 (by decide) ?_
                    have hf := zr_l hf hr24
                    exact ih23 (x33) H locs ls (lv_sub hl [0, 1, 2, 3] rfl) hW hS hm hf
                  refine lv_if_eq (tgt := 107) hx hb dX9_high_93 (by decide) (fun k93 => ?_) (fun k93 => ?_)
                  · have hf := (op_if hf).1 k93
                    exact hj32 () H locs ls  (lv_sub hl [0, 1, 2, 3] rfl) hW hS hm hf
                  · have hf := (op_if hf).2 k93
                    refine lv_aload_n hx hb dX9_high_96 rfl (lv_at hl 1 rfl) ?_
                    refine lv_iload_n hx hb dX9_high_97 rfl (lv_at hl 0 rfl) ?_
                    obtain ⟨r34, hc35, hf⟩ := op_cl hf
                    refine z_callV (As := [.int q20]) (rest := []) ⟨hx, hb, hml, hown, hts⟩ (tX9_countAhead l Γ lo q9.2 X ((hm _).trans v_z) hc35) (cwV 1 hts gX9_high_X9_countAhead rfl rfl rfl (by decide +kernel) ⟨Nat.le_of_ble_eq_true rfl, Nat.le_of_ble_eq_true rfl⟩) (wd_1 hW ((hm _).trans v_z)) rfl hKK hW hS rfl hl.1 rfl (Nat.le_of_ble_eq_true rfl) dX9_high_98 ⟨Nat.zero_le _, Nat.zero_le _⟩ (fun H locs hW hS hm1 hE => ?_)
                    refine lv_iload_n hx hb dX9_high_101 rfl (lv_at hl 3 rfl) ?_
                    refine lv_icmp_ne (tgt := 107) hx hb dX9_high_102 (by decide) (fun k102 => ?_) (fun k102 => ?_)
                    · have hf := (op_if hf).2 k102
                      exact hj32 () H locs ls  (lv_sub hl [0, 1, 2, 3] rfl) hW hS hm hf
                    · have hf := (op_if hf).1 k102
                      refine lv_iload_n hx hb dX9_high_105 rfl (lv_at hl 0 rfl) ?_
                      have hf := zr_r hf hr24
                      have hf := congrArg some hf
                      have hf := zr_r hf hr13
                      have hf := Sum.inr.inj hf
                      rw [← hf]
                      exact z_iret hx hb hr hlocks rfl hW hS hm trivial dX9_high_106
            rw [eq200] at hf
            exact hw22 _ (x19) H locs ls (lv_sub hl [0, 1, 2, 3] rfl) hW hS hm hf
          refine lv_icmp_ge (tgt := 74) hx hb dX9_high_21 (by decide) (fun k21 => ?_) (fun k21 => ?_)
          · have hf := (op_if hf).1 k21
            exact hj18 () H locs ls  (lv_sub hl [1, 2, 3] rfl) hW hS hm hf
          · have hf := (op_if hf).2 k21
            refine lv_iload_n hx hb dX9_high_24 rfl (lv_at hl 0 rfl) ?_
            refine lv_aload_n hx hb dX9_high_25 rfl (lv_at hl 1 rfl) ?_
            refine va_get hx hb hts ni_X9_high_X9 hown hKK.1 (wd_1 hW ((hm _).trans v_z)) 0 rfl rfl 7 (by decide) (hts (.fieldLink RX9 47 "TiltRoute" "validScores" "[I") (List.mem_of_getElem? (i := 2) rfl)) (fun _ h => h) rfl dX9_high_26 ?_
            have v36 : zV S (22, 0, 0) = true := (hm _).symm.trans (vf_10_7 hW ((hm _).trans v_z))
            refine va_alen (v := 40) hx hb hKK.1 (wd_1 hW ((hm _).trans v36)) 0 0 rfl rfl (show Int32.ofNat 40 = 40 by decide) dX9_high_29 ?_
            refine lv_icmp_ge (tgt := 74) hx hb dX9_high_30 (by decide) (fun k30 => ?_) (fun k30 => ?_)
            · have hf := (op_if hf).1 k30
              exact hj18 () H locs ls  (lv_sub hl [1, 2, 3] rfl) hW hS hm hf
            · have hf := (op_if hf).2 k30
              refine lv_aload_n hx hb dX9_high_33 rfl (lv_at hl 1 rfl) ?_
              refine va_get hx hb hts ni_X9_high_X9 hown hKK.1 (wd_1 hW ((hm _).trans v_z)) 0 rfl rfl 7 (by decide) (hts (.fieldLink RX9 47 "TiltRoute" "validScores" "[I") (List.mem_of_getElem? (i := 2) rfl)) (fun _ h => h) rfl dX9_high_34 ?_
              have v37 : zV S (22, 0, 0) = true := (hm _).symm.trans (vf_10_7 hW ((hm _).trans v_z))
              refine lv_iload_n hx hb dX9_high_37 rfl (lv_at hl 0 rfl) ?_
              refine lv_aload_n hx hb dX9_high_38 rfl (lv_at hl 1 rfl) ?_
              refine lv_iload_n hx hb dX9_high_39 rfl (lv_at hl 0 rfl) ?_
              refine lv_iload_n hx hb dX9_high_40 rfl (lv_at hl 2 rfl) ?_
              obtain ⟨r38, hc39, hf⟩ := op_cl hf
              refine z_callV (As := [.int q9.1, .int i_1]) (rest := [.int q9.1, .ref (lo (22, 0, 0))]) ⟨hx, hb, hml, hown, hts⟩ (tX9_ranksAt l Γ lo q9.2 X ((hm _).trans v_z) hc39) (cwV 2 hts gX9_high_X9_ranksAt rfl rfl rfl (by decide +kernel) ⟨Nat.le_of_ble_eq_true rfl, Nat.le_of_ble_eq_true rfl⟩) (wd_1 hW ((hm _).trans v_z)) rfl hKK hW hS rfl hl.1 rfl (Nat.le_of_ble_eq_true rfl) dX9_high_41 ⟨Nat.zero_le _, Nat.zero_le _⟩ (fun H locs hW hS hm1 hE => ?_)
              have b40 := hE
              obtain ⟨j43, ej43, hf⟩ := op_st hf
              have hj43 : ∀ (y41 : Int32) (S42 : zSt) (H : Heap) (locs : List Loc) (ls : Array Slot), lv_has ls 4 [(3, .int q9.1), (0, .ref (lo (10, 0, 0))), (1, .int i_1), (2, .int i_2)] → Wd Γ lo S42 X H → va_S (zA Γ) s.heap H locs → (∀ c, zV S42 c = zV S c) → j43 y41 S42 = some r10 → W p l e (headSpec wsX9_high rmX9_high).room s m ([.ref (lo (10, 0, 0)), .int i_1, .int i_2] : List Value).toArray below meth c H locs 0 0 (MQ below (zQ0 Γ lo S y.2 X (some (.int y.1)) True) ([.ref (lo (10, 0, 0)), .int i_1, .int i_2] : List Value).toArray s 0 0 (zA Γ)) (F0 m 67 ls [.int y41, .int q9.1, .ref (lo (22, 0, 0))]) := by
                intro y41 S42 H locs ls  hl hW hS hm hf
                rw [ej43] at hf
                obtain ⟨h67, hf⟩ := op_gd hf
                obtain ⟨S44, eS44, hf⟩ := op_st hf
                refine g_iast (n := 40) hx hb hKK.1 hW hS ((hm _).trans v37) (fun _ _ _ _ => rfl) h67 dX9_high_67 eS44 (fun H locs hW hS => ?_)
                have hm : ∀ c, zV S44 c = zV S c := fun c => by rw [eS44]; exact hm c
                obtain ⟨x45, ex45, hf⟩ := op_st hf
                refine lv_iinc (v := x45) (lv' := [(3, .int x45), (0, .ref (lo (10, 0, 0))), (1, .int i_1), (2, .int i_2)]) hx hb dX9_high_68 hl (k := 0) rfl (by rw [ex45]; rfl) (by decide) rfl (fun ls hl => ?_)
                refine lv_goto (tgt := 13) hx hb dX9_high_71 (by decide) ?_
                have hf := zr_l hf hr13
                exact ih12 (x45, S44) H locs ls (lv_sub hl [0, 1, 2, 3] rfl) hW hS hm hf
              refine lv_if_eq (tgt := 66) hx hb dX9_high_44 (by decide) (fun k44 => ?_) (fun k44 => ?_)
              · have hf := (op_if hf).1 k44
                refine lv_iconst (v := (-1)) hx hb dX9_high_66 (by decide) ?_
                exact hj43 (-1 : Int32) q9.2 H locs ls  (lv_sub hl [0, 1, 2, 3] rfl) hW hS hm hf
              · have hf := (op_if hf).2 k44
                refine lv_aload_n hx hb dX9_high_47 rfl (lv_at hl 1 rfl) ?_
                refine lv_aload_n hx hb dX9_high_48 rfl (lv_at hl 1 rfl) ?_
                refine va_get hx hb hts ni_X9_high_X9 hown hKK.1 (wd_1 hW ((hm _).trans v_z)) 0 rfl rfl 1 (by decide) (hts (.fieldLink RX9 16 "TiltRoute" "games" "Ljava/util/ArrayList;") (List.mem_of_getElem? (i := 1) rfl)) (fun _ h => h) rfl dX9_high_49 ?_
                have v46 : zV S (0, 1, 0) = true := (hm _).symm.trans (vf_10_1 hW ((hm _).trans v_z))
                refine lv_iload_n hx hb dX9_high_52 rfl (lv_at hl 0 rfl) ?_
                obtain ⟨r47, hc48, hf⟩ := op_cl hf
                refine z_callV (As := [.int q9.1]) (rest := [.ref (lo (10, 0, 0)), .int q9.1, .ref (lo (22, 0, 0))]) ⟨hx, hb, hml, hown, hts⟩ (tJ_get l Γ lo q9.2 X ((hm _).trans v46) hc48) (cwV 1 hts gX9_high_Jx4a65c_get_915e3 rfl rfl rfl (by decide +kernel) ⟨Nat.le_of_ble_eq_true rfl, Nat.le_of_ble_eq_true rfl⟩) (wd_1 hW ((hm _).trans v46)) rfl hKK hW hS rfl hl.1 rfl (Nat.le_of_ble_eq_true rfl) dX9_high_53 ⟨Nat.zero_le _, Nat.zero_le _⟩ (fun H locs hW hS hm1 hE => ?_)
                have v49 : zV S (3, r47, 0) = true := (hm _).symm.trans (hE)
                refine va_castE hx hb hown (hts (.classLink RX9 143 "TiltRoute$Game") (List.mem_of_getElem? (i := 3) rfl)) (va_recv (q0 := 0) hKK.1 (wd_1 hW ((hm _).trans v49)) (ci := 3) rfl rfl) dX9_high_56 ?_
                refine lv_iconst (v := (1)) hx hb dX9_high_59 (by decide) ?_
                obtain ⟨r50, S52, hc51, hf⟩ := op_cl2 hf
                refine z_callV (As := [.ref (lo (3, r47, 0)), .int (1 : Int32)]) (rest := [.int q9.1, .ref (lo (22, 0, 0))]) ⟨hx, hb, hml, hown, hts⟩ (tX9_replayedScore l Γ lo q9.2 X ((hm _).trans v_z) ((hm _).trans v49) (Or.inr rfl) hc51) (cwV 2 hts gX9_high_X9_replayedScore rfl rfl rfl (by decide +kernel) ⟨Nat.le_of_ble_eq_true rfl, Nat.le_of_ble_eq_true rfl⟩) (wd_1 hW ((hm _).trans v_z)) rfl hKK hW hS rfl hl.1 rfl (Nat.le_of_ble_eq_true rfl) dX9_high_60 ⟨Nat.zero_le _, Nat.zero_le _⟩ (fun H locs hW hS hm1 hE => ?_)
                have hm : ∀ c, zV S52 c = zV S c := fun c => (hm1 c).trans (hm c)
                refine lv_goto (tgt := 67) hx hb dX9_high_63 (by decide) ?_
                exact hj43 r50 S52 H locs ls  (lv_sub hl [0, 1, 2, 3] rfl) hW hS hm hf
      rw [eq90] at hf
      exact hw11 _ (x8, S) H locs ls (lv_sub hl [0, 1, 2, 3] rfl) hW hS hm hf
abbrev rnX9_high : Room := { frames := 7, cells := 1, slots := 6, locals := 103 }
set_option maxHeartbeats 4000000 in
set_option maxRecDepth 100000 in
theorem uX9_high (l : Launch) (hl0 : l.stackTraces = false) (Γ : zG) (lo : zId → Nat) (S : zSt) (X : va_W) {i_1 : Int32} {i_2 : Int32} (v_z : zV S (10, 0, 0) = true) {ee : Nat × zSt} (hf : fX9_high S i_1 i_2 = some (Sum.inl ee)) : vx_Met l yX9_high wsX9_high rnX9_high (zP1 Γ lo S X [.ref (lo (10, 0, 0)), .int i_1, .int i_2]) zF (zT Γ lo S X ee) 1 6 (zA Γ) := by
  refine vx_ofW (cc := cX9_high) (maxL := 4) (ret := (some .int)) (by decide) rfl ?_
  intro p e s m args below meth c s₁ B hml ht hv
  obtain ⟨rfl, hW, hKK, hKX⟩ := hv
  have hx := B.exec
  have hb := B.bytes
  have hr := B.returns
  have hts := atoms_spec (ws := wsX9_high) B.pre
  have hown : s.vm.findClass RX9 = some m.cls := findClass_of_methodNamed B.named
  have hlocks := B.notSynchronized
  have hS : va_S (zA Γ) s.heap s.heap [] := va_S.rf
  have hm : ∀ c, zV S c = zV S c := fun _ => rfl
  have hl := lv_entry ([.ref (lo (10, 0, 0)), .int i_1, .int i_2]) (n := 4) (Nat.le_of_ble_eq_true rfl)
  rw [lg_entry_eq]
  generalize (lg_sl ([.ref (lo (10, 0, 0)), .int i_1, .int i_2]) ++ List.replicate (4 - (lg_sl ([.ref (lo (10, 0, 0)), .int i_1, .int i_2])).length) Slot.unset).toArray = ls at hl ⊢
  have hl : lv_has ls 4 [(0, .ref (lo (10, 0, 0))), (1, .int i_1), (2, .int i_2)] := hl
  obtain ⟨H, hH0⟩ : ∃ H, H = s.heap := ⟨_, rfl⟩
  obtain ⟨locs, hlo0⟩ : ∃ L : List Loc, L = [] := ⟨_, rfl⟩
  have hS : va_S (zA Γ) s.heap H locs := by rw [hH0, hlo0]; exact hS
  have hW : Wd Γ lo S X H := by rw [hH0]; exact hW
  rw [← hH0, ← hlo0]
  unfold fX9_high at hf
  refine lv_aload_n hx hb dX9_high_0 rfl (lv_at hl 0 rfl) ?_
  refine lv_iload_n hx hb dX9_high_1 rfl (lv_at hl 1 rfl) ?_
  rcases op_cx hf with ⟨ee3, hc2, hf⟩ | ⟨r1, hc2, hf⟩
  · have hf := congrArg some hf
    have hf := Option.some.inj hf
    have hf := Sum.inl.inj hf
    rw [← hf]
    exact zx_callV (As := [.int i_1]) (rest := []) ⟨hx, hb, hml, hown, hts⟩ (uX9_demandTable l hl0 Γ lo S X v_z hc2) (cwV 1 hts gX9_high_X9_demandTable rfl rfl rfl (by decide +kernel) ⟨Nat.le_of_ble_eq_true rfl, Nat.le_of_ble_eq_true rfl⟩) (wd_1 hW v_z) rfl hKK hKX hW hS hm rfl hl.1 rfl (Nat.le_of_ble_eq_true rfl) dX9_high_2 ⟨Nat.le_of_ble_eq_true rfl, Nat.le_of_ble_eq_true rfl⟩ ht hlocks
  · skip
    refine z_callV (As := [.int i_1]) (rest := []) ⟨hx, hb, hml, hown, hts⟩ (tX9_demandTable l Γ lo S X v_z hc2) (cwV 1 hts gX9_high_X9_demandTable rfl rfl rfl (by decide +kernel) ⟨Nat.le_of_ble_eq_true rfl, Nat.le_of_ble_eq_true rfl⟩) (wd_1 hW v_z) rfl hKK hW hS rfl hl.1 rfl (Nat.le_of_ble_eq_true rfl) dX9_high_2 ⟨Nat.zero_le _, Nat.zero_le _⟩ (fun H locs hW hS hm1 hE => ?_)
    have v4 : zV S (8, r1, 0) = true := hE
    refine lv_pop hx hb dX9_high_5 rfl ?_
    refine lv_iload_n hx hb dX9_high_6 rfl (lv_at hl 2 rfl) ?_
    refine lv_iconst (v := (0)) hx hb dX9_high_7 (by decide) ?_
    rcases op_cx hf with ⟨ee7, hc6, hf⟩ | ⟨r5, hc6, hf⟩
    · have hf := congrArg some hf
      have hf := Option.some.inj hf
      have hf := Sum.inl.inj hf
      rw [← hf]
      exact zx_callS (As := [.int i_2, .int (0 : Int32)]) (rest := []) ⟨hx, hb, hml, hown, hts⟩ (uX9_demandLeast l hl0 Γ lo S X  hc6) (va_cwS 2 hts gX9_high_X9_demandLeast rfl rfl rfl (by decide +kernel) ⟨Nat.le_of_ble_eq_true rfl, Nat.le_of_ble_eq_true rfl⟩) hKK hKX hW hS hm rfl hl.1 rfl (Nat.le_of_ble_eq_true rfl) dX9_high_8 ⟨Nat.le_of_ble_eq_true rfl, Nat.le_of_ble_eq_true rfl⟩ ht hlocks
    · skip
      refine z_callS (As := [.int i_2, .int (0 : Int32)]) (rest := []) ⟨hx, hb, hml, hown, hts⟩ (tX9_demandLeast l Γ lo S X  hc6) (va_cwS 2 hts gX9_high_X9_demandLeast rfl rfl rfl (by decide +kernel) ⟨Nat.le_of_ble_eq_true rfl, Nat.le_of_ble_eq_true rfl⟩) hKK hW hS rfl hl.1 rfl (Nat.le_of_ble_eq_true rfl) dX9_high_8 ⟨Nat.zero_le _, Nat.zero_le _⟩ (fun H locs hW hS hm1 hE => ?_)
      refine lv_iconst (v := (0)) hx hb dX9_high_11 (by decide) ?_
      obtain ⟨x8, ex8, hf⟩ := op_st hf
      have bx8 : x8 = 0 ∨ x8 = 1 := Or.inl ex8
      refine z_istn (lv' := [(3, .int x8), (0, .ref (lo (10, 0, 0))), (1, .int i_1), (2, .int i_2)]) ex8 hx hb dX9_high_12 rfl hl (by decide) rfl (fun ls hl => ?_)
      obtain ⟨w11, q90, ew11, eq90, hf⟩ := op_lb hf
      have hw11 : ∀ n14 : Nat, ∀ (q9 : (Int32 × zSt)) (H : Heap) (locs : List Loc) (ls : Array Slot), lv_has ls 4 [(3, .int q9.1), (0, .ref (lo (10, 0, 0))), (1, .int i_1), (2, .int i_2)] → Wd Γ lo q9.2 X H → va_S (zA Γ) s.heap H locs → (∀ c, zV q9.2 c = zV S c) → lp w11 n14 q9 = some (Sum.inl ee) → W p l e (headSpec wsX9_high rnX9_high).room s m ([.ref (lo (10, 0, 0)), .int i_1, .int i_2] : List Value).toArray below meth c H locs 0 0 (vx_MQ below zF (zT Γ lo S X ee) ([.ref (lo (10, 0, 0)), .int i_1, .int i_2] : List Value).toArray s 1 6 (zA Γ)) (F0 m 13 ls []) := by
        intro n14
        induction n14 with
        | zero => intro q9 H locs ls hl hW hS hm hf; cases hf
        | succ n14 ih12 =>
          intro q9 H locs ls hl hW hS hm hf
          obtain ⟨n_, r10, hn_, hf, hr13⟩ := op_lq hf
          cases hn_
          rw [ew11] at hf
          refine lv_iload_n hx hb dX9_high_13 rfl (lv_at hl 0 rfl) ?_
          refine lv_aload_n hx hb dX9_high_14 rfl (lv_at hl 1 rfl) ?_
          refine va_get hx hb hts ni_X9_high_X9 hown hKK.1 (wd_1 hW ((hm _).trans v_z)) 0 rfl rfl 1 (by decide) (hts (.fieldLink RX9 16 "TiltRoute" "games" "Ljava/util/ArrayList;") (List.mem_of_getElem? (i := 1) rfl)) (fun _ h => h) rfl dX9_high_15 ?_
          have v15 : zV S (0, 1, 0) = true := (hm _).symm.trans (vf_10_1 hW ((hm _).trans v_z))
          obtain ⟨r16, hc17, hf⟩ := op_cl hf
          refine z_callV (As := []) (rest := [.int q9.1]) ⟨hx, hb, hml, hown, hts⟩ (tJ_size l Γ lo q9.2 X ((hm _).trans v15) hc17) (cwV 0 hts gX9_high_Jx4a65c_size_8abf5 rfl rfl rfl (by decide +kernel) ⟨Nat.le_of_ble_eq_true rfl, Nat.le_of_ble_eq_true rfl⟩) (wd_1 hW ((hm _).trans v15)) rfl hKK hW hS rfl hl.1 rfl (Nat.le_of_ble_eq_true rfl) dX9_high_18 ⟨Nat.zero_le _, Nat.zero_le _⟩ (fun H locs hW hS hm1 hE => ?_)
          obtain ⟨j18, ej18, hf⟩ := op_st hf
          have hj18 : ∀ (u_ : Unit) (H : Heap) (locs : List Loc) (ls : Array Slot), lv_has ls 4 [(0, .ref (lo (10, 0, 0))), (1, .int i_1), (2, .int i_2)] → Wd Γ lo q9.2 X H → va_S (zA Γ) s.heap H locs → (∀ c, zV q9.2 c = zV S c) → j18 () = some r10 → W p l e (headSpec wsX9_high rnX9_high).room s m ([.ref (lo (10, 0, 0)), .int i_1, .int i_2] : List Value).toArray below meth c H locs 0 0 (vx_MQ below zF (zT Γ lo S X ee) ([.ref (lo (10, 0, 0)), .int i_1, .int i_2] : List Value).toArray s 1 6 (zA Γ)) (F0 m 74 ls []) := by
            intro u_ H locs ls  hl hW hS hm hf
            rw [ej18] at hf
            refine lv_iconst (v := (0)) hx hb dX9_high_74 (by decide) ?_
            obtain ⟨x19, ex19, hf⟩ := op_st hf
            have bx19 : x19 = 0 ∨ x19 = 1 := Or.inl ex19
            refine z_istn (lv' := [(3, .int x19), (0, .ref (lo (10, 0, 0))), (1, .int i_1), (2, .int i_2)]) ex19 hx hb dX9_high_75 rfl hl (by decide) rfl (fun ls hl => ?_)
            obtain ⟨w22, q200, ew22, eq200, hf⟩ := op_lb hf
            have hw22 : ∀ n25 : Nat, ∀ (q20 : (Int32)) (H : Heap) (locs : List Loc) (ls : Array Slot), lv_has ls 4 [(3, .int q20), (0, .ref (lo (10, 0, 0))), (1, .int i_1), (2, .int i_2)] → Wd Γ lo q9.2 X H → va_S (zA Γ) s.heap H locs → (∀ c, zV q9.2 c = zV S c) → lp w22 n25 q20 = some r10 → W p l e (headSpec wsX9_high rnX9_high).room s m ([.ref (lo (10, 0, 0)), .int i_1, .int i_2] : List Value).toArray below meth c H locs 0 0 (vx_MQ below zF (zT Γ lo S X ee) ([.ref (lo (10, 0, 0)), .int i_1, .int i_2] : List Value).toArray s 1 6 (zA Γ)) (F0 m 76 ls []) := by
              intro n25
              induction n25 with
              | zero => intro q20 H locs ls hl hW hS hm hf; cases hf
              | succ n25 ih23 =>
                intro q20 H locs ls hl hW hS hm hf
                obtain ⟨n_, r21, hn_, hf, hr24⟩ := op_lq hf
                cases hn_
                rw [ew22] at hf
                refine lv_iload_n hx hb dX9_high_76 rfl (lv_at hl 0 rfl) ?_
                refine lv_aload_n hx hb dX9_high_77 rfl (lv_at hl 1 rfl) ?_
                refine va_get hx hb hts ni_X9_high_X9 hown hKK.1 (wd_1 hW ((hm _).trans v_z)) 0 rfl rfl 1 (by decide) (hts (.fieldLink RX9 16 "TiltRoute" "games" "Ljava/util/ArrayList;") (List.mem_of_getElem? (i := 1) rfl)) (fun _ h => h) rfl dX9_high_78 ?_
                have v26 : zV S (0, 1, 0) = true := (hm _).symm.trans (vf_10_1 hW ((hm _).trans v_z))
                obtain ⟨r27, hc28, hf⟩ := op_cl hf
                refine z_callV (As := []) (rest := [.int q20]) ⟨hx, hb, hml, hown, hts⟩ (tJ_size l Γ lo q9.2 X ((hm _).trans v26) hc28) (cwV 0 hts gX9_high_Jx4a65c_size_8abf5 rfl rfl rfl (by decide +kernel) ⟨Nat.le_of_ble_eq_true rfl, Nat.le_of_ble_eq_true rfl⟩) (wd_1 hW ((hm _).trans v26)) rfl hKK hW hS rfl hl.1 rfl (Nat.le_of_ble_eq_true rfl) dX9_high_81 ⟨Nat.zero_le _, Nat.zero_le _⟩ (fun H locs hW hS hm1 hE => ?_)
                refine lv_icmp_ge (tgt := 113) hx hb dX9_high_84 (by decide) (fun k84 => ?_) (fun k84 => ?_)
                · have hf := (op_if hf).1 k84
                  refine lv_iconst (v := (-1)) hx hb dX9_high_113 (by decide) ?_
                  have hf := zr_r hf hr24
                  have hf := congrArg some hf
                  have hf := zr_r hf hr13
                  cases hf
                · have hf := (op_if hf).2 k84
                  refine lv_aload_n hx hb dX9_high_87 rfl (lv_at hl 1 rfl) ?_
                  refine lv_iload_n hx hb dX9_high_88 rfl (lv_at hl 0 rfl) ?_
                  refine lv_iload_n hx hb dX9_high_89 rfl (lv_at hl 2 rfl) ?_
                  obtain ⟨r29, hc30, hf⟩ := op_cl hf
                  refine z_callV (As := [.int q20, .int i_1]) (rest := []) ⟨hx, hb, hml, hown, hts⟩ (tX9_ranksAt l Γ lo q9.2 X ((hm _).trans v_z) hc30) (cwV 2 hts gX9_high_X9_ranksAt rfl rfl rfl (by decide +kernel) ⟨Nat.le_of_ble_eq_true rfl, Nat.le_of_ble_eq_true rfl⟩) (wd_1 hW ((hm _).trans v_z)) rfl hKK hW hS rfl hl.1 rfl (Nat.le_of_ble_eq_true rfl) dX9_high_90 ⟨Nat.zero_le _, Nat.zero_le _⟩ (fun H locs hW hS hm1 hE => ?_)
                  have b31 := hE
                  obtain ⟨j32, ej32, hf⟩ := op_st hf
                  have hj32 : ∀ (u_ : Unit) (H : Heap) (locs : List Loc) (ls : Array Slot), lv_has ls 4 [(3, .int q20), (0, .ref (lo (10, 0, 0))), (1, .int i_1), (2, .int i_2)] → Wd Γ lo q9.2 X H → va_S (zA Γ) s.heap H locs → (∀ c, zV q9.2 c = zV S c) → j32 () = some r21 → W p l e (headSpec wsX9_high rnX9_high).room s m ([.ref (lo (10, 0, 0)), .int i_1, .int i_2] : List Value).toArray below meth c H locs 0 0 (vx_MQ below zF (zT Γ lo S X ee) ([.ref (lo (10, 0, 0)), .int i_1, .int i_2] : List Value).toArray s 1 6 (zA Γ)) (F0 m 107 ls []) := by
                    intro u_ H locs ls  hl hW hS hm hf
                    rw [ej32] at hf
                    obtain ⟨x33, ex33, hf⟩ := op_st hf
                    refine lv_iinc (v := x33) (lv' := [(3, .int x33), (0, .ref (lo (10, 0, 0))), (1, .int i_1), (2, .int i_2)]) hx hb dX9_high_107 hl (k := 0) rfl (by rw [ex33]; rfl) (by decide) rfl (fun ls hl => ?_)
                    refine lv_goto (tgt := 76) hx hb dX9_high_110 (by decide) ?_
                    have hf := zr_l hf hr24
                    exact ih23 (x33) H locs ls (lv_sub hl [0, 1, 2, 3] rfl) hW hS hm hf
                  refine lv_if_eq (tgt := 107) hx hb dX9_high_93 (by decide) (fun k93 => ?_) (fun k93 => ?_)
                  · have hf := (op_if hf).1 k93
                    exact hj32 () H locs ls  (lv_sub hl [0, 1, 2, 3] rfl) hW hS hm hf
                  · have hf := (op_if hf).2 k93
                    refine lv_aload_n hx hb dX9_high_96 rfl (lv_at hl 1 rfl) ?_
                    refine lv_iload_n hx hb dX9_high_97 rfl (lv_at hl 0 rfl) ?_
                    obtain ⟨r34, hc35, hf⟩ := op_cl hf
                    refine z_callV (As := [.int q20]) (rest := []) ⟨hx, hb, hml, hown, hts⟩ (tX9_countAhead l Γ lo q9.2 X ((hm _).trans v_z) hc35) (cwV 1 hts gX9_high_X9_countAhead rfl rfl rfl (by decide +kernel) ⟨Nat.le_of_ble_eq_true rfl, Nat.le_of_ble_eq_true rfl⟩) (wd_1 hW ((hm _).trans v_z)) rfl hKK hW hS rfl hl.1 rfl (Nat.le_of_ble_eq_true rfl) dX9_high_98 ⟨Nat.zero_le _, Nat.zero_le _⟩ (fun H locs hW hS hm1 hE => ?_)
                    refine lv_iload_n hx hb dX9_high_101 rfl (lv_at hl 3 rfl) ?_
                    refine lv_icmp_ne (tgt := 107) hx hb dX9_high_102 (by decide) (fun k102 => ?_) (fun k102 => ?_)
                    · have hf := (op_if hf).2 k102
                      exact hj32 () H locs ls  (lv_sub hl [0, 1, 2, 3] rfl) hW hS hm hf
                    · have hf := (op_if hf).1 k102
                      refine lv_iload_n hx hb dX9_high_105 rfl (lv_at hl 0 rfl) ?_
                      have hf := zr_r hf hr24
                      have hf := congrArg some hf
                      have hf := zr_r hf hr13
                      cases hf
            rw [eq200] at hf
            exact hw22 _ (x19) H locs ls (lv_sub hl [0, 1, 2, 3] rfl) hW hS hm hf
          refine lv_icmp_ge (tgt := 74) hx hb dX9_high_21 (by decide) (fun k21 => ?_) (fun k21 => ?_)
          · have hf := (op_if hf).1 k21
            exact hj18 () H locs ls  (lv_sub hl [1, 2, 3] rfl) hW hS hm hf
          · have hf := (op_if hf).2 k21
            refine lv_iload_n hx hb dX9_high_24 rfl (lv_at hl 0 rfl) ?_
            refine lv_aload_n hx hb dX9_high_25 rfl (lv_at hl 1 rfl) ?_
            refine va_get hx hb hts ni_X9_high_X9 hown hKK.1 (wd_1 hW ((hm _).trans v_z)) 0 rfl rfl 7 (by decide) (hts (.fieldLink RX9 47 "TiltRoute" "validScores" "[I") (List.mem_of_getElem? (i := 2) rfl)) (fun _ h => h) rfl dX9_high_26 ?_
            have v36 : zV S (22, 0, 0) = true := (hm _).symm.trans (vf_10_7 hW ((hm _).trans v_z))
            refine va_alen (v := 40) hx hb hKK.1 (wd_1 hW ((hm _).trans v36)) 0 0 rfl rfl (show Int32.ofNat 40 = 40 by decide) dX9_high_29 ?_
            refine lv_icmp_ge (tgt := 74) hx hb dX9_high_30 (by decide) (fun k30 => ?_) (fun k30 => ?_)
            · have hf := (op_if hf).1 k30
              exact hj18 () H locs ls  (lv_sub hl [1, 2, 3] rfl) hW hS hm hf
            · have hf := (op_if hf).2 k30
              refine lv_aload_n hx hb dX9_high_33 rfl (lv_at hl 1 rfl) ?_
              refine va_get hx hb hts ni_X9_high_X9 hown hKK.1 (wd_1 hW ((hm _).trans v_z)) 0 rfl rfl 7 (by decide) (hts (.fieldLink RX9 47 "TiltRoute" "validScores" "[I") (List.mem_of_getElem? (i := 2) rfl)) (fun _ h => h) rfl dX9_high_34 ?_
              have v37 : zV S (22, 0, 0) = true := (hm _).symm.trans (vf_10_7 hW ((hm _).trans v_z))
              refine lv_iload_n hx hb dX9_high_37 rfl (lv_at hl 0 rfl) ?_
              refine lv_aload_n hx hb dX9_high_38 rfl (lv_at hl 1 rfl) ?_
              refine lv_iload_n hx hb dX9_high_39 rfl (lv_at hl 0 rfl) ?_
              refine lv_iload_n hx hb dX9_high_40 rfl (lv_at hl 2 rfl) ?_
              obtain ⟨r38, hc39, hf⟩ := op_cl hf
              refine z_callV (As := [.int q9.1, .int i_1]) (rest := [.int q9.1, .ref (lo (22, 0, 0))]) ⟨hx, hb, hml, hown, hts⟩ (tX9_ranksAt l Γ lo q9.2 X ((hm _).trans v_z) hc39) (cwV 2 hts gX9_high_X9_ranksAt rfl rfl rfl (by decide +kernel) ⟨Nat.le_of_ble_eq_true rfl, Nat.le_of_ble_eq_true rfl⟩) (wd_1 hW ((hm _).trans v_z)) rfl hKK hW hS rfl hl.1 rfl (Nat.le_of_ble_eq_true rfl) dX9_high_41 ⟨Nat.zero_le _, Nat.zero_le _⟩ (fun H locs hW hS hm1 hE => ?_)
              have b40 := hE
              obtain ⟨j43, ej43, hf⟩ := op_st hf
              have hj43 : ∀ (y41 : Int32) (S42 : zSt) (H : Heap) (locs : List Loc) (ls : Array Slot), lv_has ls 4 [(3, .int q9.1), (0, .ref (lo (10, 0, 0))), (1, .int i_1), (2, .int i_2)] → Wd Γ lo S42 X H → va_S (zA Γ) s.heap H locs → (∀ c, zV S42 c = zV S c) → j43 y41 S42 = some r10 → W p l e (headSpec wsX9_high rnX9_high).room s m ([.ref (lo (10, 0, 0)), .int i_1, .int i_2] : List Value).toArray below meth c H locs 0 0 (vx_MQ below zF (zT Γ lo S X ee) ([.ref (lo (10, 0, 0)), .int i_1, .int i_2] : List Value).toArray s 1 6 (zA Γ)) (F0 m 67 ls [.int y41, .int q9.1, .ref (lo (22, 0, 0))]) := by
                intro y41 S42 H locs ls  hl hW hS hm hf
                rw [ej43] at hf
                obtain ⟨h67, hf⟩ := op_gd hf
                obtain ⟨S44, eS44, hf⟩ := op_st hf
                refine g_iast (n := 40) hx hb hKK.1 hW hS ((hm _).trans v37) (fun _ _ _ _ => rfl) h67 dX9_high_67 eS44 (fun H locs hW hS => ?_)
                have hm : ∀ c, zV S44 c = zV S c := fun c => by rw [eS44]; exact hm c
                obtain ⟨x45, ex45, hf⟩ := op_st hf
                refine lv_iinc (v := x45) (lv' := [(3, .int x45), (0, .ref (lo (10, 0, 0))), (1, .int i_1), (2, .int i_2)]) hx hb dX9_high_68 hl (k := 0) rfl (by rw [ex45]; rfl) (by decide) rfl (fun ls hl => ?_)
                refine lv_goto (tgt := 13) hx hb dX9_high_71 (by decide) ?_
                have hf := zr_l hf hr13
                exact ih12 (x45, S44) H locs ls (lv_sub hl [0, 1, 2, 3] rfl) hW hS hm hf
              refine lv_if_eq (tgt := 66) hx hb dX9_high_44 (by decide) (fun k44 => ?_) (fun k44 => ?_)
              · have hf := (op_if hf).1 k44
                refine lv_iconst (v := (-1)) hx hb dX9_high_66 (by decide) ?_
                exact hj43 (-1 : Int32) q9.2 H locs ls  (lv_sub hl [0, 1, 2, 3] rfl) hW hS hm hf
              · have hf := (op_if hf).2 k44
                refine lv_aload_n hx hb dX9_high_47 rfl (lv_at hl 1 rfl) ?_
                refine lv_aload_n hx hb dX9_high_48 rfl (lv_at hl 1 rfl) ?_
                refine va_get hx hb hts ni_X9_high_X9 hown hKK.1 (wd_1 hW ((hm _).trans v_z)) 0 rfl rfl 1 (by decide) (hts (.fieldLink RX9 16 "TiltRoute" "games" "Ljava/util/ArrayList;") (List.mem_of_getElem? (i := 1) rfl)) (fun _ h => h) rfl dX9_high_49 ?_
                have v46 : zV S (0, 1, 0) = true := (hm _).symm.trans (vf_10_1 hW ((hm _).trans v_z))
                refine lv_iload_n hx hb dX9_high_52 rfl (lv_at hl 0 rfl) ?_
                obtain ⟨r47, hc48, hf⟩ := op_cl hf
                refine z_callV (As := [.int q9.1]) (rest := [.ref (lo (10, 0, 0)), .int q9.1, .ref (lo (22, 0, 0))]) ⟨hx, hb, hml, hown, hts⟩ (tJ_get l Γ lo q9.2 X ((hm _).trans v46) hc48) (cwV 1 hts gX9_high_Jx4a65c_get_915e3 rfl rfl rfl (by decide +kernel) ⟨Nat.le_of_ble_eq_true rfl, Nat.le_of_ble_eq_true rfl⟩) (wd_1 hW ((hm _).trans v46)) rfl hKK hW hS rfl hl.1 rfl (Nat.le_of_ble_eq_true rfl) dX9_high_53 ⟨Nat.zero_le _, Nat.zero_le _⟩ (fun H locs hW hS hm1 hE => ?_)
                have v49 : zV S (3, r47, 0) = true := (hm _).symm.trans (hE)
                refine va_castE hx hb hown (hts (.classLink RX9 143 "TiltRoute$Game") (List.mem_of_getElem? (i := 3) rfl)) (va_recv (q0 := 0) hKK.1 (wd_1 hW ((hm _).trans v49)) (ci := 3) rfl rfl) dX9_high_56 ?_
                refine lv_iconst (v := (1)) hx hb dX9_high_59 (by decide) ?_
                obtain ⟨r50, S52, hc51, hf⟩ := op_cl2 hf
                refine z_callV (As := [.ref (lo (3, r47, 0)), .int (1 : Int32)]) (rest := [.int q9.1, .ref (lo (22, 0, 0))]) ⟨hx, hb, hml, hown, hts⟩ (tX9_replayedScore l Γ lo q9.2 X ((hm _).trans v_z) ((hm _).trans v49) (Or.inr rfl) hc51) (cwV 2 hts gX9_high_X9_replayedScore rfl rfl rfl (by decide +kernel) ⟨Nat.le_of_ble_eq_true rfl, Nat.le_of_ble_eq_true rfl⟩) (wd_1 hW ((hm _).trans v_z)) rfl hKK hW hS rfl hl.1 rfl (Nat.le_of_ble_eq_true rfl) dX9_high_60 ⟨Nat.zero_le _, Nat.zero_le _⟩ (fun H locs hW hS hm1 hE => ?_)
                have hm : ∀ c, zV S52 c = zV S c := fun c => (hm1 c).trans (hm c)
                refine lv_goto (tgt := 67) hx hb dX9_high_63 (by decide) ?_
                exact hj43 r50 S52 H locs ls  (lv_sub hl [0, 1, 2, 3] rfl) hW hS hm hf
      rw [eq90] at hf
      exact hw11 _ (x8, S) H locs ls (lv_sub hl [0, 1, 2, 3] rfl) hW hS hm hf

theorem ni_X9_rob_X7 : ∀ w ∈ wsX70, w ∈ wsX9_rob := by decide +kernel
def fX9_rob (S : zSt) (i_1 : Int32) (i_2 : Int32) : Option ((Nat × zSt) ⊕ (Int32 × zSt)) :=
cx (fX9_demandTable S i_1) fun r1 =>
cx (fX9_demandRange S i_2 (1 : Int32) (100 : Int32)) fun r5 =>
if i_2 ≤ (zI S (8, r1, 0) 5) then
st (pI S (8, r1, 0) 5 ((zI S (8, r1, 0) 5) - i_2)) fun S8 =>
some (.inr ((zI S8 (8, r1, 0) 5), S8))
else
some (.inl (3, S))
abbrev rmX9_rob : Room := { frames := 4, cells := 0, slots := 0, locals := 85 }
set_option maxHeartbeats 4000000 in
set_option maxRecDepth 100000 in
theorem tX9_rob (l : Launch) (Γ : zG) (lo : zId → Nat) (S : zSt) (X : va_W) {i_1 : Int32} {i_2 : Int32} (v_z : zV S (10, 0, 0) = true) {y : (Int32 × zSt)} (hf : fX9_rob S i_1 i_2 = some (Sum.inr y)) : Met l yX9_rob wsX9_rob rmX9_rob (zP0 Γ lo S X [.ref (lo (10, 0, 0)), .int i_1, .int i_2]) (zQ0 Γ lo S y.2 X (some (.int y.1)) True) 0 0 (zA Γ) := by
  refine Met.ofW (cc := cX9_rob) (maxL := 4) (ret := (some .int)) (by decide) rfl ?_
  intro p e s m args below meth c s₁ B hml hv
  obtain ⟨rfl, hW, hKK⟩ := hv
  have hx := B.exec
  have hb := B.bytes
  have hr := B.returns
  have hts := atoms_spec (ws := wsX9_rob) B.pre
  have hown : s.vm.findClass RX9 = some m.cls := findClass_of_methodNamed B.named
  have hlocks := B.notSynchronized
  have hS : va_S (zA Γ) s.heap s.heap [] := va_S.rf
  have hm : ∀ c, zV S c = zV S c := fun _ => rfl
  have hl := lv_entry ([.ref (lo (10, 0, 0)), .int i_1, .int i_2]) (n := 4) (Nat.le_of_ble_eq_true rfl)
  rw [lg_entry_eq]
  generalize (lg_sl ([.ref (lo (10, 0, 0)), .int i_1, .int i_2]) ++ List.replicate (4 - (lg_sl ([.ref (lo (10, 0, 0)), .int i_1, .int i_2])).length) Slot.unset).toArray = ls at hl ⊢
  have hl : lv_has ls 4 [(0, .ref (lo (10, 0, 0))), (1, .int i_1), (2, .int i_2)] := hl
  obtain ⟨H, hH0⟩ : ∃ H, H = s.heap := ⟨_, rfl⟩
  obtain ⟨locs, hlo0⟩ : ∃ L : List Loc, L = [] := ⟨_, rfl⟩
  have hS : va_S (zA Γ) s.heap H locs := by rw [hH0, hlo0]; exact hS
  have hW : Wd Γ lo S X H := by rw [hH0]; exact hW
  rw [← hH0, ← hlo0]
  unfold fX9_rob at hf
  refine lv_aload_n hx hb dX9_rob_0 rfl (lv_at hl 0 rfl) ?_
  refine lv_iload_n hx hb dX9_rob_1 rfl (lv_at hl 1 rfl) ?_
  rcases op_cx hf with ⟨ee3, hc2, hf⟩ | ⟨r1, hc2, hf⟩
  · have hf := congrArg some hf
    have hf := Option.some.inj hf
    cases hf
  · skip
    refine z_callV (As := [.int i_1]) (rest := []) ⟨hx, hb, hml, hown, hts⟩ (tX9_demandTable l Γ lo S X v_z hc2) (cwV 1 hts gX9_rob_X9_demandTable rfl rfl rfl (by decide +kernel) ⟨Nat.le_of_ble_eq_true rfl, Nat.le_of_ble_eq_true rfl⟩) (wd_1 hW v_z) rfl hKK hW hS rfl hl.1 rfl (Nat.le_of_ble_eq_true rfl) dX9_rob_2 ⟨Nat.zero_le _, Nat.zero_le _⟩ (fun H locs hW hS hm1 hE => ?_)
    have v4 : zV S (8, r1, 0) = true := hE
    refine lv_astore_n (lv' := [(3, .ref (lo (8, r1, 0))), (0, .ref (lo (10, 0, 0))), (1, .int i_1), (2, .int i_2)]) hx hb dX9_rob_5 rfl hl (by decide) rfl (fun ls hl => ?_)
    refine lv_iload_n hx hb dX9_rob_6 rfl (lv_at hl 3 rfl) ?_
    refine lv_iconst (v := (1)) hx hb dX9_rob_7 (by decide) ?_
    refine lv_bipush (v := (100)) hx hb dX9_rob_8 (by decide) ?_
    rcases op_cx hf with ⟨ee7, hc6, hf⟩ | ⟨r5, hc6, hf⟩
    · have hf := congrArg some hf
      have hf := Option.some.inj hf
      cases hf
    · skip
      refine z_callS (As := [.int i_2, .int (1 : Int32), .int (100 : Int32)]) (rest := []) ⟨hx, hb, hml, hown, hts⟩ (tX9_demandRange l Γ lo S X  hc6) (va_cwS 3 hts gX9_rob_X9_demandRange rfl rfl rfl (by decide +kernel) ⟨Nat.le_of_ble_eq_true rfl, Nat.le_of_ble_eq_true rfl⟩) hKK hW hS rfl hl.1 rfl (Nat.le_of_ble_eq_true rfl) dX9_rob_10 ⟨Nat.zero_le _, Nat.zero_le _⟩ (fun H locs hW hS hm1 hE => ?_)
      refine lv_aload_n hx hb dX9_rob_13 rfl (lv_at hl 0 rfl) ?_
      refine va_get hx hb hts ni_X9_rob_X7 hown hKK.1 (wd_1 hW v4) 0 rfl rfl 5 (by decide) (hts (.fieldLink RX9 155 "TiltRoute$Table" "box" "I") (List.mem_of_getElem? (i := 3) rfl)) (fun _ h => h) rfl dX9_rob_14 ?_
      refine lv_iload_n hx hb dX9_rob_17 rfl (lv_at hl 3 rfl) ?_
      refine lv_icmp_ge (tgt := 31) hx hb dX9_rob_18 (by decide) (fun k18 => ?_) (fun k18 => ?_)
      · have hf := (op_if hf).1 k18
        refine lv_aload_n hx hb dX9_rob_31 rfl (lv_at hl 0 rfl) ?_
        refine lv_dup hx hb dX9_rob_32 rfl ?_
        refine va_get hx hb hts ni_X9_rob_X7 hown hKK.1 (wd_1 hW v4) 0 rfl rfl 5 (by decide) (hts (.fieldLink RX9 155 "TiltRoute$Table" "box" "I") (List.mem_of_getElem? (i := 3) rfl)) (fun _ h => h) rfl dX9_rob_33 ?_
        refine lv_iload_n hx hb dX9_rob_36 rfl (lv_at hl 3 rfl) ?_
        refine lv_isub hx hb dX9_rob_37 ?_
        obtain ⟨S8, eS8, hf⟩ := op_st hf
        refine g_put hx hb hts ni_X9_rob_X7 tyX7 tyX7_ok nmX7 hown hKK.1 hW hS v4 rfl rfl 5 (by decide) (hts (.fieldLink RX9 155 "TiltRoute$Table" "box" "I") (List.mem_of_getElem? (i := 3) rfl)) rfl rfl rfl (show 5 < 8 by decide) rfl dX9_rob_38 eS8 (fun H locs hW hS => ?_)
        have hm : ∀ c, zV S8 c = zV S c := fun c => by rw [eS8]; rfl
        refine lv_aload_n hx hb dX9_rob_41 rfl (lv_at hl 0 rfl) ?_
        refine va_get hx hb hts ni_X9_rob_X7 hown hKK.1 (wd_1 hW ((hm _).trans v4)) 0 rfl rfl 5 (by decide) (hts (.fieldLink RX9 155 "TiltRoute$Table" "box" "I") (List.mem_of_getElem? (i := 3) rfl)) (fun _ h => h) rfl dX9_rob_42 ?_
        have hf := Option.some.inj hf
        have hf := Sum.inr.inj hf
        rw [← hf]
        exact z_iret hx hb hr hlocks rfl hW hS hm trivial dX9_rob_45
      · have hf := (op_if hf).2 k18
        have hf := Option.some.inj hf
        cases hf
theorem xs_X9_rob_21 : ∀ w ∈ (vx_atS "TiltRoute" 67 (zEx 3) zXn).filter goodWord, w ∈ wsX9_rob := by decide +kernel
theorem xs_X9_rob_21b : ∀ w ∈ (vx_atS "TiltRoute" 67 (zEx 3) zXn).filter (fun w => !goodWord w), w ∈ [Cond.castable (zEx 3) (zEx 3), .declares (Bundle.initS "java/lang/RuntimeException"), .declares (Bundle.initS "java/lang/Exception"), .declares (Bundle.initS Bundle.tN)] := by decide +kernel
theorem xs_X9_rob_21c : ∀ w ∈ Cond.classLink "TiltRoute" 63 (zEx 3) :: Cond.initialized (zEx 3) :: vx_atS "TiltRoute" 67 (zEx 3) zXn, vx_ot w = true := by decide +kernel
abbrev rnX9_rob : Room := { frames := 7, cells := 1, slots := 6, locals := 104 }
set_option maxHeartbeats 4000000 in
set_option maxRecDepth 100000 in
theorem uX9_rob (l : Launch) (hl0 : l.stackTraces = false) (Γ : zG) (lo : zId → Nat) (S : zSt) (X : va_W) {i_1 : Int32} {i_2 : Int32} (v_z : zV S (10, 0, 0) = true) {ee : Nat × zSt} (hf : fX9_rob S i_1 i_2 = some (Sum.inl ee)) : vx_Met l yX9_rob wsX9_rob rnX9_rob (zP1 Γ lo S X [.ref (lo (10, 0, 0)), .int i_1, .int i_2]) zF (zT Γ lo S X ee) 1 6 (zA Γ) := by
  refine vx_ofW (cc := cX9_rob) (maxL := 4) (ret := (some .int)) (by decide) rfl ?_
  intro p e s m args below meth c s₁ B hml ht hv
  obtain ⟨rfl, hW, hKK, hKX⟩ := hv
  have hx := B.exec
  have hb := B.bytes
  have hr := B.returns
  have hts := atoms_spec (ws := wsX9_rob) B.pre
  have hown : s.vm.findClass RX9 = some m.cls := findClass_of_methodNamed B.named
  have hlocks := B.notSynchronized
  have hS : va_S (zA Γ) s.heap s.heap [] := va_S.rf
  have hm : ∀ c, zV S c = zV S c := fun _ => rfl
  have hl := lv_entry ([.ref (lo (10, 0, 0)), .int i_1, .int i_2]) (n := 4) (Nat.le_of_ble_eq_true rfl)
  rw [lg_entry_eq]
  generalize (lg_sl ([.ref (lo (10, 0, 0)), .int i_1, .int i_2]) ++ List.replicate (4 - (lg_sl ([.ref (lo (10, 0, 0)), .int i_1, .int i_2])).length) Slot.unset).toArray = ls at hl ⊢
  have hl : lv_has ls 4 [(0, .ref (lo (10, 0, 0))), (1, .int i_1), (2, .int i_2)] := hl
  obtain ⟨H, hH0⟩ : ∃ H, H = s.heap := ⟨_, rfl⟩
  obtain ⟨locs, hlo0⟩ : ∃ L : List Loc, L = [] := ⟨_, rfl⟩
  have hS : va_S (zA Γ) s.heap H locs := by rw [hH0, hlo0]; exact hS
  have hW : Wd Γ lo S X H := by rw [hH0]; exact hW
  rw [← hH0, ← hlo0]
  unfold fX9_rob at hf
  refine lv_aload_n hx hb dX9_rob_0 rfl (lv_at hl 0 rfl) ?_
  refine lv_iload_n hx hb dX9_rob_1 rfl (lv_at hl 1 rfl) ?_
  rcases op_cx hf with ⟨ee3, hc2, hf⟩ | ⟨r1, hc2, hf⟩
  · have hf := congrArg some hf
    have hf := Option.some.inj hf
    have hf := Sum.inl.inj hf
    rw [← hf]
    exact zx_callV (As := [.int i_1]) (rest := []) ⟨hx, hb, hml, hown, hts⟩ (uX9_demandTable l hl0 Γ lo S X v_z hc2) (cwV 1 hts gX9_rob_X9_demandTable rfl rfl rfl (by decide +kernel) ⟨Nat.le_of_ble_eq_true rfl, Nat.le_of_ble_eq_true rfl⟩) (wd_1 hW v_z) rfl hKK hKX hW hS hm rfl hl.1 rfl (Nat.le_of_ble_eq_true rfl) dX9_rob_2 ⟨Nat.le_of_ble_eq_true rfl, Nat.le_of_ble_eq_true rfl⟩ ht hlocks
  · skip
    refine z_callV (As := [.int i_1]) (rest := []) ⟨hx, hb, hml, hown, hts⟩ (tX9_demandTable l Γ lo S X v_z hc2) (cwV 1 hts gX9_rob_X9_demandTable rfl rfl rfl (by decide +kernel) ⟨Nat.le_of_ble_eq_true rfl, Nat.le_of_ble_eq_true rfl⟩) (wd_1 hW v_z) rfl hKK hW hS rfl hl.1 rfl (Nat.le_of_ble_eq_true rfl) dX9_rob_2 ⟨Nat.zero_le _, Nat.zero_le _⟩ (fun H locs hW hS hm1 hE => ?_)
    have v4 : zV S (8, r1, 0) = true := hE
    refine lv_astore_n (lv' := [(3, .ref (lo (8, r1, 0))), (0, .ref (lo (10, 0, 0))), (1, .int i_1), (2, .int i_2)]) hx hb dX9_rob_5 rfl hl (by decide) rfl (fun ls hl => ?_)
    refine lv_iload_n hx hb dX9_rob_6 rfl (lv_at hl 3 rfl) ?_
    refine lv_iconst (v := (1)) hx hb dX9_rob_7 (by decide) ?_
    refine lv_bipush (v := (100)) hx hb dX9_rob_8 (by decide) ?_
    rcases op_cx hf with ⟨ee7, hc6, hf⟩ | ⟨r5, hc6, hf⟩
    · have hf := congrArg some hf
      have hf := Option.some.inj hf
      have hf := Sum.inl.inj hf
      rw [← hf]
      exact zx_callS (As := [.int i_2, .int (1 : Int32), .int (100 : Int32)]) (rest := []) ⟨hx, hb, hml, hown, hts⟩ (uX9_demandRange l hl0 Γ lo S X  hc6) (va_cwS 3 hts gX9_rob_X9_demandRange rfl rfl rfl (by decide +kernel) ⟨Nat.le_of_ble_eq_true rfl, Nat.le_of_ble_eq_true rfl⟩) hKK hKX hW hS hm rfl hl.1 rfl (Nat.le_of_ble_eq_true rfl) dX9_rob_10 ⟨Nat.le_of_ble_eq_true rfl, Nat.le_of_ble_eq_true rfl⟩ ht hlocks
    · skip
      refine z_callS (As := [.int i_2, .int (1 : Int32), .int (100 : Int32)]) (rest := []) ⟨hx, hb, hml, hown, hts⟩ (tX9_demandRange l Γ lo S X  hc6) (va_cwS 3 hts gX9_rob_X9_demandRange rfl rfl rfl (by decide +kernel) ⟨Nat.le_of_ble_eq_true rfl, Nat.le_of_ble_eq_true rfl⟩) hKK hW hS rfl hl.1 rfl (Nat.le_of_ble_eq_true rfl) dX9_rob_10 ⟨Nat.zero_le _, Nat.zero_le _⟩ (fun H locs hW hS hm1 hE => ?_)
      refine lv_aload_n hx hb dX9_rob_13 rfl (lv_at hl 0 rfl) ?_
      refine va_get hx hb hts ni_X9_rob_X7 hown hKK.1 (wd_1 hW v4) 0 rfl rfl 5 (by decide) (hts (.fieldLink RX9 155 "TiltRoute$Table" "box" "I") (List.mem_of_getElem? (i := 3) rfl)) (fun _ h => h) rfl dX9_rob_14 ?_
      refine lv_iload_n hx hb dX9_rob_17 rfl (lv_at hl 3 rfl) ?_
      refine lv_icmp_ge (tgt := 31) hx hb dX9_rob_18 (by decide) (fun k18 => ?_) (fun k18 => ?_)
      · have hf := (op_if hf).1 k18
        refine lv_aload_n hx hb dX9_rob_31 rfl (lv_at hl 0 rfl) ?_
        refine lv_dup hx hb dX9_rob_32 rfl ?_
        refine va_get hx hb hts ni_X9_rob_X7 hown hKK.1 (wd_1 hW v4) 0 rfl rfl 5 (by decide) (hts (.fieldLink RX9 155 "TiltRoute$Table" "box" "I") (List.mem_of_getElem? (i := 3) rfl)) (fun _ h => h) rfl dX9_rob_33 ?_
        refine lv_iload_n hx hb dX9_rob_36 rfl (lv_at hl 3 rfl) ?_
        refine lv_isub hx hb dX9_rob_37 ?_
        obtain ⟨S8, eS8, hf⟩ := op_st hf
        refine g_put hx hb hts ni_X9_rob_X7 tyX7 tyX7_ok nmX7 hown hKK.1 hW hS v4 rfl rfl 5 (by decide) (hts (.fieldLink RX9 155 "TiltRoute$Table" "box" "I") (List.mem_of_getElem? (i := 3) rfl)) rfl rfl rfl (show 5 < 8 by decide) rfl dX9_rob_38 eS8 (fun H locs hW hS => ?_)
        have hm : ∀ c, zV S8 c = zV S c := fun c => by rw [eS8]; rfl
        refine lv_aload_n hx hb dX9_rob_41 rfl (lv_at hl 0 rfl) ?_
        refine va_get hx hb hts ni_X9_rob_X7 hown hKK.1 (wd_1 hW ((hm _).trans v4)) 0 rfl rfl 5 (by decide) (hts (.fieldLink RX9 155 "TiltRoute$Table" "box" "I") (List.mem_of_getElem? (i := 3) rfl)) (fun _ h => h) rfl dX9_rob_42 ?_
        have hf := Option.some.inj hf
        cases hf
      · have hf := (op_if hf).2 k18
        have hf := Option.some.inj hf
        have hf := Sum.inl.inj hf
        rw [← hf]
        exact zx_thr (ee := (3, S)) hx hb hl0 hts hown (hts (.classLink RX9 63 "java/lang/IllegalStateException") (List.mem_of_getElem? (i := 1) rfl)) (hts (.initialized "java/lang/IllegalStateException") (List.mem_of_getElem? (i := 2) rfl)) (List.mem_of_getElem? (i := 6) rfl) xs_X9_rob_21 xs_X9_rob_21b (show Bundle.fit (zEx 3) = true by decide) xs_X9_rob_21c hKK hKX hS (hl.1.trans hml.symm) dX9_rob_21 dX9_rob_24 dX9_rob_25 dX9_rob_27 dX9_rob_30 ht (Nat.le_of_ble_eq_true rfl) (Nat.le_of_ble_eq_true rfl) (Nat.le_of_ble_eq_true rfl) (Nat.le_of_ble_eq_true rfl) hlocks hW hm

theorem ni_X9_box_X7 : ∀ w ∈ wsX70, w ∈ wsX9_box := by decide +kernel
def fX9_box (S : zSt) (i_1 : Int32) : Option ((Nat × zSt) ⊕ Int32) :=
cx (fX9_demandTable S i_1) fun r1 =>
some (.inr (zI S (8, r1, 0) 5))
abbrev rmX9_box : Room := { frames := 4, cells := 0, slots := 0, locals := 85 }
set_option maxHeartbeats 4000000 in
set_option maxRecDepth 100000 in
theorem tX9_box (l : Launch) (Γ : zG) (lo : zId → Nat) (S : zSt) (X : va_W) {i_1 : Int32} (v_z : zV S (10, 0, 0) = true) {y : Int32} (hf : fX9_box S i_1 = some (Sum.inr y)) : Met l yX9_box wsX9_box rmX9_box (zP0 Γ lo S X [.ref (lo (10, 0, 0)), .int i_1]) (zQ0 Γ lo S S X (some (.int y)) True) 0 0 (zA Γ) := by
  refine Met.ofW (cc := cX9_box) (maxL := 2) (ret := (some .int)) (by decide) rfl ?_
  intro p e s m args below meth c s₁ B hml hv
  obtain ⟨rfl, hW, hKK⟩ := hv
  have hx := B.exec
  have hb := B.bytes
  have hr := B.returns
  have hts := atoms_spec (ws := wsX9_box) B.pre
  have hown : s.vm.findClass RX9 = some m.cls := findClass_of_methodNamed B.named
  have hlocks := B.notSynchronized
  have hS : va_S (zA Γ) s.heap s.heap [] := va_S.rf
  have hm : ∀ c, zV S c = zV S c := fun _ => rfl
  have hl := lv_entry ([.ref (lo (10, 0, 0)), .int i_1]) (n := 2) (Nat.le_of_ble_eq_true rfl)
  rw [lg_entry_eq]
  generalize (lg_sl ([.ref (lo (10, 0, 0)), .int i_1]) ++ List.replicate (2 - (lg_sl ([.ref (lo (10, 0, 0)), .int i_1])).length) Slot.unset).toArray = ls at hl ⊢
  have hl : lv_has ls 2 [(0, .ref (lo (10, 0, 0))), (1, .int i_1)] := hl
  obtain ⟨H, hH0⟩ : ∃ H, H = s.heap := ⟨_, rfl⟩
  obtain ⟨locs, hlo0⟩ : ∃ L : List Loc, L = [] := ⟨_, rfl⟩
  have hS : va_S (zA Γ) s.heap H locs := by rw [hH0, hlo0]; exact hS
  have hW : Wd Γ lo S X H := by rw [hH0]; exact hW
  rw [← hH0, ← hlo0]
  unfold fX9_box at hf
  refine lv_aload_n hx hb dX9_box_0 rfl (lv_at hl 0 rfl) ?_
  refine lv_iload_n hx hb dX9_box_1 rfl (lv_at hl 1 rfl) ?_
  rcases op_cx hf with ⟨ee3, hc2, hf⟩ | ⟨r1, hc2, hf⟩
  · have hf := congrArg some hf
    have hf := Option.some.inj hf
    cases hf
  · skip
    refine z_callV (As := [.int i_1]) (rest := []) ⟨hx, hb, hml, hown, hts⟩ (tX9_demandTable l Γ lo S X v_z hc2) (cwV 1 hts gX9_box_X9_demandTable rfl rfl rfl (by decide +kernel) ⟨Nat.le_of_ble_eq_true rfl, Nat.le_of_ble_eq_true rfl⟩) (wd_1 hW v_z) rfl hKK hW hS rfl hl.1 rfl (Nat.le_of_ble_eq_true rfl) dX9_box_2 ⟨Nat.zero_le _, Nat.zero_le _⟩ (fun H locs hW hS hm1 hE => ?_)
    have v4 : zV S (8, r1, 0) = true := hE
    refine va_get hx hb hts ni_X9_box_X7 hown hKK.1 (wd_1 hW v4) 0 rfl rfl 5 (by decide) (hts (.fieldLink RX9 155 "TiltRoute$Table" "box" "I") (List.mem_of_getElem? (i := 1) rfl)) (fun _ h => h) rfl dX9_box_5 ?_
    have hf := Option.some.inj hf
    have hf := Sum.inr.inj hf
    rw [← hf]
    exact z_iret hx hb hr hlocks rfl hW hS hm trivial dX9_box_8
abbrev rnX9_box : Room := { frames := 7, cells := 1, slots := 6, locals := 103 }
set_option maxHeartbeats 4000000 in
set_option maxRecDepth 100000 in
theorem uX9_box (l : Launch) (hl0 : l.stackTraces = false) (Γ : zG) (lo : zId → Nat) (S : zSt) (X : va_W) {i_1 : Int32} (v_z : zV S (10, 0, 0) = true) {ee : Nat × zSt} (hf : fX9_box S i_1 = some (Sum.inl ee)) : vx_Met l yX9_box wsX9_box rnX9_box (zP1 Γ lo S X [.ref (lo (10, 0, 0)), .int i_1]) zF (zT Γ lo S X ee) 1 6 (zA Γ) := by
  refine vx_ofW (cc := cX9_box) (maxL := 2) (ret := (some .int)) (by decide) rfl ?_
  intro p e s m args below meth c s₁ B hml ht hv
  obtain ⟨rfl, hW, hKK, hKX⟩ := hv
  have hx := B.exec
  have hb := B.bytes
  have hr := B.returns
  have hts := atoms_spec (ws := wsX9_box) B.pre
  have hown : s.vm.findClass RX9 = some m.cls := findClass_of_methodNamed B.named
  have hlocks := B.notSynchronized
  have hS : va_S (zA Γ) s.heap s.heap [] := va_S.rf
  have hm : ∀ c, zV S c = zV S c := fun _ => rfl
  have hl := lv_entry ([.ref (lo (10, 0, 0)), .int i_1]) (n := 2) (Nat.le_of_ble_eq_true rfl)
  rw [lg_entry_eq]
  generalize (lg_sl ([.ref (lo (10, 0, 0)), .int i_1]) ++ List.replicate (2 - (lg_sl ([.ref (lo (10, 0, 0)), .int i_1])).length) Slot.unset).toArray = ls at hl ⊢
  have hl : lv_has ls 2 [(0, .ref (lo (10, 0, 0))), (1, .int i_1)] := hl
  obtain ⟨H, hH0⟩ : ∃ H, H = s.heap := ⟨_, rfl⟩
  obtain ⟨locs, hlo0⟩ : ∃ L : List Loc, L = [] := ⟨_, rfl⟩
  have hS : va_S (zA Γ) s.heap H locs := by rw [hH0, hlo0]; exact hS
  have hW : Wd Γ lo S X H := by rw [hH0]; exact hW
  rw [← hH0, ← hlo0]
  unfold fX9_box at hf
  refine lv_aload_n hx hb dX9_box_0 rfl (lv_at hl 0 rfl) ?_
  refine lv_iload_n hx hb dX9_box_1 rfl (lv_at hl 1 rfl) ?_
  rcases op_cx hf with ⟨ee3, hc2, hf⟩ | ⟨r1, hc2, hf⟩
  · have hf := congrArg some hf
    have hf := Option.some.inj hf
    have hf := Sum.inl.inj hf
    rw [← hf]
    exact zx_callV (As := [.int i_1]) (rest := []) ⟨hx, hb, hml, hown, hts⟩ (uX9_demandTable l hl0 Γ lo S X v_z hc2) (cwV 1 hts gX9_box_X9_demandTable rfl rfl rfl (by decide +kernel) ⟨Nat.le_of_ble_eq_true rfl, Nat.le_of_ble_eq_true rfl⟩) (wd_1 hW v_z) rfl hKK hKX hW hS hm rfl hl.1 rfl (Nat.le_of_ble_eq_true rfl) dX9_box_2 ⟨Nat.le_of_ble_eq_true rfl, Nat.le_of_ble_eq_true rfl⟩ ht hlocks
  · skip
    refine z_callV (As := [.int i_1]) (rest := []) ⟨hx, hb, hml, hown, hts⟩ (tX9_demandTable l Γ lo S X v_z hc2) (cwV 1 hts gX9_box_X9_demandTable rfl rfl rfl (by decide +kernel) ⟨Nat.le_of_ble_eq_true rfl, Nat.le_of_ble_eq_true rfl⟩) (wd_1 hW v_z) rfl hKK hW hS rfl hl.1 rfl (Nat.le_of_ble_eq_true rfl) dX9_box_2 ⟨Nat.zero_le _, Nat.zero_le _⟩ (fun H locs hW hS hm1 hE => ?_)
    have v4 : zV S (8, r1, 0) = true := hE
    refine va_get hx hb hts ni_X9_box_X7 hown hKK.1 (wd_1 hW v4) 0 rfl rfl 5 (by decide) (hts (.fieldLink RX9 155 "TiltRoute$Table" "box" "I") (List.mem_of_getElem? (i := 1) rfl)) (fun _ h => h) rfl dX9_box_5 ?_
    have hf := Option.some.inj hf
    cases hf

theorem ni_X9_missing_X7 : ∀ w ∈ wsX70, w ∈ wsX9_missing := by decide +kernel
def fX9_missing (S : zSt) (i_1 : Int32) : Option ((Nat × zSt) ⊕ Int32) :=
cx (fX9_demandTable S i_1) fun r1 =>
some (.inr (zI S (8, r1, 0) 7))
abbrev rmX9_missing : Room := { frames := 4, cells := 0, slots := 0, locals := 85 }
set_option maxHeartbeats 4000000 in
set_option maxRecDepth 100000 in
theorem tX9_missing (l : Launch) (Γ : zG) (lo : zId → Nat) (S : zSt) (X : va_W) {i_1 : Int32} (v_z : zV S (10, 0, 0) = true) {y : Int32} (hf : fX9_missing S i_1 = some (Sum.inr y)) : Met l yX9_missing wsX9_missing rmX9_missing (zP0 Γ lo S X [.ref (lo (10, 0, 0)), .int i_1]) (zQ0 Γ lo S S X (some (.int y)) True) 0 0 (zA Γ) := by
  refine Met.ofW (cc := cX9_missing) (maxL := 2) (ret := (some .int)) (by decide) rfl ?_
  intro p e s m args below meth c s₁ B hml hv
  obtain ⟨rfl, hW, hKK⟩ := hv
  have hx := B.exec
  have hb := B.bytes
  have hr := B.returns
  have hts := atoms_spec (ws := wsX9_missing) B.pre
  have hown : s.vm.findClass RX9 = some m.cls := findClass_of_methodNamed B.named
  have hlocks := B.notSynchronized
  have hS : va_S (zA Γ) s.heap s.heap [] := va_S.rf
  have hm : ∀ c, zV S c = zV S c := fun _ => rfl
  have hl := lv_entry ([.ref (lo (10, 0, 0)), .int i_1]) (n := 2) (Nat.le_of_ble_eq_true rfl)
  rw [lg_entry_eq]
  generalize (lg_sl ([.ref (lo (10, 0, 0)), .int i_1]) ++ List.replicate (2 - (lg_sl ([.ref (lo (10, 0, 0)), .int i_1])).length) Slot.unset).toArray = ls at hl ⊢
  have hl : lv_has ls 2 [(0, .ref (lo (10, 0, 0))), (1, .int i_1)] := hl
  obtain ⟨H, hH0⟩ : ∃ H, H = s.heap := ⟨_, rfl⟩
  obtain ⟨locs, hlo0⟩ : ∃ L : List Loc, L = [] := ⟨_, rfl⟩
  have hS : va_S (zA Γ) s.heap H locs := by rw [hH0, hlo0]; exact hS
  have hW : Wd Γ lo S X H := by rw [hH0]; exact hW
  rw [← hH0, ← hlo0]
  unfold fX9_missing at hf
  refine lv_aload_n hx hb dX9_missing_0 rfl (lv_at hl 0 rfl) ?_
  refine lv_iload_n hx hb dX9_missing_1 rfl (lv_at hl 1 rfl) ?_
  rcases op_cx hf with ⟨ee3, hc2, hf⟩ | ⟨r1, hc2, hf⟩
  · have hf := congrArg some hf
    have hf := Option.some.inj hf
    cases hf
  · skip
    refine z_callV (As := [.int i_1]) (rest := []) ⟨hx, hb, hml, hown, hts⟩ (tX9_demandTable l Γ lo S X v_z hc2) (cwV 1 hts gX9_missing_X9_demandTable rfl rfl rfl (by decide +kernel) ⟨Nat.le_of_ble_eq_true rfl, Nat.le_of_ble_eq_true rfl⟩) (wd_1 hW v_z) rfl hKK hW hS rfl hl.1 rfl (Nat.le_of_ble_eq_true rfl) dX9_missing_2 ⟨Nat.zero_le _, Nat.zero_le _⟩ (fun H locs hW hS hm1 hE => ?_)
    have v4 : zV S (8, r1, 0) = true := hE
    refine va_get hx hb hts ni_X9_missing_X7 hown hKK.1 (wd_1 hW v4) 0 rfl rfl 7 (by decide) (hts (.fieldLink RX9 222 "TiltRoute$Table" "missing" "I") (List.mem_of_getElem? (i := 1) rfl)) (fun _ h => h) rfl dX9_missing_5 ?_
    have hf := Option.some.inj hf
    have hf := Sum.inr.inj hf
    rw [← hf]
    exact z_iret hx hb hr hlocks rfl hW hS hm trivial dX9_missing_8
abbrev rnX9_missing : Room := { frames := 7, cells := 1, slots := 6, locals := 103 }
set_option maxHeartbeats 4000000 in
set_option maxRecDepth 100000 in
theorem uX9_missing (l : Launch) (hl0 : l.stackTraces = false) (Γ : zG) (lo : zId → Nat) (S : zSt) (X : va_W) {i_1 : Int32} (v_z : zV S (10, 0, 0) = true) {ee : Nat × zSt} (hf : fX9_missing S i_1 = some (Sum.inl ee)) : vx_Met l yX9_missing wsX9_missing rnX9_missing (zP1 Γ lo S X [.ref (lo (10, 0, 0)), .int i_1]) zF (zT Γ lo S X ee) 1 6 (zA Γ) := by
  refine vx_ofW (cc := cX9_missing) (maxL := 2) (ret := (some .int)) (by decide) rfl ?_
  intro p e s m args below meth c s₁ B hml ht hv
  obtain ⟨rfl, hW, hKK, hKX⟩ := hv
  have hx := B.exec
  have hb := B.bytes
  have hr := B.returns
  have hts := atoms_spec (ws := wsX9_missing) B.pre
  have hown : s.vm.findClass RX9 = some m.cls := findClass_of_methodNamed B.named
  have hlocks := B.notSynchronized
  have hS : va_S (zA Γ) s.heap s.heap [] := va_S.rf
  have hm : ∀ c, zV S c = zV S c := fun _ => rfl
  have hl := lv_entry ([.ref (lo (10, 0, 0)), .int i_1]) (n := 2) (Nat.le_of_ble_eq_true rfl)
  rw [lg_entry_eq]
  generalize (lg_sl ([.ref (lo (10, 0, 0)), .int i_1]) ++ List.replicate (2 - (lg_sl ([.ref (lo (10, 0, 0)), .int i_1])).length) Slot.unset).toArray = ls at hl ⊢
  have hl : lv_has ls 2 [(0, .ref (lo (10, 0, 0))), (1, .int i_1)] := hl
  obtain ⟨H, hH0⟩ : ∃ H, H = s.heap := ⟨_, rfl⟩
  obtain ⟨locs, hlo0⟩ : ∃ L : List Loc, L = [] := ⟨_, rfl⟩
  have hS : va_S (zA Γ) s.heap H locs := by rw [hH0, hlo0]; exact hS
  have hW : Wd Γ lo S X H := by rw [hH0]; exact hW
  rw [← hH0, ← hlo0]
  unfold fX9_missing at hf
  refine lv_aload_n hx hb dX9_missing_0 rfl (lv_at hl 0 rfl) ?_
  refine lv_iload_n hx hb dX9_missing_1 rfl (lv_at hl 1 rfl) ?_
  rcases op_cx hf with ⟨ee3, hc2, hf⟩ | ⟨r1, hc2, hf⟩
  · have hf := congrArg some hf
    have hf := Option.some.inj hf
    have hf := Sum.inl.inj hf
    rw [← hf]
    exact zx_callV (As := [.int i_1]) (rest := []) ⟨hx, hb, hml, hown, hts⟩ (uX9_demandTable l hl0 Γ lo S X v_z hc2) (cwV 1 hts gX9_missing_X9_demandTable rfl rfl rfl (by decide +kernel) ⟨Nat.le_of_ble_eq_true rfl, Nat.le_of_ble_eq_true rfl⟩) (wd_1 hW v_z) rfl hKK hKX hW hS hm rfl hl.1 rfl (Nat.le_of_ble_eq_true rfl) dX9_missing_2 ⟨Nat.le_of_ble_eq_true rfl, Nat.le_of_ble_eq_true rfl⟩ ht hlocks
  · skip
    refine z_callV (As := [.int i_1]) (rest := []) ⟨hx, hb, hml, hown, hts⟩ (tX9_demandTable l Γ lo S X v_z hc2) (cwV 1 hts gX9_missing_X9_demandTable rfl rfl rfl (by decide +kernel) ⟨Nat.le_of_ble_eq_true rfl, Nat.le_of_ble_eq_true rfl⟩) (wd_1 hW v_z) rfl hKK hW hS rfl hl.1 rfl (Nat.le_of_ble_eq_true rfl) dX9_missing_2 ⟨Nat.zero_le _, Nat.zero_le _⟩ (fun H locs hW hS hm1 hE => ?_)
    have v4 : zV S (8, r1, 0) = true := hE
    refine va_get hx hb hts ni_X9_missing_X7 hown hKK.1 (wd_1 hW v4) 0 rfl rfl 7 (by decide) (hts (.fieldLink RX9 222 "TiltRoute$Table" "missing" "I") (List.mem_of_getElem? (i := 1) rfl)) (fun _ h => h) rfl dX9_missing_5 ?_
    have hf := Option.some.inj hf
    cases hf

def fX9_load (S : zSt) (i_1 : Int32) (i_2 : Int32) (i_3 : Int32) : Option ((Nat × zSt) ⊕ (Int32 × zSt)) :=
cx (fX9_demandVan S i_1) fun r1 =>
cx (fX9_demandRange S i_2 (0 : Int32) (1 : Int32)) fun r5 =>
cx (fX9_demandRange S i_3 (1 : Int32) (20 : Int32)) fun r8 =>
cl (fX8_spareOf S r1 i_2) fun r11 =>
if (r11 + i_3) ≤ (20 : Int32) then
cl (fX8_addSpare S r1 i_2 i_3) fun S15 =>
cl (fX8_spareOf S15 r1 i_2) fun r16 =>
some (.inr (r16, S15))
else
some (.inl (3, S))
abbrev rmX9_load : Room := { frames := 1, cells := 0, slots := 0, locals := 22 }
set_option maxHeartbeats 4000000 in
set_option maxRecDepth 100000 in
theorem tX9_load (l : Launch) (Γ : zG) (lo : zId → Nat) (S : zSt) (X : va_W) {i_1 : Int32} {i_2 : Int32} {i_3 : Int32} (v_z : zV S (10, 0, 0) = true) {y : (Int32 × zSt)} (hf : fX9_load S i_1 i_2 i_3 = some (Sum.inr y)) : Met l yX9_load wsX9_load rmX9_load (zP0 Γ lo S X [.ref (lo (10, 0, 0)), .int i_1, .int i_2, .int i_3]) (zQ0 Γ lo S y.2 X (some (.int y.1)) True) 0 0 (zA Γ) := by
  refine Met.ofW (cc := cX9_load) (maxL := 5) (ret := (some .int)) (by decide) rfl ?_
  intro p e s m args below meth c s₁ B hml hv
  obtain ⟨rfl, hW, hKK⟩ := hv
  have hx := B.exec
  have hb := B.bytes
  have hr := B.returns
  have hts := atoms_spec (ws := wsX9_load) B.pre
  have hown : s.vm.findClass RX9 = some m.cls := findClass_of_methodNamed B.named
  have hlocks := B.notSynchronized
  have hS : va_S (zA Γ) s.heap s.heap [] := va_S.rf
  have hm : ∀ c, zV S c = zV S c := fun _ => rfl
  have hl := lv_entry ([.ref (lo (10, 0, 0)), .int i_1, .int i_2, .int i_3]) (n := 5) (Nat.le_of_ble_eq_true rfl)
  rw [lg_entry_eq]
  generalize (lg_sl ([.ref (lo (10, 0, 0)), .int i_1, .int i_2, .int i_3]) ++ List.replicate (5 - (lg_sl ([.ref (lo (10, 0, 0)), .int i_1, .int i_2, .int i_3])).length) Slot.unset).toArray = ls at hl ⊢
  have hl : lv_has ls 5 [(0, .ref (lo (10, 0, 0))), (1, .int i_1), (2, .int i_2), (3, .int i_3)] := hl
  obtain ⟨H, hH0⟩ : ∃ H, H = s.heap := ⟨_, rfl⟩
  obtain ⟨locs, hlo0⟩ : ∃ L : List Loc, L = [] := ⟨_, rfl⟩
  have hS : va_S (zA Γ) s.heap H locs := by rw [hH0, hlo0]; exact hS
  have hW : Wd Γ lo S X H := by rw [hH0]; exact hW
  rw [← hH0, ← hlo0]
  unfold fX9_load at hf
  refine lv_aload_n hx hb dX9_load_0 rfl (lv_at hl 0 rfl) ?_
  refine lv_iload_n hx hb dX9_load_1 rfl (lv_at hl 1 rfl) ?_
  rcases op_cx hf with ⟨ee3, hc2, hf⟩ | ⟨r1, hc2, hf⟩
  · have hf := congrArg some hf
    have hf := Option.some.inj hf
    cases hf
  · skip
    refine z_callV (As := [.int i_1]) (rest := []) ⟨hx, hb, hml, hown, hts⟩ (tX9_demandVan l Γ lo S X v_z hc2) (cwV 1 hts gX9_load_X9_demandVan rfl rfl rfl (by decide +kernel) ⟨Nat.le_of_ble_eq_true rfl, Nat.le_of_ble_eq_true rfl⟩) (wd_1 hW v_z) rfl hKK hW hS rfl hl.1 rfl (Nat.le_of_ble_eq_true rfl) dX9_load_2 ⟨Nat.zero_le _, Nat.zero_le _⟩ (fun H locs hW hS hm1 hE => ?_)
    have v4 : zV S (9, r1, 0) = true := hE
    refine lv_astore (lv' := [(4, .ref (lo (9, r1, 0))), (0, .ref (lo (10, 0, 0))), (1, .int i_1), (2, .int i_2), (3, .int i_3)]) hx hb dX9_load_5 hl (by decide) rfl (fun ls hl => ?_)
    refine lv_iload_n hx hb dX9_load_7 rfl (lv_at hl 3 rfl) ?_
    refine lv_iconst (v := (0)) hx hb dX9_load_8 (by decide) ?_
    refine lv_iconst (v := (1)) hx hb dX9_load_9 (by decide) ?_
    rcases op_cx hf with ⟨ee7, hc6, hf⟩ | ⟨r5, hc6, hf⟩
    · have hf := congrArg some hf
      have hf := Option.some.inj hf
      cases hf
    · skip
      refine z_callS (As := [.int i_2, .int (0 : Int32), .int (1 : Int32)]) (rest := []) ⟨hx, hb, hml, hown, hts⟩ (tX9_demandRange l Γ lo S X  hc6) (va_cwS 3 hts gX9_load_X9_demandRange rfl rfl rfl (by decide +kernel) ⟨Nat.le_of_ble_eq_true rfl, Nat.le_of_ble_eq_true rfl⟩) hKK hW hS rfl hl.1 rfl (Nat.le_of_ble_eq_true rfl) dX9_load_10 ⟨Nat.zero_le _, Nat.zero_le _⟩ (fun H locs hW hS hm1 hE => ?_)
      refine lv_iload_n hx hb dX9_load_13 rfl (lv_at hl 4 rfl) ?_
      refine lv_iconst (v := (1)) hx hb dX9_load_14 (by decide) ?_
      refine lv_bipush (v := (20)) hx hb dX9_load_15 (by decide) ?_
      rcases op_cx hf with ⟨ee10, hc9, hf⟩ | ⟨r8, hc9, hf⟩
      · have hf := congrArg some hf
        have hf := Option.some.inj hf
        cases hf
      · skip
        refine z_callS (As := [.int i_3, .int (1 : Int32), .int (20 : Int32)]) (rest := []) ⟨hx, hb, hml, hown, hts⟩ (tX9_demandRange l Γ lo S X  hc9) (va_cwS 3 hts gX9_load_X9_demandRange rfl rfl rfl (by decide +kernel) ⟨Nat.le_of_ble_eq_true rfl, Nat.le_of_ble_eq_true rfl⟩) hKK hW hS rfl hl.1 rfl (Nat.le_of_ble_eq_true rfl) dX9_load_17 ⟨Nat.zero_le _, Nat.zero_le _⟩ (fun H locs hW hS hm1 hE => ?_)
        refine lv_aload hx hb dX9_load_20 (lv_at hl 0 rfl) ?_
        refine lv_iload_n hx hb dX9_load_22 rfl (lv_at hl 3 rfl) ?_
        obtain ⟨r11, hc12, hf⟩ := op_cl hf
        refine z_callV (As := [.int i_2]) (rest := []) ⟨hx, hb, hml, hown, hts⟩ (tX8_spareOf l Γ lo S X v4 hc12) (cwV 1 hts gX9_load_X8_spareOf rfl rfl rfl (by decide +kernel) ⟨Nat.le_of_ble_eq_true rfl, Nat.le_of_ble_eq_true rfl⟩) (wd_1 hW v4) rfl hKK hW hS rfl hl.1 rfl (Nat.le_of_ble_eq_true rfl) dX9_load_23 ⟨Nat.zero_le _, Nat.zero_le _⟩ (fun H locs hW hS hm1 hE => ?_)
        refine lv_iload_n hx hb dX9_load_26 rfl (lv_at hl 4 rfl) ?_
        refine lv_iadd hx hb dX9_load_27 ?_
        refine lv_bipush (v := (20)) hx hb dX9_load_28 (by decide) ?_
        refine lv_icmp_le (tgt := 43) hx hb dX9_load_30 (by decide) (fun k30 => ?_) (fun k30 => ?_)
        · have hf := (op_if hf).1 k30
          refine lv_aload hx hb dX9_load_43 (lv_at hl 0 rfl) ?_
          refine lv_iload_n hx hb dX9_load_45 rfl (lv_at hl 3 rfl) ?_
          refine lv_iload_n hx hb dX9_load_46 rfl (lv_at hl 4 rfl) ?_
          obtain ⟨S15, hc14, hf⟩ := op_cl hf
          refine z_callV (As := [.int i_2, .int i_3]) (rest := []) ⟨hx, hb, hml, hown, hts⟩ (tX8_addSpare l Γ lo S X v4 hc14) (cwV 2 hts gX9_load_X8_addSpare rfl rfl rfl (by decide +kernel) ⟨Nat.le_of_ble_eq_true rfl, Nat.le_of_ble_eq_true rfl⟩) (wd_1 hW v4) rfl hKK hW hS rfl hl.1 rfl (Nat.le_of_ble_eq_true rfl) dX9_load_47 ⟨Nat.zero_le _, Nat.zero_le _⟩ (fun H locs hW hS hm1 hE => ?_)
          have hm : ∀ c, zV S15 c = zV S c := hm1
          refine lv_aload hx hb dX9_load_50 (lv_at hl 0 rfl) ?_
          refine lv_iload_n hx hb dX9_load_52 rfl (lv_at hl 3 rfl) ?_
          obtain ⟨r16, hc17, hf⟩ := op_cl hf
          refine z_callV (As := [.int i_2]) (rest := []) ⟨hx, hb, hml, hown, hts⟩ (tX8_spareOf l Γ lo S15 X ((hm _).trans v4) hc17) (cwV 1 hts gX9_load_X8_spareOf rfl rfl rfl (by decide +kernel) ⟨Nat.le_of_ble_eq_true rfl, Nat.le_of_ble_eq_true rfl⟩) (wd_1 hW ((hm _).trans v4)) rfl hKK hW hS rfl hl.1 rfl (Nat.le_of_ble_eq_true rfl) dX9_load_53 ⟨Nat.zero_le _, Nat.zero_le _⟩ (fun H locs hW hS hm1 hE => ?_)
          have hf := Option.some.inj hf
          have hf := Sum.inr.inj hf
          rw [← hf]
          exact z_iret hx hb hr hlocks rfl hW hS hm trivial dX9_load_56
        · have hf := (op_if hf).2 k30
          have hf := Option.some.inj hf
          cases hf
theorem xs_X9_load_33 : ∀ w ∈ (vx_atS "TiltRoute" 67 (zEx 3) zXn).filter goodWord, w ∈ wsX9_load := by decide +kernel
theorem xs_X9_load_33b : ∀ w ∈ (vx_atS "TiltRoute" 67 (zEx 3) zXn).filter (fun w => !goodWord w), w ∈ [Cond.castable (zEx 3) (zEx 3), .declares (Bundle.initS "java/lang/RuntimeException"), .declares (Bundle.initS "java/lang/Exception"), .declares (Bundle.initS Bundle.tN)] := by decide +kernel
theorem xs_X9_load_33c : ∀ w ∈ Cond.classLink "TiltRoute" 63 (zEx 3) :: Cond.initialized (zEx 3) :: vx_atS "TiltRoute" 67 (zEx 3) zXn, vx_ot w = true := by decide +kernel
abbrev rnX9_load : Room := { frames := 7, cells := 1, slots := 6, locals := 104 }
set_option maxHeartbeats 4000000 in
set_option maxRecDepth 100000 in
theorem uX9_load (l : Launch) (hl0 : l.stackTraces = false) (Γ : zG) (lo : zId → Nat) (S : zSt) (X : va_W) {i_1 : Int32} {i_2 : Int32} {i_3 : Int32} (v_z : zV S (10, 0, 0) = true) {ee : Nat × zSt} (hf : fX9_load S i_1 i_2 i_3 = some (Sum.inl ee)) : vx_Met l yX9_load wsX9_load rnX9_load (zP1 Γ lo S X [.ref (lo (10, 0, 0)), .int i_1, .int i_2, .int i_3]) zF (zT Γ lo S X ee) 1 6 (zA Γ) := by
  refine vx_ofW (cc := cX9_load) (maxL := 5) (ret := (some .int)) (by decide) rfl ?_
  intro p e s m args below meth c s₁ B hml ht hv
  obtain ⟨rfl, hW, hKK, hKX⟩ := hv
  have hx := B.exec
  have hb := B.bytes
  have hr := B.returns
  have hts := atoms_spec (ws := wsX9_load) B.pre
  have hown : s.vm.findClass RX9 = some m.cls := findClass_of_methodNamed B.named
  have hlocks := B.notSynchronized
  have hS : va_S (zA Γ) s.heap s.heap [] := va_S.rf
  have hm : ∀ c, zV S c = zV S c := fun _ => rfl
  have hl := lv_entry ([.ref (lo (10, 0, 0)), .int i_1, .int i_2, .int i_3]) (n := 5) (Nat.le_of_ble_eq_true rfl)
  rw [lg_entry_eq]
  generalize (lg_sl ([.ref (lo (10, 0, 0)), .int i_1, .int i_2, .int i_3]) ++ List.replicate (5 - (lg_sl ([.ref (lo (10, 0, 0)), .int i_1, .int i_2, .int i_3])).length) Slot.unset).toArray = ls at hl ⊢
  have hl : lv_has ls 5 [(0, .ref (lo (10, 0, 0))), (1, .int i_1), (2, .int i_2), (3, .int i_3)] := hl
  obtain ⟨H, hH0⟩ : ∃ H, H = s.heap := ⟨_, rfl⟩
  obtain ⟨locs, hlo0⟩ : ∃ L : List Loc, L = [] := ⟨_, rfl⟩
  have hS : va_S (zA Γ) s.heap H locs := by rw [hH0, hlo0]; exact hS
  have hW : Wd Γ lo S X H := by rw [hH0]; exact hW
  rw [← hH0, ← hlo0]
  unfold fX9_load at hf
  refine lv_aload_n hx hb dX9_load_0 rfl (lv_at hl 0 rfl) ?_
  refine lv_iload_n hx hb dX9_load_1 rfl (lv_at hl 1 rfl) ?_
  rcases op_cx hf with ⟨ee3, hc2, hf⟩ | ⟨r1, hc2, hf⟩
  · have hf := congrArg some hf
    have hf := Option.some.inj hf
    have hf := Sum.inl.inj hf
    rw [← hf]
    exact zx_callV (As := [.int i_1]) (rest := []) ⟨hx, hb, hml, hown, hts⟩ (uX9_demandVan l hl0 Γ lo S X v_z hc2) (cwV 1 hts gX9_load_X9_demandVan rfl rfl rfl (by decide +kernel) ⟨Nat.le_of_ble_eq_true rfl, Nat.le_of_ble_eq_true rfl⟩) (wd_1 hW v_z) rfl hKK hKX hW hS hm rfl hl.1 rfl (Nat.le_of_ble_eq_true rfl) dX9_load_2 ⟨Nat.le_of_ble_eq_true rfl, Nat.le_of_ble_eq_true rfl⟩ ht hlocks
  · skip
    refine z_callV (As := [.int i_1]) (rest := []) ⟨hx, hb, hml, hown, hts⟩ (tX9_demandVan l Γ lo S X v_z hc2) (cwV 1 hts gX9_load_X9_demandVan rfl rfl rfl (by decide +kernel) ⟨Nat.le_of_ble_eq_true rfl, Nat.le_of_ble_eq_true rfl⟩) (wd_1 hW v_z) rfl hKK hW hS rfl hl.1 rfl (Nat.le_of_ble_eq_true rfl) dX9_load_2 ⟨Nat.zero_le _, Nat.zero_le _⟩ (fun H locs hW hS hm1 hE => ?_)
    have v4 : zV S (9, r1, 0) = true := hE
    refine lv_astore (lv' := [(4, .ref (lo (9, r1, 0))), (0, .ref (lo (10, 0, 0))), (1, .int i_1), (2, .int i_2), (3, .int i_3)]) hx hb dX9_load_5 hl (by decide) rfl (fun ls hl => ?_)
    refine lv_iload_n hx hb dX9_load_7 rfl (lv_at hl 3 rfl) ?_
    refine lv_iconst (v := (0)) hx hb dX9_load_8 (by decide) ?_
    refine lv_iconst (v := (1)) hx hb dX9_load_9 (by decide) ?_
    rcases op_cx hf with ⟨ee7, hc6, hf⟩ | ⟨r5, hc6, hf⟩
    · have hf := congrArg some hf
      have hf := Option.some.inj hf
      have hf := Sum.inl.inj hf
      rw [← hf]
      exact zx_callS (As := [.int i_2, .int (0 : Int32), .int (1 : Int32)]) (rest := []) ⟨hx, hb, hml, hown, hts⟩ (uX9_demandRange l hl0 Γ lo S X  hc6) (va_cwS 3 hts gX9_load_X9_demandRange rfl rfl rfl (by decide +kernel) ⟨Nat.le_of_ble_eq_true rfl, Nat.le_of_ble_eq_true rfl⟩) hKK hKX hW hS hm rfl hl.1 rfl (Nat.le_of_ble_eq_true rfl) dX9_load_10 ⟨Nat.le_of_ble_eq_true rfl, Nat.le_of_ble_eq_true rfl⟩ ht hlocks
    · skip
      refine z_callS (As := [.int i_2, .int (0 : Int32), .int (1 : Int32)]) (rest := []) ⟨hx, hb, hml, hown, hts⟩ (tX9_demandRange l Γ lo S X  hc6) (va_cwS 3 hts gX9_load_X9_demandRange rfl rfl rfl (by decide +kernel) ⟨Nat.le_of_ble_eq_true rfl, Nat.le_of_ble_eq_true rfl⟩) hKK hW hS rfl hl.1 rfl (Nat.le_of_ble_eq_true rfl) dX9_load_10 ⟨Nat.zero_le _, Nat.zero_le _⟩ (fun H locs hW hS hm1 hE => ?_)
      refine lv_iload_n hx hb dX9_load_13 rfl (lv_at hl 4 rfl) ?_
      refine lv_iconst (v := (1)) hx hb dX9_load_14 (by decide) ?_
      refine lv_bipush (v := (20)) hx hb dX9_load_15 (by decide) ?_
      rcases op_cx hf with ⟨ee10, hc9, hf⟩ | ⟨r8, hc9, hf⟩
      · have hf := congrArg some hf
        have hf := Option.some.inj hf
        have hf := Sum.inl.inj hf
        rw [← hf]
        exact zx_callS (As := [.int i_3, .int (1 : Int32), .int (20 : Int32)]) (rest := []) ⟨hx, hb, hml, hown, hts⟩ (uX9_demandRange l hl0 Γ lo S X  hc9) (va_cwS 3 hts gX9_load_X9_demandRange rfl rfl rfl (by decide +kernel) ⟨Nat.le_of_ble_eq_true rfl, Nat.le_of_ble_eq_true rfl⟩) hKK hKX hW hS hm rfl hl.1 rfl (Nat.le_of_ble_eq_true rfl) dX9_load_17 ⟨Nat.le_of_ble_eq_true rfl, Nat.le_of_ble_eq_true rfl⟩ ht hlocks
      · skip
        refine z_callS (As := [.int i_3, .int (1 : Int32), .int (20 : Int32)]) (rest := []) ⟨hx, hb, hml, hown, hts⟩ (tX9_demandRange l Γ lo S X  hc9) (va_cwS 3 hts gX9_load_X9_demandRange rfl rfl rfl (by decide +kernel) ⟨Nat.le_of_ble_eq_true rfl, Nat.le_of_ble_eq_true rfl⟩) hKK hW hS rfl hl.1 rfl (Nat.le_of_ble_eq_true rfl) dX9_load_17 ⟨Nat.zero_le _, Nat.zero_le _⟩ (fun H locs hW hS hm1 hE => ?_)
        refine lv_aload hx hb dX9_load_20 (lv_at hl 0 rfl) ?_
        refine lv_iload_n hx hb dX9_load_22 rfl (lv_at hl 3 rfl) ?_
        obtain ⟨r11, hc12, hf⟩ := op_cl hf
        refine z_callV (As := [.int i_2]) (rest := []) ⟨hx, hb, hml, hown, hts⟩ (tX8_spareOf l Γ lo S X v4 hc12) (cwV 1 hts gX9_load_X8_spareOf rfl rfl rfl (by decide +kernel) ⟨Nat.le_of_ble_eq_true rfl, Nat.le_of_ble_eq_true rfl⟩) (wd_1 hW v4) rfl hKK hW hS rfl hl.1 rfl (Nat.le_of_ble_eq_true rfl) dX9_load_23 ⟨Nat.zero_le _, Nat.zero_le _⟩ (fun H locs hW hS hm1 hE => ?_)
        refine lv_iload_n hx hb dX9_load_26 rfl (lv_at hl 4 rfl) ?_
        refine lv_iadd hx hb dX9_load_27 ?_
        refine lv_bipush (v := (20)) hx hb dX9_load_28 (by decide) ?_
        refine lv_icmp_le (tgt := 43) hx hb dX9_load_30 (by decide) (fun k30 => ?_) (fun k30 => ?_)
        · have hf := (op_if hf).1 k30
          refine lv_aload hx hb dX9_load_43 (lv_at hl 0 rfl) ?_
          refine lv_iload_n hx hb dX9_load_45 rfl (lv_at hl 3 rfl) ?_
          refine lv_iload_n hx hb dX9_load_46 rfl (lv_at hl 4 rfl) ?_
          obtain ⟨S15, hc14, hf⟩ := op_cl hf
          refine z_callV (As := [.int i_2, .int i_3]) (rest := []) ⟨hx, hb, hml, hown, hts⟩ (tX8_addSpare l Γ lo S X v4 hc14) (cwV 2 hts gX9_load_X8_addSpare rfl rfl rfl (by decide +kernel) ⟨Nat.le_of_ble_eq_true rfl, Nat.le_of_ble_eq_true rfl⟩) (wd_1 hW v4) rfl hKK hW hS rfl hl.1 rfl (Nat.le_of_ble_eq_true rfl) dX9_load_47 ⟨Nat.zero_le _, Nat.zero_le _⟩ (fun H locs hW hS hm1 hE => ?_)
          have hm : ∀ c, zV S15 c = zV S c := hm1
          refine lv_aload hx hb dX9_load_50 (lv_at hl 0 rfl) ?_
          refine lv_iload_n hx hb dX9_load_52 rfl (lv_at hl 3 rfl) ?_
          obtain ⟨r16, hc17, hf⟩ := op_cl hf
          refine z_callV (As := [.int i_2]) (rest := []) ⟨hx, hb, hml, hown, hts⟩ (tX8_spareOf l Γ lo S15 X ((hm _).trans v4) hc17) (cwV 1 hts gX9_load_X8_spareOf rfl rfl rfl (by decide +kernel) ⟨Nat.le_of_ble_eq_true rfl, Nat.le_of_ble_eq_true rfl⟩) (wd_1 hW ((hm _).trans v4)) rfl hKK hW hS rfl hl.1 rfl (Nat.le_of_ble_eq_true rfl) dX9_load_53 ⟨Nat.zero_le _, Nat.zero_le _⟩ (fun H locs hW hS hm1 hE => ?_)
          have hf := Option.some.inj hf
          cases hf
        · have hf := (op_if hf).2 k30
          have hf := Option.some.inj hf
          have hf := Sum.inl.inj hf
          rw [← hf]
          exact zx_thr (ee := (3, S)) hx hb hl0 hts hown (hts (.classLink RX9 63 "java/lang/IllegalStateException") (List.mem_of_getElem? (i := 1) rfl)) (hts (.initialized "java/lang/IllegalStateException") (List.mem_of_getElem? (i := 2) rfl)) (List.mem_of_getElem? (i := 7) rfl) xs_X9_load_33 xs_X9_load_33b (show Bundle.fit (zEx 3) = true by decide) xs_X9_load_33c hKK hKX hS (hl.1.trans hml.symm) dX9_load_33 dX9_load_36 dX9_load_37 dX9_load_39 dX9_load_42 ht (Nat.le_of_ble_eq_true rfl) (Nat.le_of_ble_eq_true rfl) (Nat.le_of_ble_eq_true rfl) (Nat.le_of_ble_eq_true rfl) hlocks hW hm

def fX9_parts (S : zSt) (i_1 : Int32) (i_2 : Int32) : Option ((Nat × zSt) ⊕ Int32) :=
cx (fX9_demandVan S i_1) fun r1 =>
cx (fX9_demandRange S i_2 (0 : Int32) (1 : Int32)) fun r5 =>
cl (fX8_spareOf S r1 i_2) fun r8 =>
some (.inr r8)
abbrev rmX9_parts : Room := { frames := 1, cells := 0, slots := 0, locals := 22 }
set_option maxHeartbeats 4000000 in
set_option maxRecDepth 100000 in
theorem tX9_parts (l : Launch) (Γ : zG) (lo : zId → Nat) (S : zSt) (X : va_W) {i_1 : Int32} {i_2 : Int32} (v_z : zV S (10, 0, 0) = true) {y : Int32} (hf : fX9_parts S i_1 i_2 = some (Sum.inr y)) : Met l yX9_parts wsX9_parts rmX9_parts (zP0 Γ lo S X [.ref (lo (10, 0, 0)), .int i_1, .int i_2]) (zQ0 Γ lo S S X (some (.int y)) True) 0 0 (zA Γ) := by
  refine Met.ofW (cc := cX9_parts) (maxL := 4) (ret := (some .int)) (by decide) rfl ?_
  intro p e s m args below meth c s₁ B hml hv
  obtain ⟨rfl, hW, hKK⟩ := hv
  have hx := B.exec
  have hb := B.bytes
  have hr := B.returns
  have hts := atoms_spec (ws := wsX9_parts) B.pre
  have hown : s.vm.findClass RX9 = some m.cls := findClass_of_methodNamed B.named
  have hlocks := B.notSynchronized
  have hS : va_S (zA Γ) s.heap s.heap [] := va_S.rf
  have hm : ∀ c, zV S c = zV S c := fun _ => rfl
  have hl := lv_entry ([.ref (lo (10, 0, 0)), .int i_1, .int i_2]) (n := 4) (Nat.le_of_ble_eq_true rfl)
  rw [lg_entry_eq]
  generalize (lg_sl ([.ref (lo (10, 0, 0)), .int i_1, .int i_2]) ++ List.replicate (4 - (lg_sl ([.ref (lo (10, 0, 0)), .int i_1, .int i_2])).length) Slot.unset).toArray = ls at hl ⊢
  have hl : lv_has ls 4 [(0, .ref (lo (10, 0, 0))), (1, .int i_1), (2, .int i_2)] := hl
  obtain ⟨H, hH0⟩ : ∃ H, H = s.heap := ⟨_, rfl⟩
  obtain ⟨locs, hlo0⟩ : ∃ L : List Loc, L = [] := ⟨_, rfl⟩
  have hS : va_S (zA Γ) s.heap H locs := by rw [hH0, hlo0]; exact hS
  have hW : Wd Γ lo S X H := by rw [hH0]; exact hW
  rw [← hH0, ← hlo0]
  unfold fX9_parts at hf
  refine lv_aload_n hx hb dX9_parts_0 rfl (lv_at hl 0 rfl) ?_
  refine lv_iload_n hx hb dX9_parts_1 rfl (lv_at hl 1 rfl) ?_
  rcases op_cx hf with ⟨ee3, hc2, hf⟩ | ⟨r1, hc2, hf⟩
  · have hf := congrArg some hf
    have hf := Option.some.inj hf
    cases hf
  · skip
    refine z_callV (As := [.int i_1]) (rest := []) ⟨hx, hb, hml, hown, hts⟩ (tX9_demandVan l Γ lo S X v_z hc2) (cwV 1 hts gX9_parts_X9_demandVan rfl rfl rfl (by decide +kernel) ⟨Nat.le_of_ble_eq_true rfl, Nat.le_of_ble_eq_true rfl⟩) (wd_1 hW v_z) rfl hKK hW hS rfl hl.1 rfl (Nat.le_of_ble_eq_true rfl) dX9_parts_2 ⟨Nat.zero_le _, Nat.zero_le _⟩ (fun H locs hW hS hm1 hE => ?_)
    have v4 : zV S (9, r1, 0) = true := hE
    refine lv_astore_n (lv' := [(3, .ref (lo (9, r1, 0))), (0, .ref (lo (10, 0, 0))), (1, .int i_1), (2, .int i_2)]) hx hb dX9_parts_5 rfl hl (by decide) rfl (fun ls hl => ?_)
    refine lv_iload_n hx hb dX9_parts_6 rfl (lv_at hl 3 rfl) ?_
    refine lv_iconst (v := (0)) hx hb dX9_parts_7 (by decide) ?_
    refine lv_iconst (v := (1)) hx hb dX9_parts_8 (by decide) ?_
    rcases op_cx hf with ⟨ee7, hc6, hf⟩ | ⟨r5, hc6, hf⟩
    · have hf := congrArg some hf
      have hf := Option.some.inj hf
      cases hf
    · skip
      refine z_callS (As := [.int i_2, .int (0 : Int32), .int (1 : Int32)]) (rest := []) ⟨hx, hb, hml, hown, hts⟩ (tX9_demandRange l Γ lo S X  hc6) (va_cwS 3 hts gX9_parts_X9_demandRange rfl rfl rfl (by decide +kernel) ⟨Nat.le_of_ble_eq_true rfl, Nat.le_of_ble_eq_true rfl⟩) hKK hW hS rfl hl.1 rfl (Nat.le_of_ble_eq_true rfl) dX9_parts_9 ⟨Nat.zero_le _, Nat.zero_le _⟩ (fun H locs hW hS hm1 hE => ?_)
      refine lv_aload_n hx hb dX9_parts_12 rfl (lv_at hl 0 rfl) ?_
      refine lv_iload_n hx hb dX9_parts_13 rfl (lv_at hl 3 rfl) ?_
      obtain ⟨r8, hc9, hf⟩ := op_cl hf
      refine z_callV (As := [.int i_2]) (rest := []) ⟨hx, hb, hml, hown, hts⟩ (tX8_spareOf l Γ lo S X v4 hc9) (cwV 1 hts gX9_parts_X8_spareOf rfl rfl rfl (by decide +kernel) ⟨Nat.le_of_ble_eq_true rfl, Nat.le_of_ble_eq_true rfl⟩) (wd_1 hW v4) rfl hKK hW hS rfl hl.1 rfl (Nat.le_of_ble_eq_true rfl) dX9_parts_14 ⟨Nat.zero_le _, Nat.zero_le _⟩ (fun H locs hW hS hm1 hE => ?_)
      have hf := Option.some.inj hf
      have hf := Sum.inr.inj hf
      rw [← hf]
      exact z_iret hx hb hr hlocks rfl hW hS hm trivial dX9_parts_17
abbrev rnX9_parts : Room := { frames := 7, cells := 1, slots := 6, locals := 104 }
set_option maxHeartbeats 4000000 in
set_option maxRecDepth 100000 in
theorem uX9_parts (l : Launch) (hl0 : l.stackTraces = false) (Γ : zG) (lo : zId → Nat) (S : zSt) (X : va_W) {i_1 : Int32} {i_2 : Int32} (v_z : zV S (10, 0, 0) = true) {ee : Nat × zSt} (hf : fX9_parts S i_1 i_2 = some (Sum.inl ee)) : vx_Met l yX9_parts wsX9_parts rnX9_parts (zP1 Γ lo S X [.ref (lo (10, 0, 0)), .int i_1, .int i_2]) zF (zT Γ lo S X ee) 1 6 (zA Γ) := by
  refine vx_ofW (cc := cX9_parts) (maxL := 4) (ret := (some .int)) (by decide) rfl ?_
  intro p e s m args below meth c s₁ B hml ht hv
  obtain ⟨rfl, hW, hKK, hKX⟩ := hv
  have hx := B.exec
  have hb := B.bytes
  have hr := B.returns
  have hts := atoms_spec (ws := wsX9_parts) B.pre
  have hown : s.vm.findClass RX9 = some m.cls := findClass_of_methodNamed B.named
  have hlocks := B.notSynchronized
  have hS : va_S (zA Γ) s.heap s.heap [] := va_S.rf
  have hm : ∀ c, zV S c = zV S c := fun _ => rfl
  have hl := lv_entry ([.ref (lo (10, 0, 0)), .int i_1, .int i_2]) (n := 4) (Nat.le_of_ble_eq_true rfl)
  rw [lg_entry_eq]
  generalize (lg_sl ([.ref (lo (10, 0, 0)), .int i_1, .int i_2]) ++ List.replicate (4 - (lg_sl ([.ref (lo (10, 0, 0)), .int i_1, .int i_2])).length) Slot.unset).toArray = ls at hl ⊢
  have hl : lv_has ls 4 [(0, .ref (lo (10, 0, 0))), (1, .int i_1), (2, .int i_2)] := hl
  obtain ⟨H, hH0⟩ : ∃ H, H = s.heap := ⟨_, rfl⟩
  obtain ⟨locs, hlo0⟩ : ∃ L : List Loc, L = [] := ⟨_, rfl⟩
  have hS : va_S (zA Γ) s.heap H locs := by rw [hH0, hlo0]; exact hS
  have hW : Wd Γ lo S X H := by rw [hH0]; exact hW
  rw [← hH0, ← hlo0]
  unfold fX9_parts at hf
  refine lv_aload_n hx hb dX9_parts_0 rfl (lv_at hl 0 rfl) ?_
  refine lv_iload_n hx hb dX9_parts_1 rfl (lv_at hl 1 rfl) ?_
  rcases op_cx hf with ⟨ee3, hc2, hf⟩ | ⟨r1, hc2, hf⟩
  · have hf := congrArg some hf
    have hf := Option.some.inj hf
    have hf := Sum.inl.inj hf
    rw [← hf]
    exact zx_callV (As := [.int i_1]) (rest := []) ⟨hx, hb, hml, hown, hts⟩ (uX9_demandVan l hl0 Γ lo S X v_z hc2) (cwV 1 hts gX9_parts_X9_demandVan rfl rfl rfl (by decide +kernel) ⟨Nat.le_of_ble_eq_true rfl, Nat.le_of_ble_eq_true rfl⟩) (wd_1 hW v_z) rfl hKK hKX hW hS hm rfl hl.1 rfl (Nat.le_of_ble_eq_true rfl) dX9_parts_2 ⟨Nat.le_of_ble_eq_true rfl, Nat.le_of_ble_eq_true rfl⟩ ht hlocks
  · skip
    refine z_callV (As := [.int i_1]) (rest := []) ⟨hx, hb, hml, hown, hts⟩ (tX9_demandVan l Γ lo S X v_z hc2) (cwV 1 hts gX9_parts_X9_demandVan rfl rfl rfl (by decide +kernel) ⟨Nat.le_of_ble_eq_true rfl, Nat.le_of_ble_eq_true rfl⟩) (wd_1 hW v_z) rfl hKK hW hS rfl hl.1 rfl (Nat.le_of_ble_eq_true rfl) dX9_parts_2 ⟨Nat.zero_le _, Nat.zero_le _⟩ (fun H locs hW hS hm1 hE => ?_)
    have v4 : zV S (9, r1, 0) = true := hE
    refine lv_astore_n (lv' := [(3, .ref (lo (9, r1, 0))), (0, .ref (lo (10, 0, 0))), (1, .int i_1), (2, .int i_2)]) hx hb dX9_parts_5 rfl hl (by decide) rfl (fun ls hl => ?_)
    refine lv_iload_n hx hb dX9_parts_6 rfl (lv_at hl 3 rfl) ?_
    refine lv_iconst (v := (0)) hx hb dX9_parts_7 (by decide) ?_
    refine lv_iconst (v := (1)) hx hb dX9_parts_8 (by decide) ?_
    rcases op_cx hf with ⟨ee7, hc6, hf⟩ | ⟨r5, hc6, hf⟩
    · have hf := congrArg some hf
      have hf := Option.some.inj hf
      have hf := Sum.inl.inj hf
      rw [← hf]
      exact zx_callS (As := [.int i_2, .int (0 : Int32), .int (1 : Int32)]) (rest := []) ⟨hx, hb, hml, hown, hts⟩ (uX9_demandRange l hl0 Γ lo S X  hc6) (va_cwS 3 hts gX9_parts_X9_demandRange rfl rfl rfl (by decide +kernel) ⟨Nat.le_of_ble_eq_true rfl, Nat.le_of_ble_eq_true rfl⟩) hKK hKX hW hS hm rfl hl.1 rfl (Nat.le_of_ble_eq_true rfl) dX9_parts_9 ⟨Nat.le_of_ble_eq_true rfl, Nat.le_of_ble_eq_true rfl⟩ ht hlocks
    · skip
      refine z_callS (As := [.int i_2, .int (0 : Int32), .int (1 : Int32)]) (rest := []) ⟨hx, hb, hml, hown, hts⟩ (tX9_demandRange l Γ lo S X  hc6) (va_cwS 3 hts gX9_parts_X9_demandRange rfl rfl rfl (by decide +kernel) ⟨Nat.le_of_ble_eq_true rfl, Nat.le_of_ble_eq_true rfl⟩) hKK hW hS rfl hl.1 rfl (Nat.le_of_ble_eq_true rfl) dX9_parts_9 ⟨Nat.zero_le _, Nat.zero_le _⟩ (fun H locs hW hS hm1 hE => ?_)
      refine lv_aload_n hx hb dX9_parts_12 rfl (lv_at hl 0 rfl) ?_
      refine lv_iload_n hx hb dX9_parts_13 rfl (lv_at hl 3 rfl) ?_
      obtain ⟨r8, hc9, hf⟩ := op_cl hf
      refine z_callV (As := [.int i_2]) (rest := []) ⟨hx, hb, hml, hown, hts⟩ (tX8_spareOf l Γ lo S X v4 hc9) (cwV 1 hts gX9_parts_X8_spareOf rfl rfl rfl (by decide +kernel) ⟨Nat.le_of_ble_eq_true rfl, Nat.le_of_ble_eq_true rfl⟩) (wd_1 hW v4) rfl hKK hW hS rfl hl.1 rfl (Nat.le_of_ble_eq_true rfl) dX9_parts_14 ⟨Nat.zero_le _, Nat.zero_le _⟩ (fun H locs hW hS hm1 hE => ?_)
      have hf := Option.some.inj hf
      cases hf

theorem ni_X9_wanted_X9 : ∀ w ∈ wsX90, w ∈ wsX9_wanted := by decide +kernel
def fX9_wanted (S : zSt) (i_1 : Int32) : Option ((Nat × zSt) ⊕ Int32) :=
cx (fX9_demandRange S i_1 (0 : Int32) (1 : Int32)) fun r1 =>
st (0 : Int32) fun x4 =>
st (0 : Int32) fun x5 =>
lp (fun (q6 : (Int32 × Int32)) => (cl (fJ_size S 0) fun r13 =>
if r13 ≤ q6.2 then
cl (fX8_spareOf S 0 i_1) fun r16 =>
cl (fX8_spareOf S 1 i_1) fun r19 =>
some (.inr (.inr (if (0 : Int32) < ((q6.1 - r16) - r19) then ((q6.1 - r16) - r19) else (0 : Int32))))
else
cl (fJ_get S 0 q6.2) fun r22 =>
cl (fX7_countFaults S r22 i_1) fun r25 =>
st (q6.1 + r25) fun x27 =>
st (q6.2 + (1 : Int32)) fun x28 =>
some (.inl (x27, x28)) : Option ((Int32 × Int32) ⊕ ((Nat × zSt) ⊕ Int32)))) 40000 (x4, x5)
abbrev rmX9_wanted : Room := { frames := 4, cells := 0, slots := 0, locals := 88 }
set_option maxHeartbeats 4000000 in
set_option maxRecDepth 100000 in
theorem tX9_wanted (l : Launch) (Γ : zG) (lo : zId → Nat) (S : zSt) (X : va_W) {i_1 : Int32} (v_z : zV S (10, 0, 0) = true) {y : Int32} (hf : fX9_wanted S i_1 = some (Sum.inr y)) : Met l yX9_wanted wsX9_wanted rmX9_wanted (zP0 Γ lo S X [.ref (lo (10, 0, 0)), .int i_1]) (zQ0 Γ lo S S X (some (.int y)) True) 0 0 (zA Γ) := by
  refine Met.ofW (cc := cX9_wanted) (maxL := 4) (ret := (some .int)) (by decide) rfl ?_
  intro p e s m args below meth c s₁ B hml hv
  obtain ⟨rfl, hW, hKK⟩ := hv
  have hx := B.exec
  have hb := B.bytes
  have hr := B.returns
  have hts := atoms_spec (ws := wsX9_wanted) B.pre
  have hown : s.vm.findClass RX9 = some m.cls := findClass_of_methodNamed B.named
  have hlocks := B.notSynchronized
  have hS : va_S (zA Γ) s.heap s.heap [] := va_S.rf
  have hm : ∀ c, zV S c = zV S c := fun _ => rfl
  have hl := lv_entry ([.ref (lo (10, 0, 0)), .int i_1]) (n := 4) (Nat.le_of_ble_eq_true rfl)
  rw [lg_entry_eq]
  generalize (lg_sl ([.ref (lo (10, 0, 0)), .int i_1]) ++ List.replicate (4 - (lg_sl ([.ref (lo (10, 0, 0)), .int i_1])).length) Slot.unset).toArray = ls at hl ⊢
  have hl : lv_has ls 4 [(0, .ref (lo (10, 0, 0))), (1, .int i_1)] := hl
  obtain ⟨H, hH0⟩ : ∃ H, H = s.heap := ⟨_, rfl⟩
  obtain ⟨locs, hlo0⟩ : ∃ L : List Loc, L = [] := ⟨_, rfl⟩
  have hS : va_S (zA Γ) s.heap H locs := by rw [hH0, hlo0]; exact hS
  have hW : Wd Γ lo S X H := by rw [hH0]; exact hW
  rw [← hH0, ← hlo0]
  unfold fX9_wanted at hf
  refine lv_iload_n hx hb dX9_wanted_0 rfl (lv_at hl 1 rfl) ?_
  refine lv_iconst (v := (0)) hx hb dX9_wanted_1 (by decide) ?_
  refine lv_iconst (v := (1)) hx hb dX9_wanted_2 (by decide) ?_
  rcases op_cx hf with ⟨ee3, hc2, hf⟩ | ⟨r1, hc2, hf⟩
  · have hf := congrArg some hf
    have hf := Option.some.inj hf
    cases hf
  · skip
    refine z_callS (As := [.int i_1, .int (0 : Int32), .int (1 : Int32)]) (rest := []) ⟨hx, hb, hml, hown, hts⟩ (tX9_demandRange l Γ lo S X  hc2) (va_cwS 3 hts gX9_wanted_X9_demandRange rfl rfl rfl (by decide +kernel) ⟨Nat.le_of_ble_eq_true rfl, Nat.le_of_ble_eq_true rfl⟩) hKK hW hS rfl hl.1 rfl (Nat.le_of_ble_eq_true rfl) dX9_wanted_3 ⟨Nat.zero_le _, Nat.zero_le _⟩ (fun H locs hW hS hm1 hE => ?_)
    refine lv_iconst (v := (0)) hx hb dX9_wanted_6 (by decide) ?_
    obtain ⟨x4, ex4, hf⟩ := op_st hf
    have bx4 : x4 = 0 ∨ x4 = 1 := Or.inl ex4
    refine z_istn (lv' := [(2, .int x4), (0, .ref (lo (10, 0, 0))), (1, .int i_1)]) ex4 hx hb dX9_wanted_7 rfl hl (by decide) rfl (fun ls hl => ?_)
    refine lv_iconst (v := (0)) hx hb dX9_wanted_8 (by decide) ?_
    obtain ⟨x5, ex5, hf⟩ := op_st hf
    have bx5 : x5 = 0 ∨ x5 = 1 := Or.inl ex5
    refine z_istn (lv' := [(3, .int x5), (2, .int x4), (0, .ref (lo (10, 0, 0))), (1, .int i_1)]) ex5 hx hb dX9_wanted_9 rfl hl (by decide) rfl (fun ls hl => ?_)
    obtain ⟨w8, q60, ew8, eq60, hf⟩ := op_lb hf
    have hw8 : ∀ n11 : Nat, ∀ (q6 : (Int32 × Int32)) (H : Heap) (locs : List Loc) (ls : Array Slot), lv_has ls 4 [(3, .int q6.2), (2, .int q6.1), (0, .ref (lo (10, 0, 0))), (1, .int i_1)] → Wd Γ lo S X H → va_S (zA Γ) s.heap H locs → (∀ c, zV S c = zV S c) → lp w8 n11 q6 = some (Sum.inr y) → W p l e (headSpec wsX9_wanted rmX9_wanted).room s m ([.ref (lo (10, 0, 0)), .int i_1] : List Value).toArray below meth c H locs 0 0 (MQ below (zQ0 Γ lo S S X (some (.int y)) True) ([.ref (lo (10, 0, 0)), .int i_1] : List Value).toArray s 0 0 (zA Γ)) (F0 m 10 ls []) := by
      intro n11
      induction n11 with
      | zero => intro q6 H locs ls hl hW hS hm hf; cases hf
      | succ n11 ih9 =>
        intro q6 H locs ls hl hW hS hm hf
        obtain ⟨n_, r7, hn_, hf, hr10⟩ := op_lq hf
        cases hn_
        rw [ew8] at hf
        refine lv_iload_n hx hb dX9_wanted_10 rfl (lv_at hl 0 rfl) ?_
        refine lv_aload_n hx hb dX9_wanted_11 rfl (lv_at hl 2 rfl) ?_
        refine va_get hx hb hts ni_X9_wanted_X9 hown hKK.1 (wd_1 hW v_z) 0 rfl rfl 0 (by decide) (hts (.fieldLink RX9 12 "TiltRoute" "tables" "Ljava/util/ArrayList;") (List.mem_of_getElem? (i := 1) rfl)) (fun _ h => h) rfl dX9_wanted_12 ?_
        have v12 : zV S (0, 0, 0) = true := vf_10_0 hW v_z
        obtain ⟨r13, hc14, hf⟩ := op_cl hf
        refine z_callV (As := []) (rest := [.int q6.2]) ⟨hx, hb, hml, hown, hts⟩ (tJ_size l Γ lo S X v12 hc14) (cwV 0 hts gX9_wanted_Jx4a65c_size_8abf5 rfl rfl rfl (by decide +kernel) ⟨Nat.le_of_ble_eq_true rfl, Nat.le_of_ble_eq_true rfl⟩) (wd_1 hW v12) rfl hKK hW hS rfl hl.1 rfl (Nat.le_of_ble_eq_true rfl) dX9_wanted_15 ⟨Nat.zero_le _, Nat.zero_le _⟩ (fun H locs hW hS hm1 hE => ?_)
        refine lv_icmp_ge (tgt := 45) hx hb dX9_wanted_18 (by decide) (fun k18 => ?_) (fun k18 => ?_)
        · have hf := (op_if hf).1 k18
          refine lv_iconst (v := (0)) hx hb dX9_wanted_45 (by decide) ?_
          refine lv_iload_n hx hb dX9_wanted_46 rfl (lv_at hl 1 rfl) ?_
          refine lv_aload_n hx hb dX9_wanted_47 rfl (lv_at hl 2 rfl) ?_
          refine va_get hx hb hts ni_X9_wanted_X9 hown hKK.1 (wd_1 hW v_z) 0 rfl rfl 2 (by decide) (hts (.fieldLink RX9 22 "TiltRoute" "firstVan" "LTiltRoute$Van;") (List.mem_of_getElem? (i := 3) rfl)) (fun _ h => h) rfl dX9_wanted_48 ?_
          have v15 : zV S (9, 0, 0) = true := vf_10_2 hW v_z
          refine lv_iload_n hx hb dX9_wanted_51 rfl (lv_at hl 3 rfl) ?_
          obtain ⟨r16, hc17, hf⟩ := op_cl hf
          refine z_callV (As := [.int i_1]) (rest := [.int q6.1, .int (0 : Int32)]) ⟨hx, hb, hml, hown, hts⟩ (tX8_spareOf l Γ lo S X v15 hc17) (cwV 1 hts gX9_wanted_X8_spareOf rfl rfl rfl (by decide +kernel) ⟨Nat.le_of_ble_eq_true rfl, Nat.le_of_ble_eq_true rfl⟩) (wd_1 hW v15) rfl hKK hW hS rfl hl.1 rfl (Nat.le_of_ble_eq_true rfl) dX9_wanted_52 ⟨Nat.zero_le _, Nat.zero_le _⟩ (fun H locs hW hS hm1 hE => ?_)
          refine lv_isub hx hb dX9_wanted_55 ?_
          refine lv_aload_n hx hb dX9_wanted_56 rfl (lv_at hl 2 rfl) ?_
          refine va_get hx hb hts ni_X9_wanted_X9 hown hKK.1 (wd_1 hW v_z) 0 rfl rfl 3 (by decide) (hts (.fieldLink RX9 26 "TiltRoute" "secondVan" "LTiltRoute$Van;") (List.mem_of_getElem? (i := 4) rfl)) (fun _ h => h) rfl dX9_wanted_57 ?_
          have v18 : zV S (9, 1, 0) = true := vf_10_3 hW v_z
          refine lv_iload_n hx hb dX9_wanted_60 rfl (lv_at hl 3 rfl) ?_
          obtain ⟨r19, hc20, hf⟩ := op_cl hf
          refine z_callV (As := [.int i_1]) (rest := [.int (q6.1 - r16), .int (0 : Int32)]) ⟨hx, hb, hml, hown, hts⟩ (tX8_spareOf l Γ lo S X v18 hc20) (cwV 1 hts gX9_wanted_X8_spareOf rfl rfl rfl (by decide +kernel) ⟨Nat.le_of_ble_eq_true rfl, Nat.le_of_ble_eq_true rfl⟩) (wd_1 hW v18) rfl hKK hW hS rfl hl.1 rfl (Nat.le_of_ble_eq_true rfl) dX9_wanted_61 ⟨Nat.zero_le _, Nat.zero_le _⟩ (fun H locs hW hS hm1 hE => ?_)
          refine lv_isub hx hb dX9_wanted_64 ?_
          refine va_mmax hx hb (hml.trans hl.1.symm) hown (hts (.methodLink RX9 240 Lib.Math.max.name) (List.mem_of_getElem? (i := 5) rfl)) (hts (.static Lib.Math.max.name) (List.mem_of_getElem? (i := 6) rfl)) (hts (.initialized "java/lang/Math") (List.mem_of_getElem? (i := 7) rfl)) (hts (.code Lib.Math.max.name Lib.Math.max.code 2 (some .int)) (List.mem_of_getElem? (i := 8) rfl)) (by decide) (Nat.le_of_ble_eq_true rfl) (Nat.zero_le _) (Nat.zero_le _) dX9_wanted_65 ?_
          have hf := zr_r hf hr10
          have hf := Sum.inr.inj hf
          rw [← hf]
          exact z_iret hx hb hr hlocks rfl hW hS hm trivial dX9_wanted_68
        · have hf := (op_if hf).2 k18
          refine lv_iload_n hx hb dX9_wanted_21 rfl (lv_at hl 1 rfl) ?_
          refine lv_aload_n hx hb dX9_wanted_22 rfl (lv_at hl 2 rfl) ?_
          refine va_get hx hb hts ni_X9_wanted_X9 hown hKK.1 (wd_1 hW v_z) 0 rfl rfl 0 (by decide) (hts (.fieldLink RX9 12 "TiltRoute" "tables" "Ljava/util/ArrayList;") (List.mem_of_getElem? (i := 1) rfl)) (fun _ h => h) rfl dX9_wanted_23 ?_
          have v21 : zV S (0, 0, 0) = true := vf_10_0 hW v_z
          refine lv_iload_n hx hb dX9_wanted_26 rfl (lv_at hl 0 rfl) ?_
          obtain ⟨r22, hc23, hf⟩ := op_cl hf
          refine z_callV (As := [.int q6.2]) (rest := [.int q6.1]) ⟨hx, hb, hml, hown, hts⟩ (tJ_get l Γ lo S X v21 hc23) (cwV 1 hts gX9_wanted_Jx4a65c_get_915e3 rfl rfl rfl (by decide +kernel) ⟨Nat.le_of_ble_eq_true rfl, Nat.le_of_ble_eq_true rfl⟩) (wd_1 hW v21) rfl hKK hW hS rfl hl.1 rfl (Nat.le_of_ble_eq_true rfl) dX9_wanted_27 ⟨Nat.zero_le _, Nat.zero_le _⟩ (fun H locs hW hS hm1 hE => ?_)
          have v24 : zV S (8, r22, 0) = true := hE
          refine va_castE hx hb hown (hts (.classLink RX9 70 "TiltRoute$Table") (List.mem_of_getElem? (i := 2) rfl)) (va_recv (q0 := 0) hKK.1 (wd_1 hW v24) (ci := 8) rfl rfl) dX9_wanted_30 ?_
          refine lv_iload_n hx hb dX9_wanted_33 rfl (lv_at hl 3 rfl) ?_
          obtain ⟨r25, hc26, hf⟩ := op_cl hf
          refine z_callV (As := [.int i_1]) (rest := [.int q6.1]) ⟨hx, hb, hml, hown, hts⟩ (tX7_countFaults l Γ lo S X v24 hc26) (cwV 1 hts gX9_wanted_X7_countFaults rfl rfl rfl (by decide +kernel) ⟨Nat.le_of_ble_eq_true rfl, Nat.le_of_ble_eq_true rfl⟩) (wd_1 hW v24) rfl hKK hW hS rfl hl.1 rfl (Nat.le_of_ble_eq_true rfl) dX9_wanted_34 ⟨Nat.zero_le _, Nat.zero_le _⟩ (fun H locs hW hS hm1 hE => ?_)
          refine lv_iadd hx hb dX9_wanted_37 ?_
          obtain ⟨x27, ex27, hf⟩ := op_st hf
          refine z_istn (lv' := [(2, .int x27), (3, .int q6.2), (0, .ref (lo (10, 0, 0))), (1, .int i_1)]) ex27 hx hb dX9_wanted_38 rfl hl (by decide) rfl (fun ls hl => ?_)
          obtain ⟨x28, ex28, hf⟩ := op_st hf
          refine lv_iinc (v := x28) (lv' := [(3, .int x28), (2, .int x27), (0, .ref (lo (10, 0, 0))), (1, .int i_1)]) hx hb dX9_wanted_39 hl (k := 1) rfl (by rw [ex28]; rfl) (by decide) rfl (fun ls hl => ?_)
          refine lv_goto (tgt := 10) hx hb dX9_wanted_42 (by decide) ?_
          have hf := zr_l hf hr10
          exact ih9 (x27, x28) H locs ls (lv_sub hl [0, 1, 2, 3] rfl) hW hS hm hf
    rw [eq60] at hf
    exact hw8 _ (x4, x5) H locs ls (lv_sub hl [0, 1, 2, 3] rfl) hW hS hm hf
abbrev rnX9_wanted : Room := { frames := 7, cells := 1, slots := 6, locals := 104 }
set_option maxHeartbeats 4000000 in
set_option maxRecDepth 100000 in
theorem uX9_wanted (l : Launch) (hl0 : l.stackTraces = false) (Γ : zG) (lo : zId → Nat) (S : zSt) (X : va_W) {i_1 : Int32} (v_z : zV S (10, 0, 0) = true) {ee : Nat × zSt} (hf : fX9_wanted S i_1 = some (Sum.inl ee)) : vx_Met l yX9_wanted wsX9_wanted rnX9_wanted (zP1 Γ lo S X [.ref (lo (10, 0, 0)), .int i_1]) zF (zT Γ lo S X ee) 1 6 (zA Γ) := by
  refine vx_ofW (cc := cX9_wanted) (maxL := 4) (ret := (some .int)) (by decide) rfl ?_
  intro p e s m args below meth c s₁ B hml ht hv
  obtain ⟨rfl, hW, hKK, hKX⟩ := hv
  have hx := B.exec
  have hb := B.bytes
  have hr := B.returns
  have hts := atoms_spec (ws := wsX9_wanted) B.pre
  have hown : s.vm.findClass RX9 = some m.cls := findClass_of_methodNamed B.named
  have hlocks := B.notSynchronized
  have hS : va_S (zA Γ) s.heap s.heap [] := va_S.rf
  have hm : ∀ c, zV S c = zV S c := fun _ => rfl
  have hl := lv_entry ([.ref (lo (10, 0, 0)), .int i_1]) (n := 4) (Nat.le_of_ble_eq_true rfl)
  rw [lg_entry_eq]
  generalize (lg_sl ([.ref (lo (10, 0, 0)), .int i_1]) ++ List.replicate (4 - (lg_sl ([.ref (lo (10, 0, 0)), .int i_1])).length) Slot.unset).toArray = ls at hl ⊢
  have hl : lv_has ls 4 [(0, .ref (lo (10, 0, 0))), (1, .int i_1)] := hl
  obtain ⟨H, hH0⟩ : ∃ H, H = s.heap := ⟨_, rfl⟩
  obtain ⟨locs, hlo0⟩ : ∃ L : List Loc, L = [] := ⟨_, rfl⟩
  have hS : va_S (zA Γ) s.heap H locs := by rw [hH0, hlo0]; exact hS
  have hW : Wd Γ lo S X H := by rw [hH0]; exact hW
  rw [← hH0, ← hlo0]
  unfold fX9_wanted at hf
  refine lv_iload_n hx hb dX9_wanted_0 rfl (lv_at hl 1 rfl) ?_
  refine lv_iconst (v := (0)) hx hb dX9_wanted_1 (by decide) ?_
  refine lv_iconst (v := (1)) hx hb dX9_wanted_2 (by decide) ?_
  rcases op_cx hf with ⟨ee3, hc2, hf⟩ | ⟨r1, hc2, hf⟩
  · have hf := congrArg some hf
    have hf := Option.some.inj hf
    have hf := Sum.inl.inj hf
    rw [← hf]
    exact zx_callS (As := [.int i_1, .int (0 : Int32), .int (1 : Int32)]) (rest := []) ⟨hx, hb, hml, hown, hts⟩ (uX9_demandRange l hl0 Γ lo S X  hc2) (va_cwS 3 hts gX9_wanted_X9_demandRange rfl rfl rfl (by decide +kernel) ⟨Nat.le_of_ble_eq_true rfl, Nat.le_of_ble_eq_true rfl⟩) hKK hKX hW hS hm rfl hl.1 rfl (Nat.le_of_ble_eq_true rfl) dX9_wanted_3 ⟨Nat.le_of_ble_eq_true rfl, Nat.le_of_ble_eq_true rfl⟩ ht hlocks
  · skip
    refine z_callS (As := [.int i_1, .int (0 : Int32), .int (1 : Int32)]) (rest := []) ⟨hx, hb, hml, hown, hts⟩ (tX9_demandRange l Γ lo S X  hc2) (va_cwS 3 hts gX9_wanted_X9_demandRange rfl rfl rfl (by decide +kernel) ⟨Nat.le_of_ble_eq_true rfl, Nat.le_of_ble_eq_true rfl⟩) hKK hW hS rfl hl.1 rfl (Nat.le_of_ble_eq_true rfl) dX9_wanted_3 ⟨Nat.zero_le _, Nat.zero_le _⟩ (fun H locs hW hS hm1 hE => ?_)
    refine lv_iconst (v := (0)) hx hb dX9_wanted_6 (by decide) ?_
    obtain ⟨x4, ex4, hf⟩ := op_st hf
    have bx4 : x4 = 0 ∨ x4 = 1 := Or.inl ex4
    refine z_istn (lv' := [(2, .int x4), (0, .ref (lo (10, 0, 0))), (1, .int i_1)]) ex4 hx hb dX9_wanted_7 rfl hl (by decide) rfl (fun ls hl => ?_)
    refine lv_iconst (v := (0)) hx hb dX9_wanted_8 (by decide) ?_
    obtain ⟨x5, ex5, hf⟩ := op_st hf
    have bx5 : x5 = 0 ∨ x5 = 1 := Or.inl ex5
    refine z_istn (lv' := [(3, .int x5), (2, .int x4), (0, .ref (lo (10, 0, 0))), (1, .int i_1)]) ex5 hx hb dX9_wanted_9 rfl hl (by decide) rfl (fun ls hl => ?_)
    obtain ⟨w8, q60, ew8, eq60, hf⟩ := op_lb hf
    have hw8 : ∀ n11 : Nat, ∀ (q6 : (Int32 × Int32)) (H : Heap) (locs : List Loc) (ls : Array Slot), lv_has ls 4 [(3, .int q6.2), (2, .int q6.1), (0, .ref (lo (10, 0, 0))), (1, .int i_1)] → Wd Γ lo S X H → va_S (zA Γ) s.heap H locs → (∀ c, zV S c = zV S c) → lp w8 n11 q6 = some (Sum.inl ee) → W p l e (headSpec wsX9_wanted rnX9_wanted).room s m ([.ref (lo (10, 0, 0)), .int i_1] : List Value).toArray below meth c H locs 0 0 (vx_MQ below zF (zT Γ lo S X ee) ([.ref (lo (10, 0, 0)), .int i_1] : List Value).toArray s 1 6 (zA Γ)) (F0 m 10 ls []) := by
      intro n11
      induction n11 with
      | zero => intro q6 H locs ls hl hW hS hm hf; cases hf
      | succ n11 ih9 =>
        intro q6 H locs ls hl hW hS hm hf
        obtain ⟨n_, r7, hn_, hf, hr10⟩ := op_lq hf
        cases hn_
        rw [ew8] at hf
        refine lv_iload_n hx hb dX9_wanted_10 rfl (lv_at hl 0 rfl) ?_
        refine lv_aload_n hx hb dX9_wanted_11 rfl (lv_at hl 2 rfl) ?_
        refine va_get hx hb hts ni_X9_wanted_X9 hown hKK.1 (wd_1 hW v_z) 0 rfl rfl 0 (by decide) (hts (.fieldLink RX9 12 "TiltRoute" "tables" "Ljava/util/ArrayList;") (List.mem_of_getElem? (i := 1) rfl)) (fun _ h => h) rfl dX9_wanted_12 ?_
        have v12 : zV S (0, 0, 0) = true := vf_10_0 hW v_z
        obtain ⟨r13, hc14, hf⟩ := op_cl hf
        refine z_callV (As := []) (rest := [.int q6.2]) ⟨hx, hb, hml, hown, hts⟩ (tJ_size l Γ lo S X v12 hc14) (cwV 0 hts gX9_wanted_Jx4a65c_size_8abf5 rfl rfl rfl (by decide +kernel) ⟨Nat.le_of_ble_eq_true rfl, Nat.le_of_ble_eq_true rfl⟩) (wd_1 hW v12) rfl hKK hW hS rfl hl.1 rfl (Nat.le_of_ble_eq_true rfl) dX9_wanted_15 ⟨Nat.zero_le _, Nat.zero_le _⟩ (fun H locs hW hS hm1 hE => ?_)
        refine lv_icmp_ge (tgt := 45) hx hb dX9_wanted_18 (by decide) (fun k18 => ?_) (fun k18 => ?_)
        · have hf := (op_if hf).1 k18
          refine lv_iconst (v := (0)) hx hb dX9_wanted_45 (by decide) ?_
          refine lv_iload_n hx hb dX9_wanted_46 rfl (lv_at hl 1 rfl) ?_
          refine lv_aload_n hx hb dX9_wanted_47 rfl (lv_at hl 2 rfl) ?_
          refine va_get hx hb hts ni_X9_wanted_X9 hown hKK.1 (wd_1 hW v_z) 0 rfl rfl 2 (by decide) (hts (.fieldLink RX9 22 "TiltRoute" "firstVan" "LTiltRoute$Van;") (List.mem_of_getElem? (i := 3) rfl)) (fun _ h => h) rfl dX9_wanted_48 ?_
          have v15 : zV S (9, 0, 0) = true := vf_10_2 hW v_z
          refine lv_iload_n hx hb dX9_wanted_51 rfl (lv_at hl 3 rfl) ?_
          obtain ⟨r16, hc17, hf⟩ := op_cl hf
          refine z_callV (As := [.int i_1]) (rest := [.int q6.1, .int (0 : Int32)]) ⟨hx, hb, hml, hown, hts⟩ (tX8_spareOf l Γ lo S X v15 hc17) (cwV 1 hts gX9_wanted_X8_spareOf rfl rfl rfl (by decide +kernel) ⟨Nat.le_of_ble_eq_true rfl, Nat.le_of_ble_eq_true rfl⟩) (wd_1 hW v15) rfl hKK hW hS rfl hl.1 rfl (Nat.le_of_ble_eq_true rfl) dX9_wanted_52 ⟨Nat.zero_le _, Nat.zero_le _⟩ (fun H locs hW hS hm1 hE => ?_)
          refine lv_isub hx hb dX9_wanted_55 ?_
          refine lv_aload_n hx hb dX9_wanted_56 rfl (lv_at hl 2 rfl) ?_
          refine va_get hx hb hts ni_X9_wanted_X9 hown hKK.1 (wd_1 hW v_z) 0 rfl rfl 3 (by decide) (hts (.fieldLink RX9 26 "TiltRoute" "secondVan" "LTiltRoute$Van;") (List.mem_of_getElem? (i := 4) rfl)) (fun _ h => h) rfl dX9_wanted_57 ?_
          have v18 : zV S (9, 1, 0) = true := vf_10_3 hW v_z
          refine lv_iload_n hx hb dX9_wanted_60 rfl (lv_at hl 3 rfl) ?_
          obtain ⟨r19, hc20, hf⟩ := op_cl hf
          refine z_callV (As := [.int i_1]) (rest := [.int (q6.1 - r16), .int (0 : Int32)]) ⟨hx, hb, hml, hown, hts⟩ (tX8_spareOf l Γ lo S X v18 hc20) (cwV 1 hts gX9_wanted_X8_spareOf rfl rfl rfl (by decide +kernel) ⟨Nat.le_of_ble_eq_true rfl, Nat.le_of_ble_eq_true rfl⟩) (wd_1 hW v18) rfl hKK hW hS rfl hl.1 rfl (Nat.le_of_ble_eq_true rfl) dX9_wanted_61 ⟨Nat.zero_le _, Nat.zero_le _⟩ (fun H locs hW hS hm1 hE => ?_)
          refine lv_isub hx hb dX9_wanted_64 ?_
          refine va_mmax hx hb (hml.trans hl.1.symm) hown (hts (.methodLink RX9 240 Lib.Math.max.name) (List.mem_of_getElem? (i := 5) rfl)) (hts (.static Lib.Math.max.name) (List.mem_of_getElem? (i := 6) rfl)) (hts (.initialized "java/lang/Math") (List.mem_of_getElem? (i := 7) rfl)) (hts (.code Lib.Math.max.name Lib.Math.max.code 2 (some .int)) (List.mem_of_getElem? (i := 8) rfl)) (by decide) (Nat.le_of_ble_eq_true rfl) (Nat.zero_le _) (Nat.zero_le _) dX9_wanted_65 ?_
          have hf := zr_r hf hr10
          cases hf
        · have hf := (op_if hf).2 k18
          refine lv_iload_n hx hb dX9_wanted_21 rfl (lv_at hl 1 rfl) ?_
          refine lv_aload_n hx hb dX9_wanted_22 rfl (lv_at hl 2 rfl) ?_
          refine va_get hx hb hts ni_X9_wanted_X9 hown hKK.1 (wd_1 hW v_z) 0 rfl rfl 0 (by decide) (hts (.fieldLink RX9 12 "TiltRoute" "tables" "Ljava/util/ArrayList;") (List.mem_of_getElem? (i := 1) rfl)) (fun _ h => h) rfl dX9_wanted_23 ?_
          have v21 : zV S (0, 0, 0) = true := vf_10_0 hW v_z
          refine lv_iload_n hx hb dX9_wanted_26 rfl (lv_at hl 0 rfl) ?_
          obtain ⟨r22, hc23, hf⟩ := op_cl hf
          refine z_callV (As := [.int q6.2]) (rest := [.int q6.1]) ⟨hx, hb, hml, hown, hts⟩ (tJ_get l Γ lo S X v21 hc23) (cwV 1 hts gX9_wanted_Jx4a65c_get_915e3 rfl rfl rfl (by decide +kernel) ⟨Nat.le_of_ble_eq_true rfl, Nat.le_of_ble_eq_true rfl⟩) (wd_1 hW v21) rfl hKK hW hS rfl hl.1 rfl (Nat.le_of_ble_eq_true rfl) dX9_wanted_27 ⟨Nat.zero_le _, Nat.zero_le _⟩ (fun H locs hW hS hm1 hE => ?_)
          have v24 : zV S (8, r22, 0) = true := hE
          refine va_castE hx hb hown (hts (.classLink RX9 70 "TiltRoute$Table") (List.mem_of_getElem? (i := 2) rfl)) (va_recv (q0 := 0) hKK.1 (wd_1 hW v24) (ci := 8) rfl rfl) dX9_wanted_30 ?_
          refine lv_iload_n hx hb dX9_wanted_33 rfl (lv_at hl 3 rfl) ?_
          obtain ⟨r25, hc26, hf⟩ := op_cl hf
          refine z_callV (As := [.int i_1]) (rest := [.int q6.1]) ⟨hx, hb, hml, hown, hts⟩ (tX7_countFaults l Γ lo S X v24 hc26) (cwV 1 hts gX9_wanted_X7_countFaults rfl rfl rfl (by decide +kernel) ⟨Nat.le_of_ble_eq_true rfl, Nat.le_of_ble_eq_true rfl⟩) (wd_1 hW v24) rfl hKK hW hS rfl hl.1 rfl (Nat.le_of_ble_eq_true rfl) dX9_wanted_34 ⟨Nat.zero_le _, Nat.zero_le _⟩ (fun H locs hW hS hm1 hE => ?_)
          refine lv_iadd hx hb dX9_wanted_37 ?_
          obtain ⟨x27, ex27, hf⟩ := op_st hf
          refine z_istn (lv' := [(2, .int x27), (3, .int q6.2), (0, .ref (lo (10, 0, 0))), (1, .int i_1)]) ex27 hx hb dX9_wanted_38 rfl hl (by decide) rfl (fun ls hl => ?_)
          obtain ⟨x28, ex28, hf⟩ := op_st hf
          refine lv_iinc (v := x28) (lv' := [(3, .int x28), (2, .int x27), (0, .ref (lo (10, 0, 0))), (1, .int i_1)]) hx hb dX9_wanted_39 hl (k := 1) rfl (by rw [ex28]; rfl) (by decide) rfl (fun ls hl => ?_)
          refine lv_goto (tgt := 10) hx hb dX9_wanted_42 (by decide) ?_
          have hf := zr_l hf hr10
          exact ih9 (x27, x28) H locs ls (lv_sub hl [0, 1, 2, 3] rfl) hW hS hm hf
    rw [eq60] at hf
    exact hw8 _ (x4, x5) H locs ls (lv_sub hl [0, 1, 2, 3] rfl) hW hS hm hf

theorem ni_X9_way_X4 : ∀ w ∈ wsX40, w ∈ wsX9_way := by decide +kernel
theorem ni_X9_way_X8 : ∀ w ∈ wsX80, w ∈ wsX9_way := by decide +kernel
theorem ni_X9_way_X9 : ∀ w ∈ wsX90, w ∈ wsX9_way := by decide +kernel
def fX9_way (S : zSt) (i_1 : Int32) : Option ((Nat × zSt) ⊕ (Int32 × zSt)) :=
cx (fX9_demandVan S i_1) fun r3 =>
cl (fX4_search S (zI S (9, r3, 0) 1)) fun S9 =>
some (.inr ((zI S9 (5, 0, 0) 4), S9))
abbrev rmX9_way : Room := { frames := 7, cells := 0, slots := 0, locals := 155 }
set_option maxHeartbeats 4000000 in
set_option maxRecDepth 100000 in
theorem tX9_way (l : Launch) (Γ : zG) (lo : zId → Nat) (S : zSt) (X : va_W) {i_1 : Int32} (v_z : zV S (10, 0, 0) = true) {y : (Int32 × zSt)} (hf : fX9_way S i_1 = some (Sum.inr y)) : Met l yX9_way wsX9_way rmX9_way (zP0 Γ lo S X [.ref (lo (10, 0, 0)), .int i_1]) (zQ0 Γ lo S y.2 X (some (.int y.1)) True) 0 0 (zA Γ) := by
  refine Met.ofW (cc := cX9_way) (maxL := 2) (ret := (some .int)) (by decide) rfl ?_
  intro p e s m args below meth c s₁ B hml hv
  obtain ⟨rfl, hW, hKK⟩ := hv
  have hx := B.exec
  have hb := B.bytes
  have hr := B.returns
  have hts := atoms_spec (ws := wsX9_way) B.pre
  have hown : s.vm.findClass RX9 = some m.cls := findClass_of_methodNamed B.named
  have hlocks := B.notSynchronized
  have hS : va_S (zA Γ) s.heap s.heap [] := va_S.rf
  have hm : ∀ c, zV S c = zV S c := fun _ => rfl
  have hl := lv_entry ([.ref (lo (10, 0, 0)), .int i_1]) (n := 2) (Nat.le_of_ble_eq_true rfl)
  rw [lg_entry_eq]
  generalize (lg_sl ([.ref (lo (10, 0, 0)), .int i_1]) ++ List.replicate (2 - (lg_sl ([.ref (lo (10, 0, 0)), .int i_1])).length) Slot.unset).toArray = ls at hl ⊢
  have hl : lv_has ls 2 [(0, .ref (lo (10, 0, 0))), (1, .int i_1)] := hl
  obtain ⟨H, hH0⟩ : ∃ H, H = s.heap := ⟨_, rfl⟩
  obtain ⟨locs, hlo0⟩ : ∃ L : List Loc, L = [] := ⟨_, rfl⟩
  have hS : va_S (zA Γ) s.heap H locs := by rw [hH0, hlo0]; exact hS
  have hW : Wd Γ lo S X H := by rw [hH0]; exact hW
  rw [← hH0, ← hlo0]
  unfold fX9_way at hf
  refine lv_aload_n hx hb dX9_way_0 rfl (lv_at hl 0 rfl) ?_
  refine va_get hx hb hts ni_X9_way_X9 hown hKK.1 (wd_1 hW v_z) 0 rfl rfl 6 (by decide) (hts (.fieldLink RX9 43 "TiltRoute" "plan" "LTiltRoute$Plan;") (List.mem_of_getElem? (i := 1) rfl)) (fun _ h => h) rfl dX9_way_1 ?_
  have v1 : zV S (5, 0, 0) = true := vf_10_6 hW v_z
  refine lv_aload_n hx hb dX9_way_4 rfl (lv_at hl 0 rfl) ?_
  refine va_get hx hb hts ni_X9_way_X9 hown hKK.1 (wd_1 hW v_z) 0 rfl rfl 0 (by decide) (hts (.fieldLink RX9 12 "TiltRoute" "tables" "Ljava/util/ArrayList;") (List.mem_of_getElem? (i := 2) rfl)) (fun _ h => h) rfl dX9_way_5 ?_
  have v2 : zV S (0, 0, 0) = true := vf_10_0 hW v_z
  refine lv_aload_n hx hb dX9_way_8 rfl (lv_at hl 0 rfl) ?_
  refine lv_iload_n hx hb dX9_way_9 rfl (lv_at hl 1 rfl) ?_
  rcases op_cx hf with ⟨ee5, hc4, hf⟩ | ⟨r3, hc4, hf⟩
  · have hf := congrArg some hf
    have hf := Option.some.inj hf
    cases hf
  · skip
    refine z_callV (As := [.int i_1]) (rest := [.ref (lo (0, 0, 0)), .ref (lo (5, 0, 0))]) ⟨hx, hb, hml, hown, hts⟩ (tX9_demandVan l Γ lo S X v_z hc4) (cwV 1 hts gX9_way_X9_demandVan rfl rfl rfl (by decide +kernel) ⟨Nat.le_of_ble_eq_true rfl, Nat.le_of_ble_eq_true rfl⟩) (wd_1 hW v_z) rfl hKK hW hS rfl hl.1 rfl (Nat.le_of_ble_eq_true rfl) dX9_way_10 ⟨Nat.zero_le _, Nat.zero_le _⟩ (fun H locs hW hS hm1 hE => ?_)
    have v6 : zV S (9, r3, 0) = true := hE
    refine va_get hx hb hts ni_X9_way_X8 hown hKK.1 (wd_1 hW v6) 0 rfl rfl 1 (by decide) (hts (.fieldLink RX9 246 "TiltRoute$Van" "site" "I") (List.mem_of_getElem? (i := 3) rfl)) (fun _ h => h) rfl dX9_way_13 ?_
    obtain ⟨S9, hc8, hf⟩ := op_cl hf
    refine z_callV (As := [.ref (lo (0, 0, 0)), .int (zI S (9, r3, 0) 1)]) (rest := []) ⟨hx, hb, hml, hown, hts⟩ (tX4_search l Γ lo S X v1 v2 hc8) (cwV 2 hts gX9_way_X4_search rfl rfl rfl (by decide +kernel) ⟨Nat.le_of_ble_eq_true rfl, Nat.le_of_ble_eq_true rfl⟩) (wd_1 hW v1) rfl hKK hW hS rfl hl.1 rfl (Nat.le_of_ble_eq_true rfl) dX9_way_16 ⟨Nat.zero_le _, Nat.zero_le _⟩ (fun H locs hW hS hm1 hE => ?_)
    have hm : ∀ c, zV S9 c = zV S c := hm1
    refine lv_aload_n hx hb dX9_way_19 rfl (lv_at hl 0 rfl) ?_
    refine va_get hx hb hts ni_X9_way_X9 hown hKK.1 (wd_1 hW ((hm _).trans v_z)) 0 rfl rfl 6 (by decide) (hts (.fieldLink RX9 43 "TiltRoute" "plan" "LTiltRoute$Plan;") (List.mem_of_getElem? (i := 1) rfl)) (fun _ h => h) rfl dX9_way_20 ?_
    have v10 : zV S (5, 0, 0) = true := (hm _).symm.trans (vf_10_6 hW ((hm _).trans v_z))
    refine va_get hx hb hts ni_X9_way_X4 hown hKK.1 (wd_1 hW ((hm _).trans v10)) 0 rfl rfl 4 (by decide) (hts (.fieldLink RX9 253 "TiltRoute$Plan" "length" "I") (List.mem_of_getElem? (i := 4) rfl)) (fun _ h => h) rfl dX9_way_23 ?_
    have hf := Option.some.inj hf
    have hf := Sum.inr.inj hf
    rw [← hf]
    exact z_iret hx hb hr hlocks rfl hW hS hm trivial dX9_way_26
abbrev rnX9_way : Room := { frames := 7, cells := 1, slots := 6, locals := 155 }
set_option maxHeartbeats 4000000 in
set_option maxRecDepth 100000 in
theorem uX9_way (l : Launch) (hl0 : l.stackTraces = false) (Γ : zG) (lo : zId → Nat) (S : zSt) (X : va_W) {i_1 : Int32} (v_z : zV S (10, 0, 0) = true) {ee : Nat × zSt} (hf : fX9_way S i_1 = some (Sum.inl ee)) : vx_Met l yX9_way wsX9_way rnX9_way (zP1 Γ lo S X [.ref (lo (10, 0, 0)), .int i_1]) zF (zT Γ lo S X ee) 1 6 (zA Γ) := by
  refine vx_ofW (cc := cX9_way) (maxL := 2) (ret := (some .int)) (by decide) rfl ?_
  intro p e s m args below meth c s₁ B hml ht hv
  obtain ⟨rfl, hW, hKK, hKX⟩ := hv
  have hx := B.exec
  have hb := B.bytes
  have hr := B.returns
  have hts := atoms_spec (ws := wsX9_way) B.pre
  have hown : s.vm.findClass RX9 = some m.cls := findClass_of_methodNamed B.named
  have hlocks := B.notSynchronized
  have hS : va_S (zA Γ) s.heap s.heap [] := va_S.rf
  have hm : ∀ c, zV S c = zV S c := fun _ => rfl
  have hl := lv_entry ([.ref (lo (10, 0, 0)), .int i_1]) (n := 2) (Nat.le_of_ble_eq_true rfl)
  rw [lg_entry_eq]
  generalize (lg_sl ([.ref (lo (10, 0, 0)), .int i_1]) ++ List.replicate (2 - (lg_sl ([.ref (lo (10, 0, 0)), .int i_1])).length) Slot.unset).toArray = ls at hl ⊢
  have hl : lv_has ls 2 [(0, .ref (lo (10, 0, 0))), (1, .int i_1)] := hl
  obtain ⟨H, hH0⟩ : ∃ H, H = s.heap := ⟨_, rfl⟩
  obtain ⟨locs, hlo0⟩ : ∃ L : List Loc, L = [] := ⟨_, rfl⟩
  have hS : va_S (zA Γ) s.heap H locs := by rw [hH0, hlo0]; exact hS
  have hW : Wd Γ lo S X H := by rw [hH0]; exact hW
  rw [← hH0, ← hlo0]
  unfold fX9_way at hf
  refine lv_aload_n hx hb dX9_way_0 rfl (lv_at hl 0 rfl) ?_
  refine va_get hx hb hts ni_X9_way_X9 hown hKK.1 (wd_1 hW v_z) 0 rfl rfl 6 (by decide) (hts (.fieldLink RX9 43 "TiltRoute" "plan" "LTiltRoute$Plan;") (List.mem_of_getElem? (i := 1) rfl)) (fun _ h => h) rfl dX9_way_1 ?_
  have v1 : zV S (5, 0, 0) = true := vf_10_6 hW v_z
  refine lv_aload_n hx hb dX9_way_4 rfl (lv_at hl 0 rfl) ?_
  refine va_get hx hb hts ni_X9_way_X9 hown hKK.1 (wd_1 hW v_z) 0 rfl rfl 0 (by decide) (hts (.fieldLink RX9 12 "TiltRoute" "tables" "Ljava/util/ArrayList;") (List.mem_of_getElem? (i := 2) rfl)) (fun _ h => h) rfl dX9_way_5 ?_
  have v2 : zV S (0, 0, 0) = true := vf_10_0 hW v_z
  refine lv_aload_n hx hb dX9_way_8 rfl (lv_at hl 0 rfl) ?_
  refine lv_iload_n hx hb dX9_way_9 rfl (lv_at hl 1 rfl) ?_
  rcases op_cx hf with ⟨ee5, hc4, hf⟩ | ⟨r3, hc4, hf⟩
  · have hf := congrArg some hf
    have hf := Option.some.inj hf
    have hf := Sum.inl.inj hf
    rw [← hf]
    exact zx_callV (As := [.int i_1]) (rest := [.ref (lo (0, 0, 0)), .ref (lo (5, 0, 0))]) ⟨hx, hb, hml, hown, hts⟩ (uX9_demandVan l hl0 Γ lo S X v_z hc4) (cwV 1 hts gX9_way_X9_demandVan rfl rfl rfl (by decide +kernel) ⟨Nat.le_of_ble_eq_true rfl, Nat.le_of_ble_eq_true rfl⟩) (wd_1 hW v_z) rfl hKK hKX hW hS hm rfl hl.1 rfl (Nat.le_of_ble_eq_true rfl) dX9_way_10 ⟨Nat.le_of_ble_eq_true rfl, Nat.le_of_ble_eq_true rfl⟩ ht hlocks
  · skip
    refine z_callV (As := [.int i_1]) (rest := [.ref (lo (0, 0, 0)), .ref (lo (5, 0, 0))]) ⟨hx, hb, hml, hown, hts⟩ (tX9_demandVan l Γ lo S X v_z hc4) (cwV 1 hts gX9_way_X9_demandVan rfl rfl rfl (by decide +kernel) ⟨Nat.le_of_ble_eq_true rfl, Nat.le_of_ble_eq_true rfl⟩) (wd_1 hW v_z) rfl hKK hW hS rfl hl.1 rfl (Nat.le_of_ble_eq_true rfl) dX9_way_10 ⟨Nat.zero_le _, Nat.zero_le _⟩ (fun H locs hW hS hm1 hE => ?_)
    have v6 : zV S (9, r3, 0) = true := hE
    refine va_get hx hb hts ni_X9_way_X8 hown hKK.1 (wd_1 hW v6) 0 rfl rfl 1 (by decide) (hts (.fieldLink RX9 246 "TiltRoute$Van" "site" "I") (List.mem_of_getElem? (i := 3) rfl)) (fun _ h => h) rfl dX9_way_13 ?_
    obtain ⟨S9, hc8, hf⟩ := op_cl hf
    refine z_callV (As := [.ref (lo (0, 0, 0)), .int (zI S (9, r3, 0) 1)]) (rest := []) ⟨hx, hb, hml, hown, hts⟩ (tX4_search l Γ lo S X v1 v2 hc8) (cwV 2 hts gX9_way_X4_search rfl rfl rfl (by decide +kernel) ⟨Nat.le_of_ble_eq_true rfl, Nat.le_of_ble_eq_true rfl⟩) (wd_1 hW v1) rfl hKK hW hS rfl hl.1 rfl (Nat.le_of_ble_eq_true rfl) dX9_way_16 ⟨Nat.zero_le _, Nat.zero_le _⟩ (fun H locs hW hS hm1 hE => ?_)
    have hm : ∀ c, zV S9 c = zV S c := hm1
    refine lv_aload_n hx hb dX9_way_19 rfl (lv_at hl 0 rfl) ?_
    refine va_get hx hb hts ni_X9_way_X9 hown hKK.1 (wd_1 hW ((hm _).trans v_z)) 0 rfl rfl 6 (by decide) (hts (.fieldLink RX9 43 "TiltRoute" "plan" "LTiltRoute$Plan;") (List.mem_of_getElem? (i := 1) rfl)) (fun _ h => h) rfl dX9_way_20 ?_
    have v10 : zV S (5, 0, 0) = true := (hm _).symm.trans (vf_10_6 hW ((hm _).trans v_z))
    refine va_get hx hb hts ni_X9_way_X4 hown hKK.1 (wd_1 hW ((hm _).trans v10)) 0 rfl rfl 4 (by decide) (hts (.fieldLink RX9 253 "TiltRoute$Plan" "length" "I") (List.mem_of_getElem? (i := 4) rfl)) (fun _ h => h) rfl dX9_way_23 ?_
    have hf := Option.some.inj hf
    cases hf

theorem ni_X9_planned_X4 : ∀ w ∈ wsX40, w ∈ wsX9_planned := by decide +kernel
theorem ni_X9_planned_X8 : ∀ w ∈ wsX80, w ∈ wsX9_planned := by decide +kernel
theorem ni_X9_planned_X9 : ∀ w ∈ wsX90, w ∈ wsX9_planned := by decide +kernel
def fX9_planned (S : zSt) (i_1 : Int32) (i_2 : Int32) : Option ((Nat × zSt) ⊕ (Int32 × zSt)) :=
cx (fX9_demandVan S i_1) fun r3 =>
cl (fX4_search S (zI S (9, r3, 0) 1)) fun S9 =>
cx (fX9_demandIndex S9 i_2 (zI S9 (5, 0, 0) 3)) fun r11 =>
cl (fX4_tableOf S9 i_2) fun r15 =>
some (.inr (r15, S9))
abbrev rmX9_planned : Room := { frames := 7, cells := 0, slots := 0, locals := 155 }
set_option maxHeartbeats 4000000 in
set_option maxRecDepth 100000 in
theorem tX9_planned (l : Launch) (Γ : zG) (lo : zId → Nat) (S : zSt) (X : va_W) {i_1 : Int32} {i_2 : Int32} (v_z : zV S (10, 0, 0) = true) {y : (Int32 × zSt)} (hf : fX9_planned S i_1 i_2 = some (Sum.inr y)) : Met l yX9_planned wsX9_planned rmX9_planned (zP0 Γ lo S X [.ref (lo (10, 0, 0)), .int i_1, .int i_2]) (zQ0 Γ lo S y.2 X (some (.int y.1)) True) 0 0 (zA Γ) := by
  refine Met.ofW (cc := cX9_planned) (maxL := 3) (ret := (some .int)) (by decide) rfl ?_
  intro p e s m args below meth c s₁ B hml hv
  obtain ⟨rfl, hW, hKK⟩ := hv
  have hx := B.exec
  have hb := B.bytes
  have hr := B.returns
  have hts := atoms_spec (ws := wsX9_planned) B.pre
  have hown : s.vm.findClass RX9 = some m.cls := findClass_of_methodNamed B.named
  have hlocks := B.notSynchronized
  have hS : va_S (zA Γ) s.heap s.heap [] := va_S.rf
  have hm : ∀ c, zV S c = zV S c := fun _ => rfl
  have hl := lv_entry ([.ref (lo (10, 0, 0)), .int i_1, .int i_2]) (n := 3) (Nat.le_of_ble_eq_true rfl)
  rw [lg_entry_eq]
  generalize (lg_sl ([.ref (lo (10, 0, 0)), .int i_1, .int i_2]) ++ List.replicate (3 - (lg_sl ([.ref (lo (10, 0, 0)), .int i_1, .int i_2])).length) Slot.unset).toArray = ls at hl ⊢
  have hl : lv_has ls 3 [(0, .ref (lo (10, 0, 0))), (1, .int i_1), (2, .int i_2)] := hl
  obtain ⟨H, hH0⟩ : ∃ H, H = s.heap := ⟨_, rfl⟩
  obtain ⟨locs, hlo0⟩ : ∃ L : List Loc, L = [] := ⟨_, rfl⟩
  have hS : va_S (zA Γ) s.heap H locs := by rw [hH0, hlo0]; exact hS
  have hW : Wd Γ lo S X H := by rw [hH0]; exact hW
  rw [← hH0, ← hlo0]
  unfold fX9_planned at hf
  refine lv_aload_n hx hb dX9_planned_0 rfl (lv_at hl 0 rfl) ?_
  refine va_get hx hb hts ni_X9_planned_X9 hown hKK.1 (wd_1 hW v_z) 0 rfl rfl 6 (by decide) (hts (.fieldLink RX9 43 "TiltRoute" "plan" "LTiltRoute$Plan;") (List.mem_of_getElem? (i := 1) rfl)) (fun _ h => h) rfl dX9_planned_1 ?_
  have v1 : zV S (5, 0, 0) = true := vf_10_6 hW v_z
  refine lv_aload_n hx hb dX9_planned_4 rfl (lv_at hl 0 rfl) ?_
  refine va_get hx hb hts ni_X9_planned_X9 hown hKK.1 (wd_1 hW v_z) 0 rfl rfl 0 (by decide) (hts (.fieldLink RX9 12 "TiltRoute" "tables" "Ljava/util/ArrayList;") (List.mem_of_getElem? (i := 2) rfl)) (fun _ h => h) rfl dX9_planned_5 ?_
  have v2 : zV S (0, 0, 0) = true := vf_10_0 hW v_z
  refine lv_aload_n hx hb dX9_planned_8 rfl (lv_at hl 0 rfl) ?_
  refine lv_iload_n hx hb dX9_planned_9 rfl (lv_at hl 1 rfl) ?_
  rcases op_cx hf with ⟨ee5, hc4, hf⟩ | ⟨r3, hc4, hf⟩
  · have hf := congrArg some hf
    have hf := Option.some.inj hf
    cases hf
  · skip
    refine z_callV (As := [.int i_1]) (rest := [.ref (lo (0, 0, 0)), .ref (lo (5, 0, 0))]) ⟨hx, hb, hml, hown, hts⟩ (tX9_demandVan l Γ lo S X v_z hc4) (cwV 1 hts gX9_planned_X9_demandVan rfl rfl rfl (by decide +kernel) ⟨Nat.le_of_ble_eq_true rfl, Nat.le_of_ble_eq_true rfl⟩) (wd_1 hW v_z) rfl hKK hW hS rfl hl.1 rfl (Nat.le_of_ble_eq_true rfl) dX9_planned_10 ⟨Nat.zero_le _, Nat.zero_le _⟩ (fun H locs hW hS hm1 hE => ?_)
    have v6 : zV S (9, r3, 0) = true := hE
    refine va_get hx hb hts ni_X9_planned_X8 hown hKK.1 (wd_1 hW v6) 0 rfl rfl 1 (by decide) (hts (.fieldLink RX9 246 "TiltRoute$Van" "site" "I") (List.mem_of_getElem? (i := 3) rfl)) (fun _ h => h) rfl dX9_planned_13 ?_
    obtain ⟨S9, hc8, hf⟩ := op_cl hf
    refine z_callV (As := [.ref (lo (0, 0, 0)), .int (zI S (9, r3, 0) 1)]) (rest := []) ⟨hx, hb, hml, hown, hts⟩ (tX4_search l Γ lo S X v1 v2 hc8) (cwV 2 hts gX9_planned_X4_search rfl rfl rfl (by decide +kernel) ⟨Nat.le_of_ble_eq_true rfl, Nat.le_of_ble_eq_true rfl⟩) (wd_1 hW v1) rfl hKK hW hS rfl hl.1 rfl (Nat.le_of_ble_eq_true rfl) dX9_planned_16 ⟨Nat.zero_le _, Nat.zero_le _⟩ (fun H locs hW hS hm1 hE => ?_)
    have hm : ∀ c, zV S9 c = zV S c := hm1
    refine lv_iload_n hx hb dX9_planned_19 rfl (lv_at hl 2 rfl) ?_
    refine lv_aload_n hx hb dX9_planned_20 rfl (lv_at hl 0 rfl) ?_
    refine va_get hx hb hts ni_X9_planned_X9 hown hKK.1 (wd_1 hW ((hm _).trans v_z)) 0 rfl rfl 6 (by decide) (hts (.fieldLink RX9 43 "TiltRoute" "plan" "LTiltRoute$Plan;") (List.mem_of_getElem? (i := 1) rfl)) (fun _ h => h) rfl dX9_planned_21 ?_
    have v10 : zV S (5, 0, 0) = true := (hm _).symm.trans (vf_10_6 hW ((hm _).trans v_z))
    refine va_get hx hb hts ni_X9_planned_X4 hown hKK.1 (wd_1 hW ((hm _).trans v10)) 0 rfl rfl 3 (by decide) (hts (.fieldLink RX9 256 "TiltRoute$Plan" "count" "I") (List.mem_of_getElem? (i := 4) rfl)) (fun _ h => h) rfl dX9_planned_24 ?_
    rcases op_cx hf with ⟨ee13, hc12, hf⟩ | ⟨r11, hc12, hf⟩
    · have hf := congrArg some hf
      have hf := Option.some.inj hf
      cases hf
    · skip
      refine z_callS (As := [.int i_2, .int (zI S9 (5, 0, 0) 3)]) (rest := []) ⟨hx, hb, hml, hown, hts⟩ (tX9_demandIndex l Γ lo S9 X  hc12) (va_cwS 2 hts gX9_planned_X9_demandIndex rfl rfl rfl (by decide +kernel) ⟨Nat.le_of_ble_eq_true rfl, Nat.le_of_ble_eq_true rfl⟩) hKK hW hS rfl hl.1 rfl (Nat.le_of_ble_eq_true rfl) dX9_planned_27 ⟨Nat.zero_le _, Nat.zero_le _⟩ (fun H locs hW hS hm1 hE => ?_)
      refine lv_aload_n hx hb dX9_planned_30 rfl (lv_at hl 0 rfl) ?_
      refine va_get hx hb hts ni_X9_planned_X9 hown hKK.1 (wd_1 hW ((hm _).trans v_z)) 0 rfl rfl 6 (by decide) (hts (.fieldLink RX9 43 "TiltRoute" "plan" "LTiltRoute$Plan;") (List.mem_of_getElem? (i := 1) rfl)) (fun _ h => h) rfl dX9_planned_31 ?_
      have v14 : zV S (5, 0, 0) = true := (hm _).symm.trans (vf_10_6 hW ((hm _).trans v_z))
      refine lv_iload_n hx hb dX9_planned_34 rfl (lv_at hl 2 rfl) ?_
      obtain ⟨r15, hc16, hf⟩ := op_cl hf
      refine z_callV (As := [.int i_2]) (rest := []) ⟨hx, hb, hml, hown, hts⟩ (tX4_tableOf l Γ lo S9 X ((hm _).trans v14) hc16) (cwV 1 hts gX9_planned_X4_tableOf rfl rfl rfl (by decide +kernel) ⟨Nat.le_of_ble_eq_true rfl, Nat.le_of_ble_eq_true rfl⟩) (wd_1 hW ((hm _).trans v14)) rfl hKK hW hS rfl hl.1 rfl (Nat.le_of_ble_eq_true rfl) dX9_planned_35 ⟨Nat.zero_le _, Nat.zero_le _⟩ (fun H locs hW hS hm1 hE => ?_)
      have hf := Option.some.inj hf
      have hf := Sum.inr.inj hf
      rw [← hf]
      exact z_iret hx hb hr hlocks rfl hW hS hm trivial dX9_planned_38
abbrev rnX9_planned : Room := { frames := 7, cells := 1, slots := 6, locals := 155 }
set_option maxHeartbeats 4000000 in
set_option maxRecDepth 100000 in
theorem uX9_planned (l : Launch) (hl0 : l.stackTraces = false) (Γ : zG) (lo : zId → Nat) (S : zSt) (X : va_W) {i_1 : Int32} {i_2 : Int32} (v_z : zV S (10, 0, 0) = true) {ee : Nat × zSt} (hf : fX9_planned S i_1 i_2 = some (Sum.inl ee)) : vx_Met l yX9_planned wsX9_planned rnX9_planned (zP1 Γ lo S X [.ref (lo (10, 0, 0)), .int i_1, .int i_2]) zF (zT Γ lo S X ee) 1 6 (zA Γ) := by
  refine vx_ofW (cc := cX9_planned) (maxL := 3) (ret := (some .int)) (by decide) rfl ?_
  intro p e s m args below meth c s₁ B hml ht hv
  obtain ⟨rfl, hW, hKK, hKX⟩ := hv
  have hx := B.exec
  have hb := B.bytes
  have hr := B.returns
  have hts := atoms_spec (ws := wsX9_planned) B.pre
  have hown : s.vm.findClass RX9 = some m.cls := findClass_of_methodNamed B.named
  have hlocks := B.notSynchronized
  have hS : va_S (zA Γ) s.heap s.heap [] := va_S.rf
  have hm : ∀ c, zV S c = zV S c := fun _ => rfl
  have hl := lv_entry ([.ref (lo (10, 0, 0)), .int i_1, .int i_2]) (n := 3) (Nat.le_of_ble_eq_true rfl)
  rw [lg_entry_eq]
  generalize (lg_sl ([.ref (lo (10, 0, 0)), .int i_1, .int i_2]) ++ List.replicate (3 - (lg_sl ([.ref (lo (10, 0, 0)), .int i_1, .int i_2])).length) Slot.unset).toArray = ls at hl ⊢
  have hl : lv_has ls 3 [(0, .ref (lo (10, 0, 0))), (1, .int i_1), (2, .int i_2)] := hl
  obtain ⟨H, hH0⟩ : ∃ H, H = s.heap := ⟨_, rfl⟩
  obtain ⟨locs, hlo0⟩ : ∃ L : List Loc, L = [] := ⟨_, rfl⟩
  have hS : va_S (zA Γ) s.heap H locs := by rw [hH0, hlo0]; exact hS
  have hW : Wd Γ lo S X H := by rw [hH0]; exact hW
  rw [← hH0, ← hlo0]
  unfold fX9_planned at hf
  refine lv_aload_n hx hb dX9_planned_0 rfl (lv_at hl 0 rfl) ?_
  refine va_get hx hb hts ni_X9_planned_X9 hown hKK.1 (wd_1 hW v_z) 0 rfl rfl 6 (by decide) (hts (.fieldLink RX9 43 "TiltRoute" "plan" "LTiltRoute$Plan;") (List.mem_of_getElem? (i := 1) rfl)) (fun _ h => h) rfl dX9_planned_1 ?_
  have v1 : zV S (5, 0, 0) = true := vf_10_6 hW v_z
  refine lv_aload_n hx hb dX9_planned_4 rfl (lv_at hl 0 rfl) ?_
  refine va_get hx hb hts ni_X9_planned_X9 hown hKK.1 (wd_1 hW v_z) 0 rfl rfl 0 (by decide) (hts (.fieldLink RX9 12 "TiltRoute" "tables" "Ljava/util/ArrayList;") (List.mem_of_getElem? (i := 2) rfl)) (fun _ h => h) rfl dX9_planned_5 ?_
  have v2 : zV S (0, 0, 0) = true := vf_10_0 hW v_z
  refine lv_aload_n hx hb dX9_planned_8 rfl (lv_at hl 0 rfl) ?_
  refine lv_iload_n hx hb dX9_planned_9 rfl (lv_at hl 1 rfl) ?_
  rcases op_cx hf with ⟨ee5, hc4, hf⟩ | ⟨r3, hc4, hf⟩
  · have hf := congrArg some hf
    have hf := Option.some.inj hf
    have hf := Sum.inl.inj hf
    rw [← hf]
    exact zx_callV (As := [.int i_1]) (rest := [.ref (lo (0, 0, 0)), .ref (lo (5, 0, 0))]) ⟨hx, hb, hml, hown, hts⟩ (uX9_demandVan l hl0 Γ lo S X v_z hc4) (cwV 1 hts gX9_planned_X9_demandVan rfl rfl rfl (by decide +kernel) ⟨Nat.le_of_ble_eq_true rfl, Nat.le_of_ble_eq_true rfl⟩) (wd_1 hW v_z) rfl hKK hKX hW hS hm rfl hl.1 rfl (Nat.le_of_ble_eq_true rfl) dX9_planned_10 ⟨Nat.le_of_ble_eq_true rfl, Nat.le_of_ble_eq_true rfl⟩ ht hlocks
  · skip
    refine z_callV (As := [.int i_1]) (rest := [.ref (lo (0, 0, 0)), .ref (lo (5, 0, 0))]) ⟨hx, hb, hml, hown, hts⟩ (tX9_demandVan l Γ lo S X v_z hc4) (cwV 1 hts gX9_planned_X9_demandVan rfl rfl rfl (by decide +kernel) ⟨Nat.le_of_ble_eq_true rfl, Nat.le_of_ble_eq_true rfl⟩) (wd_1 hW v_z) rfl hKK hW hS rfl hl.1 rfl (Nat.le_of_ble_eq_true rfl) dX9_planned_10 ⟨Nat.zero_le _, Nat.zero_le _⟩ (fun H locs hW hS hm1 hE => ?_)
    have v6 : zV S (9, r3, 0) = true := hE
    refine va_get hx hb hts ni_X9_planned_X8 hown hKK.1 (wd_1 hW v6) 0 rfl rfl 1 (by decide) (hts (.fieldLink RX9 246 "TiltRoute$Van" "site" "I") (List.mem_of_getElem? (i := 3) rfl)) (fun _ h => h) rfl dX9_planned_13 ?_
    obtain ⟨S9, hc8, hf⟩ := op_cl hf
    refine z_callV (As := [.ref (lo (0, 0, 0)), .int (zI S (9, r3, 0) 1)]) (rest := []) ⟨hx, hb, hml, hown, hts⟩ (tX4_search l Γ lo S X v1 v2 hc8) (cwV 2 hts gX9_planned_X4_search rfl rfl rfl (by decide +kernel) ⟨Nat.le_of_ble_eq_true rfl, Nat.le_of_ble_eq_true rfl⟩) (wd_1 hW v1) rfl hKK hW hS rfl hl.1 rfl (Nat.le_of_ble_eq_true rfl) dX9_planned_16 ⟨Nat.zero_le _, Nat.zero_le _⟩ (fun H locs hW hS hm1 hE => ?_)
    have hm : ∀ c, zV S9 c = zV S c := hm1
    refine lv_iload_n hx hb dX9_planned_19 rfl (lv_at hl 2 rfl) ?_
    refine lv_aload_n hx hb dX9_planned_20 rfl (lv_at hl 0 rfl) ?_
    refine va_get hx hb hts ni_X9_planned_X9 hown hKK.1 (wd_1 hW ((hm _).trans v_z)) 0 rfl rfl 6 (by decide) (hts (.fieldLink RX9 43 "TiltRoute" "plan" "LTiltRoute$Plan;") (List.mem_of_getElem? (i := 1) rfl)) (fun _ h => h) rfl dX9_planned_21 ?_
    have v10 : zV S (5, 0, 0) = true := (hm _).symm.trans (vf_10_6 hW ((hm _).trans v_z))
    refine va_get hx hb hts ni_X9_planned_X4 hown hKK.1 (wd_1 hW ((hm _).trans v10)) 0 rfl rfl 3 (by decide) (hts (.fieldLink RX9 256 "TiltRoute$Plan" "count" "I") (List.mem_of_getElem? (i := 4) rfl)) (fun _ h => h) rfl dX9_planned_24 ?_
    rcases op_cx hf with ⟨ee13, hc12, hf⟩ | ⟨r11, hc12, hf⟩
    · have hf := congrArg some hf
      have hf := Option.some.inj hf
      have hf := Sum.inl.inj hf
      rw [← hf]
      exact zx_callS (As := [.int i_2, .int (zI S9 (5, 0, 0) 3)]) (rest := []) ⟨hx, hb, hml, hown, hts⟩ (uX9_demandIndex l hl0 Γ lo S9 X  hc12) (va_cwS 2 hts gX9_planned_X9_demandIndex rfl rfl rfl (by decide +kernel) ⟨Nat.le_of_ble_eq_true rfl, Nat.le_of_ble_eq_true rfl⟩) hKK hKX hW hS hm rfl hl.1 rfl (Nat.le_of_ble_eq_true rfl) dX9_planned_27 ⟨Nat.le_of_ble_eq_true rfl, Nat.le_of_ble_eq_true rfl⟩ ht hlocks
    · skip
      refine z_callS (As := [.int i_2, .int (zI S9 (5, 0, 0) 3)]) (rest := []) ⟨hx, hb, hml, hown, hts⟩ (tX9_demandIndex l Γ lo S9 X  hc12) (va_cwS 2 hts gX9_planned_X9_demandIndex rfl rfl rfl (by decide +kernel) ⟨Nat.le_of_ble_eq_true rfl, Nat.le_of_ble_eq_true rfl⟩) hKK hW hS rfl hl.1 rfl (Nat.le_of_ble_eq_true rfl) dX9_planned_27 ⟨Nat.zero_le _, Nat.zero_le _⟩ (fun H locs hW hS hm1 hE => ?_)
      refine lv_aload_n hx hb dX9_planned_30 rfl (lv_at hl 0 rfl) ?_
      refine va_get hx hb hts ni_X9_planned_X9 hown hKK.1 (wd_1 hW ((hm _).trans v_z)) 0 rfl rfl 6 (by decide) (hts (.fieldLink RX9 43 "TiltRoute" "plan" "LTiltRoute$Plan;") (List.mem_of_getElem? (i := 1) rfl)) (fun _ h => h) rfl dX9_planned_31 ?_
      have v14 : zV S (5, 0, 0) = true := (hm _).symm.trans (vf_10_6 hW ((hm _).trans v_z))
      refine lv_iload_n hx hb dX9_planned_34 rfl (lv_at hl 2 rfl) ?_
      obtain ⟨r15, hc16, hf⟩ := op_cl hf
      refine z_callV (As := [.int i_2]) (rest := []) ⟨hx, hb, hml, hown, hts⟩ (tX4_tableOf l Γ lo S9 X ((hm _).trans v14) hc16) (cwV 1 hts gX9_planned_X4_tableOf rfl rfl rfl (by decide +kernel) ⟨Nat.le_of_ble_eq_true rfl, Nat.le_of_ble_eq_true rfl⟩) (wd_1 hW ((hm _).trans v14)) rfl hKK hW hS rfl hl.1 rfl (Nat.le_of_ble_eq_true rfl) dX9_planned_35 ⟨Nat.zero_le _, Nat.zero_le _⟩ (fun H locs hW hS hm1 hE => ?_)
      have hf := Option.some.inj hf
      cases hf

theorem ni_X9_go_X4 : ∀ w ∈ wsX40, w ∈ wsX9_go := by decide +kernel
theorem ni_X9_go_X7 : ∀ w ∈ wsX70, w ∈ wsX9_go := by decide +kernel
theorem ni_X9_go_X8 : ∀ w ∈ wsX80, w ∈ wsX9_go := by decide +kernel
theorem ni_X9_go_X9 : ∀ w ∈ wsX90, w ∈ wsX9_go := by decide +kernel
def fX9_go (S : zSt) (i_1 : Int32) : Option ((Nat × zSt) ⊕ (Int32 × zSt)) :=
cx (fX9_demandVan S i_1) fun r1 =>
cl (fX4_search S (zI S (9, r1, 0) 1)) fun S9 =>
if (zI S9 (5, 0, 0) 3) = 0 then
some (.inl (3, S9))
else
st (0 : Int32) fun x11 =>
st (0 : Int32) fun x12 =>
lp (fun (q13 : (Int32 × Int32 × zSt)) => (if (zI q13.2.2 (5, 0, 0) 3) ≤ q13.2.1 then
some (.inr (.inr (q13.1, q13.2.2)))
else
cl (fX4_tableOf q13.2.2 q13.2.1) fun r21 =>
cxl (fX9_demandTable q13.2.2 r21) fun r23 =>
cl2 (fX7_emptyBox q13.2.2 r23) fun r27 S29 =>
st (q13.1 + r27) fun x30 =>
cl (fX9_mendSwitches S29 r23 r1) fun S33 =>
cl (fX9_mendCoils S33 r23 r1) fun S36 =>
st (pI S36 (9, r1, 0) 1 (zI S36 (8, r23, 0) 0)) fun S37 =>
st (q13.2.1 + (1 : Int32)) fun x38 =>
some (.inl (x30, x38, S37)) : Option ((Int32 × Int32 × zSt) ⊕ ((Nat × zSt) ⊕ (Int32 × zSt))))) 40000 (x11, x12, S9)
abbrev rmX9_go : Room := { frames := 7, cells := 0, slots := 0, locals := 155 }
set_option maxHeartbeats 4000000 in
set_option maxRecDepth 100000 in
theorem tX9_go (l : Launch) (Γ : zG) (lo : zId → Nat) (S : zSt) (X : va_W) {i_1 : Int32} (v_z : zV S (10, 0, 0) = true) {y : (Int32 × zSt)} (hf : fX9_go S i_1 = some (Sum.inr y)) : Met l yX9_go wsX9_go rmX9_go (zP0 Γ lo S X [.ref (lo (10, 0, 0)), .int i_1]) (zQ0 Γ lo S y.2 X (some (.int y.1)) True) 0 0 (zA Γ) := by
  refine Met.ofW (cc := cX9_go) (maxL := 6) (ret := (some .int)) (by decide) rfl ?_
  intro p e s m args below meth c s₁ B hml hv
  obtain ⟨rfl, hW, hKK⟩ := hv
  have hx := B.exec
  have hb := B.bytes
  have hr := B.returns
  have hts := atoms_spec (ws := wsX9_go) B.pre
  have hown : s.vm.findClass RX9 = some m.cls := findClass_of_methodNamed B.named
  have hlocks := B.notSynchronized
  have hS : va_S (zA Γ) s.heap s.heap [] := va_S.rf
  have hm : ∀ c, zV S c = zV S c := fun _ => rfl
  have hl := lv_entry ([.ref (lo (10, 0, 0)), .int i_1]) (n := 6) (Nat.le_of_ble_eq_true rfl)
  rw [lg_entry_eq]
  generalize (lg_sl ([.ref (lo (10, 0, 0)), .int i_1]) ++ List.replicate (6 - (lg_sl ([.ref (lo (10, 0, 0)), .int i_1])).length) Slot.unset).toArray = ls at hl ⊢
  have hl : lv_has ls 6 [(0, .ref (lo (10, 0, 0))), (1, .int i_1)] := hl
  obtain ⟨H, hH0⟩ : ∃ H, H = s.heap := ⟨_, rfl⟩
  obtain ⟨locs, hlo0⟩ : ∃ L : List Loc, L = [] := ⟨_, rfl⟩
  have hS : va_S (zA Γ) s.heap H locs := by rw [hH0, hlo0]; exact hS
  have hW : Wd Γ lo S X H := by rw [hH0]; exact hW
  rw [← hH0, ← hlo0]
  unfold fX9_go at hf
  refine lv_aload_n hx hb dX9_go_0 rfl (lv_at hl 0 rfl) ?_
  refine lv_iload_n hx hb dX9_go_1 rfl (lv_at hl 1 rfl) ?_
  rcases op_cx hf with ⟨ee3, hc2, hf⟩ | ⟨r1, hc2, hf⟩
  · have hf := congrArg some hf
    have hf := Option.some.inj hf
    cases hf
  · skip
    refine z_callV (As := [.int i_1]) (rest := []) ⟨hx, hb, hml, hown, hts⟩ (tX9_demandVan l Γ lo S X v_z hc2) (cwV 1 hts gX9_go_X9_demandVan rfl rfl rfl (by decide +kernel) ⟨Nat.le_of_ble_eq_true rfl, Nat.le_of_ble_eq_true rfl⟩) (wd_1 hW v_z) rfl hKK hW hS rfl hl.1 rfl (Nat.le_of_ble_eq_true rfl) dX9_go_2 ⟨Nat.zero_le _, Nat.zero_le _⟩ (fun H locs hW hS hm1 hE => ?_)
    have v4 : zV S (9, r1, 0) = true := hE
    refine lv_astore_n (lv' := [(2, .ref (lo (9, r1, 0))), (0, .ref (lo (10, 0, 0))), (1, .int i_1)]) hx hb dX9_go_5 rfl hl (by decide) rfl (fun ls hl => ?_)
    refine lv_aload_n hx hb dX9_go_6 rfl (lv_at hl 1 rfl) ?_
    refine va_get hx hb hts ni_X9_go_X9 hown hKK.1 (wd_1 hW v_z) 0 rfl rfl 6 (by decide) (hts (.fieldLink RX9 43 "TiltRoute" "plan" "LTiltRoute$Plan;") (List.mem_of_getElem? (i := 3) rfl)) (fun _ h => h) rfl dX9_go_7 ?_
    have v5 : zV S (5, 0, 0) = true := vf_10_6 hW v_z
    refine lv_aload_n hx hb dX9_go_10 rfl (lv_at hl 1 rfl) ?_
    refine va_get hx hb hts ni_X9_go_X9 hown hKK.1 (wd_1 hW v_z) 0 rfl rfl 0 (by decide) (hts (.fieldLink RX9 12 "TiltRoute" "tables" "Ljava/util/ArrayList;") (List.mem_of_getElem? (i := 4) rfl)) (fun _ h => h) rfl dX9_go_11 ?_
    have v6 : zV S (0, 0, 0) = true := vf_10_0 hW v_z
    refine lv_aload_n hx hb dX9_go_14 rfl (lv_at hl 0 rfl) ?_
    refine va_get hx hb hts ni_X9_go_X8 hown hKK.1 (wd_1 hW v4) 0 rfl rfl 1 (by decide) (hts (.fieldLink RX9 246 "TiltRoute$Van" "site" "I") (List.mem_of_getElem? (i := 5) rfl)) (fun _ h => h) rfl dX9_go_15 ?_
    obtain ⟨S9, hc8, hf⟩ := op_cl hf
    refine z_callV (As := [.ref (lo (0, 0, 0)), .int (zI S (9, r1, 0) 1)]) (rest := []) ⟨hx, hb, hml, hown, hts⟩ (tX4_search l Γ lo S X v5 v6 hc8) (cwV 2 hts gX9_go_X4_search rfl rfl rfl (by decide +kernel) ⟨Nat.le_of_ble_eq_true rfl, Nat.le_of_ble_eq_true rfl⟩) (wd_1 hW v5) rfl hKK hW hS rfl hl.1 rfl (Nat.le_of_ble_eq_true rfl) dX9_go_18 ⟨Nat.zero_le _, Nat.zero_le _⟩ (fun H locs hW hS hm1 hE => ?_)
    have hm : ∀ c, zV S9 c = zV S c := hm1
    refine lv_aload_n hx hb dX9_go_21 rfl (lv_at hl 1 rfl) ?_
    refine va_get hx hb hts ni_X9_go_X9 hown hKK.1 (wd_1 hW ((hm _).trans v_z)) 0 rfl rfl 6 (by decide) (hts (.fieldLink RX9 43 "TiltRoute" "plan" "LTiltRoute$Plan;") (List.mem_of_getElem? (i := 3) rfl)) (fun _ h => h) rfl dX9_go_22 ?_
    have v10 : zV S (5, 0, 0) = true := (hm _).symm.trans (vf_10_6 hW ((hm _).trans v_z))
    refine va_get hx hb hts ni_X9_go_X4 hown hKK.1 (wd_1 hW ((hm _).trans v10)) 0 rfl rfl 3 (by decide) (hts (.fieldLink RX9 256 "TiltRoute$Plan" "count" "I") (List.mem_of_getElem? (i := 6) rfl)) (fun _ h => h) rfl dX9_go_25 ?_
    refine lv_if_ne (tgt := 42) hx hb dX9_go_28 (by decide) (fun k28 => ?_) (fun k28 => ?_)
    · have hf := (op_if hf).2 k28
      refine lv_iconst (v := (0)) hx hb dX9_go_42 (by decide) ?_
      obtain ⟨x11, ex11, hf⟩ := op_st hf
      have bx11 : x11 = 0 ∨ x11 = 1 := Or.inl ex11
      refine z_istn (lv' := [(3, .int x11), (2, .ref (lo (9, r1, 0))), (0, .ref (lo (10, 0, 0))), (1, .int i_1)]) ex11 hx hb dX9_go_43 rfl hl (by decide) rfl (fun ls hl => ?_)
      refine lv_iconst (v := (0)) hx hb dX9_go_44 (by decide) ?_
      obtain ⟨x12, ex12, hf⟩ := op_st hf
      have bx12 : x12 = 0 ∨ x12 = 1 := Or.inl ex12
      refine z_ist (lv' := [(4, .int x12), (3, .int x11), (2, .ref (lo (9, r1, 0))), (0, .ref (lo (10, 0, 0))), (1, .int i_1)]) ex12 hx hb dX9_go_45 hl (by decide) rfl (fun ls hl => ?_)
      obtain ⟨w15, q130, ew15, eq130, hf⟩ := op_lb hf
      have hw15 : ∀ n18 : Nat, ∀ (q13 : (Int32 × Int32 × zSt)) (H : Heap) (locs : List Loc) (ls : Array Slot), lv_has ls 6 [(4, .int q13.2.1), (3, .int q13.1), (2, .ref (lo (9, r1, 0))), (0, .ref (lo (10, 0, 0)))] → Wd Γ lo q13.2.2 X H → va_S (zA Γ) s.heap H locs → (∀ c, zV q13.2.2 c = zV S c) → lp w15 n18 q13 = some (Sum.inr y) → W p l e (headSpec wsX9_go rmX9_go).room s m ([.ref (lo (10, 0, 0)), .int i_1] : List Value).toArray below meth c H locs 0 0 (MQ below (zQ0 Γ lo S y.2 X (some (.int y.1)) True) ([.ref (lo (10, 0, 0)), .int i_1] : List Value).toArray s 0 0 (zA Γ)) (F0 m 47 ls []) := by
        intro n18
        induction n18 with
        | zero => intro q13 H locs ls hl hW hS hm hf; cases hf
        | succ n18 ih16 =>
          intro q13 H locs ls hl hW hS hm hf
          obtain ⟨n_, r14, hn_, hf, hr17⟩ := op_lq hf
          cases hn_
          rw [ew15] at hf
          refine lv_iload hx hb dX9_go_47 (lv_at hl 0 rfl) ?_
          refine lv_aload_n hx hb dX9_go_49 rfl (lv_at hl 3 rfl) ?_
          refine va_get hx hb hts ni_X9_go_X9 hown hKK.1 (wd_1 hW ((hm _).trans v_z)) 0 rfl rfl 6 (by decide) (hts (.fieldLink RX9 43 "TiltRoute" "plan" "LTiltRoute$Plan;") (List.mem_of_getElem? (i := 3) rfl)) (fun _ h => h) rfl dX9_go_50 ?_
          have v19 : zV S (5, 0, 0) = true := (hm _).symm.trans (vf_10_6 hW ((hm _).trans v_z))
          refine va_get hx hb hts ni_X9_go_X4 hown hKK.1 (wd_1 hW ((hm _).trans v19)) 0 rfl rfl 3 (by decide) (hts (.fieldLink RX9 256 "TiltRoute$Plan" "count" "I") (List.mem_of_getElem? (i := 6) rfl)) (fun _ h => h) rfl dX9_go_53 ?_
          refine lv_icmp_ge (tgt := 110) hx hb dX9_go_56 (by decide) (fun k56 => ?_) (fun k56 => ?_)
          · have hf := (op_if hf).1 k56
            refine lv_iload_n hx hb dX9_go_110 rfl (lv_at hl 1 rfl) ?_
            have hf := zr_r hf hr17
            have hf := Sum.inr.inj hf
            rw [← hf]
            exact z_iret hx hb hr hlocks rfl hW hS hm trivial dX9_go_111
          · have hf := (op_if hf).2 k56
            refine lv_aload_n hx hb dX9_go_59 rfl (lv_at hl 3 rfl) ?_
            refine lv_aload_n hx hb dX9_go_60 rfl (lv_at hl 3 rfl) ?_
            refine va_get hx hb hts ni_X9_go_X9 hown hKK.1 (wd_1 hW ((hm _).trans v_z)) 0 rfl rfl 6 (by decide) (hts (.fieldLink RX9 43 "TiltRoute" "plan" "LTiltRoute$Plan;") (List.mem_of_getElem? (i := 3) rfl)) (fun _ h => h) rfl dX9_go_61 ?_
            have v20 : zV S (5, 0, 0) = true := (hm _).symm.trans (vf_10_6 hW ((hm _).trans v_z))
            refine lv_iload hx hb dX9_go_64 (lv_at hl 0 rfl) ?_
            obtain ⟨r21, hc22, hf⟩ := op_cl hf
            refine z_callV (As := [.int q13.2.1]) (rest := [.ref (lo (10, 0, 0))]) ⟨hx, hb, hml, hown, hts⟩ (tX4_tableOf l Γ lo q13.2.2 X ((hm _).trans v20) hc22) (cwV 1 hts gX9_go_X4_tableOf rfl rfl rfl (by decide +kernel) ⟨Nat.le_of_ble_eq_true rfl, Nat.le_of_ble_eq_true rfl⟩) (wd_1 hW ((hm _).trans v20)) rfl hKK hW hS rfl hl.1 rfl (Nat.le_of_ble_eq_true rfl) dX9_go_66 ⟨Nat.zero_le _, Nat.zero_le _⟩ (fun H locs hW hS hm1 hE => ?_)
            rcases op_cxl hf with ⟨ee25, hc24, hf⟩ | ⟨r23, hc24, hf⟩
            · have hf := hf
              have hf := zr_r hf hr17
              cases hf
            · skip
              refine z_callV (As := [.int r21]) (rest := []) ⟨hx, hb, hml, hown, hts⟩ (tX9_demandTable l Γ lo q13.2.2 X ((hm _).trans v_z) hc24) (cwV 1 hts gX9_go_X9_demandTable rfl rfl rfl (by decide +kernel) ⟨Nat.le_of_ble_eq_true rfl, Nat.le_of_ble_eq_true rfl⟩) (wd_1 hW ((hm _).trans v_z)) rfl hKK hW hS rfl hl.1 rfl (Nat.le_of_ble_eq_true rfl) dX9_go_69 ⟨Nat.zero_le _, Nat.zero_le _⟩ (fun H locs hW hS hm1 hE => ?_)
              have v26 : zV S (8, r23, 0) = true := (hm _).symm.trans (hE)
              refine lv_astore (lv' := [(5, .ref (lo (8, r23, 0))), (4, .int q13.2.1), (3, .int q13.1), (2, .ref (lo (9, r1, 0))), (0, .ref (lo (10, 0, 0)))]) hx hb dX9_go_72 hl (by decide) rfl (fun ls hl => ?_)
              refine lv_iload_n hx hb dX9_go_74 rfl (lv_at hl 2 rfl) ?_
              refine lv_aload hx hb dX9_go_75 (lv_at hl 0 rfl) ?_
              obtain ⟨r27, S29, hc28, hf⟩ := op_cl2 hf
              refine z_callV (As := []) (rest := [.int q13.1]) ⟨hx, hb, hml, hown, hts⟩ (tX7_emptyBox l Γ lo q13.2.2 X ((hm _).trans v26) hc28) (cwV 0 hts gX9_go_X7_emptyBox rfl rfl rfl (by decide +kernel) ⟨Nat.le_of_ble_eq_true rfl, Nat.le_of_ble_eq_true rfl⟩) (wd_1 hW ((hm _).trans v26)) rfl hKK hW hS rfl hl.1 rfl (Nat.le_of_ble_eq_true rfl) dX9_go_77 ⟨Nat.zero_le _, Nat.zero_le _⟩ (fun H locs hW hS hm1 hE => ?_)
              have hm : ∀ c, zV S29 c = zV S c := fun c => (hm1 c).trans (hm c)
              refine lv_iadd hx hb dX9_go_80 ?_
              obtain ⟨x30, ex30, hf⟩ := op_st hf
              refine z_istn (lv' := [(3, .int x30), (5, .ref (lo (8, r23, 0))), (4, .int q13.2.1), (2, .ref (lo (9, r1, 0))), (0, .ref (lo (10, 0, 0)))]) ex30 hx hb dX9_go_81 rfl hl (by decide) rfl (fun ls hl => ?_)
              refine lv_aload_n hx hb dX9_go_82 rfl (lv_at hl 4 rfl) ?_
              refine lv_aload hx hb dX9_go_83 (lv_at hl 1 rfl) ?_
              refine lv_aload_n hx hb dX9_go_85 rfl (lv_at hl 3 rfl) ?_
              obtain ⟨S33, hc32, hf⟩ := op_cl hf
              refine z_callV (As := [.ref (lo (8, r23, 0)), .ref (lo (9, r1, 0))]) (rest := []) ⟨hx, hb, hml, hown, hts⟩ (tX9_mendSwitches l Γ lo S29 X ((hm _).trans v_z) ((hm _).trans v26) ((hm _).trans v4) hc32) (cwV 2 hts gX9_go_X9_mendSwitches rfl rfl rfl (by decide +kernel) ⟨Nat.le_of_ble_eq_true rfl, Nat.le_of_ble_eq_true rfl⟩) (wd_1 hW ((hm _).trans v_z)) rfl hKK hW hS rfl hl.1 rfl (Nat.le_of_ble_eq_true rfl) dX9_go_86 ⟨Nat.zero_le _, Nat.zero_le _⟩ (fun H locs hW hS hm1 hE => ?_)
              have hm : ∀ c, zV S33 c = zV S c := fun c => (hm1 c).trans (hm c)
              refine lv_aload hx hb dX9_go_89 (lv_at hl 1 rfl) ?_
              refine lv_aload_n hx hb dX9_go_91 rfl (lv_at hl 3 rfl) ?_
              obtain ⟨S36, hc35, hf⟩ := op_cl hf
              refine z_callS (As := [.ref (lo (8, r23, 0)), .ref (lo (9, r1, 0))]) (rest := []) ⟨hx, hb, hml, hown, hts⟩ (tX9_mendCoils l Γ lo S33 X ((hm _).trans v26) ((hm _).trans v4) hc35) (va_cwS 2 hts gX9_go_X9_mendCoils rfl rfl rfl (by decide +kernel) ⟨Nat.le_of_ble_eq_true rfl, Nat.le_of_ble_eq_true rfl⟩) hKK hW hS rfl hl.1 rfl (Nat.le_of_ble_eq_true rfl) dX9_go_92 ⟨Nat.zero_le _, Nat.zero_le _⟩ (fun H locs hW hS hm1 hE => ?_)
              have hm : ∀ c, zV S36 c = zV S c := fun c => (hm1 c).trans (hm c)
              refine lv_aload_n hx hb dX9_go_95 rfl (lv_at hl 3 rfl) ?_
              refine lv_aload hx hb dX9_go_96 (lv_at hl 1 rfl) ?_
              refine va_get hx hb hts ni_X9_go_X7 hown hKK.1 (wd_1 hW ((hm _).trans v26)) 0 rfl rfl 0 (by decide) (hts (.fieldLink RX9 274 "TiltRoute$Table" "site" "I") (List.mem_of_getElem? (i := 7) rfl)) (fun _ h => h) rfl dX9_go_98 ?_
              obtain ⟨S37, eS37, hf⟩ := op_st hf
              refine g_put hx hb hts ni_X9_go_X8 tyX8 tyX8_ok nmX8 hown hKK.1 hW hS ((hm _).trans v4) rfl rfl 1 (by decide) (hts (.fieldLink RX9 246 "TiltRoute$Van" "site" "I") (List.mem_of_getElem? (i := 5) rfl)) rfl rfl rfl (show 1 < 2 by decide) rfl dX9_go_101 eS37 (fun H locs hW hS => ?_)
              have hm : ∀ c, zV S37 c = zV S c := fun c => by rw [eS37]; exact hm c
              obtain ⟨x38, ex38, hf⟩ := op_st hf
              refine lv_iinc (v := x38) (lv' := [(4, .int x38), (3, .int x30), (5, .ref (lo (8, r23, 0))), (2, .ref (lo (9, r1, 0))), (0, .ref (lo (10, 0, 0)))]) hx hb dX9_go_104 hl (k := 2) rfl (by rw [ex38]; rfl) (by decide) rfl (fun ls hl => ?_)
              refine lv_goto (tgt := 47) hx hb dX9_go_107 (by decide) ?_
              have hf := zr_l hf hr17
              exact ih16 (x30, x38, S37) H locs ls (lv_sub hl [0, 1, 3, 4] rfl) hW hS hm hf
      rw [eq130] at hf
      exact hw15 _ (x11, x12, S9) H locs ls (lv_sub hl [0, 1, 2, 3] rfl) hW hS hm hf
    · have hf := (op_if hf).1 k28
      have hf := Option.some.inj hf
      cases hf
theorem xs_X9_go_31 : ∀ w ∈ (vx_atS "TiltRoute" 67 (zEx 3) zXn).filter goodWord, w ∈ wsX9_go := by decide +kernel
theorem xs_X9_go_31b : ∀ w ∈ (vx_atS "TiltRoute" 67 (zEx 3) zXn).filter (fun w => !goodWord w), w ∈ [Cond.castable (zEx 3) (zEx 3), .declares (Bundle.initS "java/lang/RuntimeException"), .declares (Bundle.initS "java/lang/Exception"), .declares (Bundle.initS Bundle.tN)] := by decide +kernel
theorem xs_X9_go_31c : ∀ w ∈ Cond.classLink "TiltRoute" 63 (zEx 3) :: Cond.initialized (zEx 3) :: vx_atS "TiltRoute" 67 (zEx 3) zXn, vx_ot w = true := by decide +kernel
abbrev rnX9_go : Room := { frames := 7, cells := 1, slots := 6, locals := 155 }
set_option maxHeartbeats 4000000 in
set_option maxRecDepth 100000 in
theorem uX9_go (l : Launch) (hl0 : l.stackTraces = false) (Γ : zG) (lo : zId → Nat) (S : zSt) (X : va_W) {i_1 : Int32} (v_z : zV S (10, 0, 0) = true) {ee : Nat × zSt} (hf : fX9_go S i_1 = some (Sum.inl ee)) : vx_Met l yX9_go wsX9_go rnX9_go (zP1 Γ lo S X [.ref (lo (10, 0, 0)), .int i_1]) zF (zT Γ lo S X ee) 1 6 (zA Γ) := by
  refine vx_ofW (cc := cX9_go) (maxL := 6) (ret := (some .int)) (by decide) rfl ?_
  intro p e s m args below meth c s₁ B hml ht hv
  obtain ⟨rfl, hW, hKK, hKX⟩ := hv
  have hx := B.exec
  have hb := B.bytes
  have hr := B.returns
  have hts := atoms_spec (ws := wsX9_go) B.pre
  have hown : s.vm.findClass RX9 = some m.cls := findClass_of_methodNamed B.named
  have hlocks := B.notSynchronized
  have hS : va_S (zA Γ) s.heap s.heap [] := va_S.rf
  have hm : ∀ c, zV S c = zV S c := fun _ => rfl
  have hl := lv_entry ([.ref (lo (10, 0, 0)), .int i_1]) (n := 6) (Nat.le_of_ble_eq_true rfl)
  rw [lg_entry_eq]
  generalize (lg_sl ([.ref (lo (10, 0, 0)), .int i_1]) ++ List.replicate (6 - (lg_sl ([.ref (lo (10, 0, 0)), .int i_1])).length) Slot.unset).toArray = ls at hl ⊢
  have hl : lv_has ls 6 [(0, .ref (lo (10, 0, 0))), (1, .int i_1)] := hl
  obtain ⟨H, hH0⟩ : ∃ H, H = s.heap := ⟨_, rfl⟩
  obtain ⟨locs, hlo0⟩ : ∃ L : List Loc, L = [] := ⟨_, rfl⟩
  have hS : va_S (zA Γ) s.heap H locs := by rw [hH0, hlo0]; exact hS
  have hW : Wd Γ lo S X H := by rw [hH0]; exact hW
  rw [← hH0, ← hlo0]
  unfold fX9_go at hf
  refine lv_aload_n hx hb dX9_go_0 rfl (lv_at hl 0 rfl) ?_
  refine lv_iload_n hx hb dX9_go_1 rfl (lv_at hl 1 rfl) ?_
  rcases op_cx hf with ⟨ee3, hc2, hf⟩ | ⟨r1, hc2, hf⟩
  · have hf := congrArg some hf
    have hf := Option.some.inj hf
    have hf := Sum.inl.inj hf
    rw [← hf]
    exact zx_callV (As := [.int i_1]) (rest := []) ⟨hx, hb, hml, hown, hts⟩ (uX9_demandVan l hl0 Γ lo S X v_z hc2) (cwV 1 hts gX9_go_X9_demandVan rfl rfl rfl (by decide +kernel) ⟨Nat.le_of_ble_eq_true rfl, Nat.le_of_ble_eq_true rfl⟩) (wd_1 hW v_z) rfl hKK hKX hW hS hm rfl hl.1 rfl (Nat.le_of_ble_eq_true rfl) dX9_go_2 ⟨Nat.le_of_ble_eq_true rfl, Nat.le_of_ble_eq_true rfl⟩ ht hlocks
  · skip
    refine z_callV (As := [.int i_1]) (rest := []) ⟨hx, hb, hml, hown, hts⟩ (tX9_demandVan l Γ lo S X v_z hc2) (cwV 1 hts gX9_go_X9_demandVan rfl rfl rfl (by decide +kernel) ⟨Nat.le_of_ble_eq_true rfl, Nat.le_of_ble_eq_true rfl⟩) (wd_1 hW v_z) rfl hKK hW hS rfl hl.1 rfl (Nat.le_of_ble_eq_true rfl) dX9_go_2 ⟨Nat.zero_le _, Nat.zero_le _⟩ (fun H locs hW hS hm1 hE => ?_)
    have v4 : zV S (9, r1, 0) = true := hE
    refine lv_astore_n (lv' := [(2, .ref (lo (9, r1, 0))), (0, .ref (lo (10, 0, 0))), (1, .int i_1)]) hx hb dX9_go_5 rfl hl (by decide) rfl (fun ls hl => ?_)
    refine lv_aload_n hx hb dX9_go_6 rfl (lv_at hl 1 rfl) ?_
    refine va_get hx hb hts ni_X9_go_X9 hown hKK.1 (wd_1 hW v_z) 0 rfl rfl 6 (by decide) (hts (.fieldLink RX9 43 "TiltRoute" "plan" "LTiltRoute$Plan;") (List.mem_of_getElem? (i := 3) rfl)) (fun _ h => h) rfl dX9_go_7 ?_
    have v5 : zV S (5, 0, 0) = true := vf_10_6 hW v_z
    refine lv_aload_n hx hb dX9_go_10 rfl (lv_at hl 1 rfl) ?_
    refine va_get hx hb hts ni_X9_go_X9 hown hKK.1 (wd_1 hW v_z) 0 rfl rfl 0 (by decide) (hts (.fieldLink RX9 12 "TiltRoute" "tables" "Ljava/util/ArrayList;") (List.mem_of_getElem? (i := 4) rfl)) (fun _ h => h) rfl dX9_go_11 ?_
    have v6 : zV S (0, 0, 0) = true := vf_10_0 hW v_z
    refine lv_aload_n hx hb dX9_go_14 rfl (lv_at hl 0 rfl) ?_
    refine va_get hx hb hts ni_X9_go_X8 hown hKK.1 (wd_1 hW v4) 0 rfl rfl 1 (by decide) (hts (.fieldLink RX9 246 "TiltRoute$Van" "site" "I") (List.mem_of_getElem? (i := 5) rfl)) (fun _ h => h) rfl dX9_go_15 ?_
    obtain ⟨S9, hc8, hf⟩ := op_cl hf
    refine z_callV (As := [.ref (lo (0, 0, 0)), .int (zI S (9, r1, 0) 1)]) (rest := []) ⟨hx, hb, hml, hown, hts⟩ (tX4_search l Γ lo S X v5 v6 hc8) (cwV 2 hts gX9_go_X4_search rfl rfl rfl (by decide +kernel) ⟨Nat.le_of_ble_eq_true rfl, Nat.le_of_ble_eq_true rfl⟩) (wd_1 hW v5) rfl hKK hW hS rfl hl.1 rfl (Nat.le_of_ble_eq_true rfl) dX9_go_18 ⟨Nat.zero_le _, Nat.zero_le _⟩ (fun H locs hW hS hm1 hE => ?_)
    have hm : ∀ c, zV S9 c = zV S c := hm1
    refine lv_aload_n hx hb dX9_go_21 rfl (lv_at hl 1 rfl) ?_
    refine va_get hx hb hts ni_X9_go_X9 hown hKK.1 (wd_1 hW ((hm _).trans v_z)) 0 rfl rfl 6 (by decide) (hts (.fieldLink RX9 43 "TiltRoute" "plan" "LTiltRoute$Plan;") (List.mem_of_getElem? (i := 3) rfl)) (fun _ h => h) rfl dX9_go_22 ?_
    have v10 : zV S (5, 0, 0) = true := (hm _).symm.trans (vf_10_6 hW ((hm _).trans v_z))
    refine va_get hx hb hts ni_X9_go_X4 hown hKK.1 (wd_1 hW ((hm _).trans v10)) 0 rfl rfl 3 (by decide) (hts (.fieldLink RX9 256 "TiltRoute$Plan" "count" "I") (List.mem_of_getElem? (i := 6) rfl)) (fun _ h => h) rfl dX9_go_25 ?_
    refine lv_if_ne (tgt := 42) hx hb dX9_go_28 (by decide) (fun k28 => ?_) (fun k28 => ?_)
    · have hf := (op_if hf).2 k28
      refine lv_iconst (v := (0)) hx hb dX9_go_42 (by decide) ?_
      obtain ⟨x11, ex11, hf⟩ := op_st hf
      have bx11 : x11 = 0 ∨ x11 = 1 := Or.inl ex11
      refine z_istn (lv' := [(3, .int x11), (2, .ref (lo (9, r1, 0))), (0, .ref (lo (10, 0, 0))), (1, .int i_1)]) ex11 hx hb dX9_go_43 rfl hl (by decide) rfl (fun ls hl => ?_)
      refine lv_iconst (v := (0)) hx hb dX9_go_44 (by decide) ?_
      obtain ⟨x12, ex12, hf⟩ := op_st hf
      have bx12 : x12 = 0 ∨ x12 = 1 := Or.inl ex12
      refine z_ist (lv' := [(4, .int x12), (3, .int x11), (2, .ref (lo (9, r1, 0))), (0, .ref (lo (10, 0, 0))), (1, .int i_1)]) ex12 hx hb dX9_go_45 hl (by decide) rfl (fun ls hl => ?_)
      obtain ⟨w15, q130, ew15, eq130, hf⟩ := op_lb hf
      have hw15 : ∀ n18 : Nat, ∀ (q13 : (Int32 × Int32 × zSt)) (H : Heap) (locs : List Loc) (ls : Array Slot), lv_has ls 6 [(4, .int q13.2.1), (3, .int q13.1), (2, .ref (lo (9, r1, 0))), (0, .ref (lo (10, 0, 0)))] → Wd Γ lo q13.2.2 X H → va_S (zA Γ) s.heap H locs → (∀ c, zV q13.2.2 c = zV S c) → lp w15 n18 q13 = some (Sum.inl ee) → W p l e (headSpec wsX9_go rnX9_go).room s m ([.ref (lo (10, 0, 0)), .int i_1] : List Value).toArray below meth c H locs 0 0 (vx_MQ below zF (zT Γ lo S X ee) ([.ref (lo (10, 0, 0)), .int i_1] : List Value).toArray s 1 6 (zA Γ)) (F0 m 47 ls []) := by
        intro n18
        induction n18 with
        | zero => intro q13 H locs ls hl hW hS hm hf; cases hf
        | succ n18 ih16 =>
          intro q13 H locs ls hl hW hS hm hf
          obtain ⟨n_, r14, hn_, hf, hr17⟩ := op_lq hf
          cases hn_
          rw [ew15] at hf
          refine lv_iload hx hb dX9_go_47 (lv_at hl 0 rfl) ?_
          refine lv_aload_n hx hb dX9_go_49 rfl (lv_at hl 3 rfl) ?_
          refine va_get hx hb hts ni_X9_go_X9 hown hKK.1 (wd_1 hW ((hm _).trans v_z)) 0 rfl rfl 6 (by decide) (hts (.fieldLink RX9 43 "TiltRoute" "plan" "LTiltRoute$Plan;") (List.mem_of_getElem? (i := 3) rfl)) (fun _ h => h) rfl dX9_go_50 ?_
          have v19 : zV S (5, 0, 0) = true := (hm _).symm.trans (vf_10_6 hW ((hm _).trans v_z))
          refine va_get hx hb hts ni_X9_go_X4 hown hKK.1 (wd_1 hW ((hm _).trans v19)) 0 rfl rfl 3 (by decide) (hts (.fieldLink RX9 256 "TiltRoute$Plan" "count" "I") (List.mem_of_getElem? (i := 6) rfl)) (fun _ h => h) rfl dX9_go_53 ?_
          refine lv_icmp_ge (tgt := 110) hx hb dX9_go_56 (by decide) (fun k56 => ?_) (fun k56 => ?_)
          · have hf := (op_if hf).1 k56
            refine lv_iload_n hx hb dX9_go_110 rfl (lv_at hl 1 rfl) ?_
            have hf := zr_r hf hr17
            cases hf
          · have hf := (op_if hf).2 k56
            refine lv_aload_n hx hb dX9_go_59 rfl (lv_at hl 3 rfl) ?_
            refine lv_aload_n hx hb dX9_go_60 rfl (lv_at hl 3 rfl) ?_
            refine va_get hx hb hts ni_X9_go_X9 hown hKK.1 (wd_1 hW ((hm _).trans v_z)) 0 rfl rfl 6 (by decide) (hts (.fieldLink RX9 43 "TiltRoute" "plan" "LTiltRoute$Plan;") (List.mem_of_getElem? (i := 3) rfl)) (fun _ h => h) rfl dX9_go_61 ?_
            have v20 : zV S (5, 0, 0) = true := (hm _).symm.trans (vf_10_6 hW ((hm _).trans v_z))
            refine lv_iload hx hb dX9_go_64 (lv_at hl 0 rfl) ?_
            obtain ⟨r21, hc22, hf⟩ := op_cl hf
            refine z_callV (As := [.int q13.2.1]) (rest := [.ref (lo (10, 0, 0))]) ⟨hx, hb, hml, hown, hts⟩ (tX4_tableOf l Γ lo q13.2.2 X ((hm _).trans v20) hc22) (cwV 1 hts gX9_go_X4_tableOf rfl rfl rfl (by decide +kernel) ⟨Nat.le_of_ble_eq_true rfl, Nat.le_of_ble_eq_true rfl⟩) (wd_1 hW ((hm _).trans v20)) rfl hKK hW hS rfl hl.1 rfl (Nat.le_of_ble_eq_true rfl) dX9_go_66 ⟨Nat.zero_le _, Nat.zero_le _⟩ (fun H locs hW hS hm1 hE => ?_)
            rcases op_cxl hf with ⟨ee25, hc24, hf⟩ | ⟨r23, hc24, hf⟩
            · have hf := hf
              have hf := zr_r hf hr17
              have hf := Sum.inl.inj hf
              rw [← hf]
              exact zx_callV (As := [.int r21]) (rest := []) ⟨hx, hb, hml, hown, hts⟩ (uX9_demandTable l hl0 Γ lo q13.2.2 X ((hm _).trans v_z) hc24) (cwV 1 hts gX9_go_X9_demandTable rfl rfl rfl (by decide +kernel) ⟨Nat.le_of_ble_eq_true rfl, Nat.le_of_ble_eq_true rfl⟩) (wd_1 hW ((hm _).trans v_z)) rfl hKK hKX hW hS hm rfl hl.1 rfl (Nat.le_of_ble_eq_true rfl) dX9_go_69 ⟨Nat.le_of_ble_eq_true rfl, Nat.le_of_ble_eq_true rfl⟩ ht hlocks
            · skip
              refine z_callV (As := [.int r21]) (rest := []) ⟨hx, hb, hml, hown, hts⟩ (tX9_demandTable l Γ lo q13.2.2 X ((hm _).trans v_z) hc24) (cwV 1 hts gX9_go_X9_demandTable rfl rfl rfl (by decide +kernel) ⟨Nat.le_of_ble_eq_true rfl, Nat.le_of_ble_eq_true rfl⟩) (wd_1 hW ((hm _).trans v_z)) rfl hKK hW hS rfl hl.1 rfl (Nat.le_of_ble_eq_true rfl) dX9_go_69 ⟨Nat.zero_le _, Nat.zero_le _⟩ (fun H locs hW hS hm1 hE => ?_)
              have v26 : zV S (8, r23, 0) = true := (hm _).symm.trans (hE)
              refine lv_astore (lv' := [(5, .ref (lo (8, r23, 0))), (4, .int q13.2.1), (3, .int q13.1), (2, .ref (lo (9, r1, 0))), (0, .ref (lo (10, 0, 0)))]) hx hb dX9_go_72 hl (by decide) rfl (fun ls hl => ?_)
              refine lv_iload_n hx hb dX9_go_74 rfl (lv_at hl 2 rfl) ?_
              refine lv_aload hx hb dX9_go_75 (lv_at hl 0 rfl) ?_
              obtain ⟨r27, S29, hc28, hf⟩ := op_cl2 hf
              refine z_callV (As := []) (rest := [.int q13.1]) ⟨hx, hb, hml, hown, hts⟩ (tX7_emptyBox l Γ lo q13.2.2 X ((hm _).trans v26) hc28) (cwV 0 hts gX9_go_X7_emptyBox rfl rfl rfl (by decide +kernel) ⟨Nat.le_of_ble_eq_true rfl, Nat.le_of_ble_eq_true rfl⟩) (wd_1 hW ((hm _).trans v26)) rfl hKK hW hS rfl hl.1 rfl (Nat.le_of_ble_eq_true rfl) dX9_go_77 ⟨Nat.zero_le _, Nat.zero_le _⟩ (fun H locs hW hS hm1 hE => ?_)
              have hm : ∀ c, zV S29 c = zV S c := fun c => (hm1 c).trans (hm c)
              refine lv_iadd hx hb dX9_go_80 ?_
              obtain ⟨x30, ex30, hf⟩ := op_st hf
              refine z_istn (lv' := [(3, .int x30), (5, .ref (lo (8, r23, 0))), (4, .int q13.2.1), (2, .ref (lo (9, r1, 0))), (0, .ref (lo (10, 0, 0)))]) ex30 hx hb dX9_go_81 rfl hl (by decide) rfl (fun ls hl => ?_)
              refine lv_aload_n hx hb dX9_go_82 rfl (lv_at hl 4 rfl) ?_
              refine lv_aload hx hb dX9_go_83 (lv_at hl 1 rfl) ?_
              refine lv_aload_n hx hb dX9_go_85 rfl (lv_at hl 3 rfl) ?_
              obtain ⟨S33, hc32, hf⟩ := op_cl hf
              refine z_callV (As := [.ref (lo (8, r23, 0)), .ref (lo (9, r1, 0))]) (rest := []) ⟨hx, hb, hml, hown, hts⟩ (tX9_mendSwitches l Γ lo S29 X ((hm _).trans v_z) ((hm _).trans v26) ((hm _).trans v4) hc32) (cwV 2 hts gX9_go_X9_mendSwitches rfl rfl rfl (by decide +kernel) ⟨Nat.le_of_ble_eq_true rfl, Nat.le_of_ble_eq_true rfl⟩) (wd_1 hW ((hm _).trans v_z)) rfl hKK hW hS rfl hl.1 rfl (Nat.le_of_ble_eq_true rfl) dX9_go_86 ⟨Nat.zero_le _, Nat.zero_le _⟩ (fun H locs hW hS hm1 hE => ?_)
              have hm : ∀ c, zV S33 c = zV S c := fun c => (hm1 c).trans (hm c)
              refine lv_aload hx hb dX9_go_89 (lv_at hl 1 rfl) ?_
              refine lv_aload_n hx hb dX9_go_91 rfl (lv_at hl 3 rfl) ?_
              obtain ⟨S36, hc35, hf⟩ := op_cl hf
              refine z_callS (As := [.ref (lo (8, r23, 0)), .ref (lo (9, r1, 0))]) (rest := []) ⟨hx, hb, hml, hown, hts⟩ (tX9_mendCoils l Γ lo S33 X ((hm _).trans v26) ((hm _).trans v4) hc35) (va_cwS 2 hts gX9_go_X9_mendCoils rfl rfl rfl (by decide +kernel) ⟨Nat.le_of_ble_eq_true rfl, Nat.le_of_ble_eq_true rfl⟩) hKK hW hS rfl hl.1 rfl (Nat.le_of_ble_eq_true rfl) dX9_go_92 ⟨Nat.zero_le _, Nat.zero_le _⟩ (fun H locs hW hS hm1 hE => ?_)
              have hm : ∀ c, zV S36 c = zV S c := fun c => (hm1 c).trans (hm c)
              refine lv_aload_n hx hb dX9_go_95 rfl (lv_at hl 3 rfl) ?_
              refine lv_aload hx hb dX9_go_96 (lv_at hl 1 rfl) ?_
              refine va_get hx hb hts ni_X9_go_X7 hown hKK.1 (wd_1 hW ((hm _).trans v26)) 0 rfl rfl 0 (by decide) (hts (.fieldLink RX9 274 "TiltRoute$Table" "site" "I") (List.mem_of_getElem? (i := 7) rfl)) (fun _ h => h) rfl dX9_go_98 ?_
              obtain ⟨S37, eS37, hf⟩ := op_st hf
              refine g_put hx hb hts ni_X9_go_X8 tyX8 tyX8_ok nmX8 hown hKK.1 hW hS ((hm _).trans v4) rfl rfl 1 (by decide) (hts (.fieldLink RX9 246 "TiltRoute$Van" "site" "I") (List.mem_of_getElem? (i := 5) rfl)) rfl rfl rfl (show 1 < 2 by decide) rfl dX9_go_101 eS37 (fun H locs hW hS => ?_)
              have hm : ∀ c, zV S37 c = zV S c := fun c => by rw [eS37]; exact hm c
              obtain ⟨x38, ex38, hf⟩ := op_st hf
              refine lv_iinc (v := x38) (lv' := [(4, .int x38), (3, .int x30), (5, .ref (lo (8, r23, 0))), (2, .ref (lo (9, r1, 0))), (0, .ref (lo (10, 0, 0)))]) hx hb dX9_go_104 hl (k := 2) rfl (by rw [ex38]; rfl) (by decide) rfl (fun ls hl => ?_)
              refine lv_goto (tgt := 47) hx hb dX9_go_107 (by decide) ?_
              have hf := zr_l hf hr17
              exact ih16 (x30, x38, S37) H locs ls (lv_sub hl [0, 1, 3, 4] rfl) hW hS hm hf
      rw [eq130] at hf
      exact hw15 _ (x11, x12, S9) H locs ls (lv_sub hl [0, 1, 2, 3] rfl) hW hS hm hf
    · have hf := (op_if hf).1 k28
      have hf := Option.some.inj hf
      have hf := Sum.inl.inj hf
      rw [← hf]
      exact zx_thrW (ee := (3, S9)) hx hb hl0 hts hown (hts (.classLink RX9 63 "java/lang/IllegalStateException") (List.mem_of_getElem? (i := 1) rfl)) (hts (.initialized "java/lang/IllegalStateException") (List.mem_of_getElem? (i := 2) rfl)) (List.mem_of_getElem? (i := 8) rfl) xs_X9_go_31 xs_X9_go_31b (show Bundle.fit (zEx 3) = true by decide) xs_X9_go_31c hKK hKX hS (hl.1.trans hml.symm) dX9_go_31 dX9_go_34 dX9_go_35 dX9_go_38 dX9_go_41 ht (Nat.le_of_ble_eq_true rfl) (Nat.le_of_ble_eq_true rfl) (Nat.le_of_ble_eq_true rfl) (Nat.le_of_ble_eq_true rfl) hlocks hW hm

