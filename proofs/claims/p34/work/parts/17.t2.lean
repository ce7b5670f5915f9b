theorem ni_X9_vanAt_X8 : ∀ w ∈ wsX80, w ∈ wsX9_vanAt := by decide +kernel
def fX9_vanAt (S : zSt) (i_1 : Int32) : Option ((Nat × zSt) ⊕ Int32) :=
cx (fX9_demandVan S i_1) fun r1 =>
some (.inr (zI S (9, r1, 0) 1))
abbrev rmX9_vanAt : Room := { frames := 1, cells := 0, slots := 0, locals := 21 }
set_option maxHeartbeats 4000000 in
set_option maxRecDepth 100000 in
theorem tX9_vanAt (l : Launch) (Γ : zG) (lo : zId → Nat) (S : zSt) (X : va_W) {i_1 : Int32} (v_z : zV S (10, 0, 0) = true) {y : Int32} (hf : fX9_vanAt S i_1 = some (Sum.inr y)) : Met l yX9_vanAt wsX9_vanAt rmX9_vanAt (zP0 Γ lo S X [.ref (lo (10, 0, 0)), .int i_1]) (zQ0 Γ lo S S X (some (.int y)) True) 0 0 (zA Γ) := by
  refine Met.ofW (cc := cX9_vanAt) (maxL := 2) (ret := (some .int)) (by decide) rfl ?_
  intro p e s m args below meth c s₁ B hml hv
  obtain ⟨rfl, hW, hKK⟩ := hv
  have hx := B.exec
  have hb := B.bytes
  have hr := B.returns
  have hts := atoms_spec (ws := wsX9_vanAt) B.pre
  have hown : s.vm.findClass RX9 = some m.cls := findClass_of_methodNamed B.named
  have hlocks := B.notSynchronized
  have hS : va_S (zA Γ) s.heap s.heap [] := va_S.rf
  have hm : ∀ c, zV S c = zV S c := fun _ => rfl
  have hl := lv_entry ([.ref (lo (10, 0, 0)), .int i_1]) (n := 2) (Nat.le_of_ble_eq_true rfl)
  rw [lg_entry_eq]
  generalize (lg_sl ([.ref (lo (10, 0, 0)), .int i_1]) ++ List.replicate (2 - (lg_sl ([.ref (lo (10, 0, 0)), .int i_1])).length) Slot.unset).toArray = ls at hl ⊢
  have hl : lv_has ls 2 [(0, .ref (lo (10, 0, 0))), (1, .int i_1)] := hl
  obtain ⟨H, hH0⟩ : ∃ H, H = s.heap := ⟨_, rfl⟩
  obtain ⟨locs, hlo0⟩ : ∃ L : List Loc, L = [] := ⟨_, rfl⟩
  have hS : va_S (zA Γ) s.heap H locs := by rw [hH0, hlo0]; exact hS
  have hW : Wd Γ lo S X H := by rw [hH0]; exact hW
  rw [← hH0, ← hlo0]
  unfold fX9_vanAt at hf
  refine lv_aload_n hx hb dX9_vanAt_0 rfl (lv_at hl 0 rfl) ?_
  refine lv_iload_n hx hb dX9_vanAt_1 rfl (lv_at hl 1 rfl) ?_
  rcases op_cx hf with ⟨ee3, hc2, hf⟩ | ⟨r1, hc2, hf⟩
  · have hf := congrArg some hf
    have hf := Option.some.inj hf
    cases hf
  · skip
    refine z_callV (As := [.int i_1]) (rest := []) ⟨hx, hb, hml, hown, hts⟩ (tX9_demandVan l Γ lo S X v_z hc2) (cwV 1 hts gX9_vanAt_X9_demandVan rfl rfl rfl (by decide +kernel) ⟨Nat.le_of_ble_eq_true rfl, Nat.le_of_ble_eq_true rfl⟩) (wd_1 hW v_z) rfl hKK hW hS rfl hl.1 rfl (Nat.le_of_ble_eq_true rfl) dX9_vanAt_2 ⟨Nat.zero_le _, Nat.zero_le _⟩ (fun H locs hW hS hm1 hE => ?_)
    have v4 : zV S (9, r1, 0) = true := hE
    refine va_get hx hb hts ni_X9_vanAt_X8 hown hKK.1 (wd_1 hW v4) 0 rfl rfl 1 (by decide) (hts (.fieldLink RX9 246 "TiltRoute$Van" "site" "I") (List.mem_of_getElem? (i := 1) rfl)) (fun _ h => h) rfl dX9_vanAt_5 ?_
    have hf := Option.some.inj hf
    have hf := Sum.inr.inj hf
    rw [← hf]
    exact z_iret hx hb hr hlocks rfl hW hS hm trivial dX9_vanAt_8
abbrev rnX9_vanAt : Room := { frames := 7, cells := 1, slots := 6, locals := 103 }
set_option maxHeartbeats 4000000 in
set_option maxRecDepth 100000 in
theorem uX9_vanAt (l : Launch) (hl0 : l.stackTraces = false) (Γ : zG) (lo : zId → Nat) (S : zSt) (X : va_W) {i_1 : Int32} (v_z : zV S (10, 0, 0) = true) {ee : Nat × zSt} (hf : fX9_vanAt S i_1 = some (Sum.inl ee)) : vx_Met l yX9_vanAt wsX9_vanAt rnX9_vanAt (zP1 Γ lo S X [.ref (lo (10, 0, 0)), .int i_1]) zF (zT Γ lo S X ee) 1 6 (zA Γ) := by
  refine vx_ofW (cc := cX9_vanAt) (maxL := 2) (ret := (some .int)) (by decide) rfl ?_
  intro p e s m args below meth c s₁ B hml ht hv
  obtain ⟨rfl, hW, hKK, hKX⟩ := hv
  have hx := B.exec
  have hb := B.bytes
  have hr := B.returns
  have hts := atoms_spec (ws := wsX9_vanAt) B.pre
  have hown : s.vm.findClass RX9 = some m.cls := findClass_of_methodNamed B.named
  have hlocks := B.notSynchronized
  have hS : va_S (zA Γ) s.heap s.heap [] := va_S.rf
  have hm : ∀ c, zV S c = zV S c := fun _ => rfl
  have hl := lv_entry ([.ref (lo (10, 0, 0)), .int i_1]) (n := 2) (Nat.le_of_ble_eq_true rfl)
  rw [lg_entry_eq]
  generalize (lg_sl ([.ref (lo (10, 0, 0)), .int i_1]) ++ List.replicate (2 - (lg_sl ([.ref (lo (10, 0, 0)), .int i_1])).length) Slot.unset).toArray = ls at hl ⊢
  have hl : lv_has ls 2 [(0, .ref (lo (10, 0, 0))), (1, .int i_1)] := hl
  obtain ⟨H, hH0⟩ : ∃ H, H = s.heap := ⟨_, rfl⟩
  obtain ⟨locs, hlo0⟩ : ∃ L : List Loc, L = [] := ⟨_, rfl⟩
  have hS : va_S (zA Γ) s.heap H locs := by rw [hH0, hlo0]; exact hS
  have hW : Wd Γ lo S X H := by rw [hH0]; exact hW
  rw [← hH0, ← hlo0]
  unfold fX9_vanAt at hf
  refine lv_aload_n hx hb dX9_vanAt_0 rfl (lv_at hl 0 rfl) ?_
  refine lv_iload_n hx hb dX9_vanAt_1 rfl (lv_at hl 1 rfl) ?_
  rcases op_cx hf with ⟨ee3, hc2, hf⟩ | ⟨r1, hc2, hf⟩
  · have hf := congrArg some hf
    have hf := Option.some.inj hf
    have hf := Sum.inl.inj hf
    rw [← hf]
    exact zx_callV (As := [.int i_1]) (rest := []) ⟨hx, hb, hml, hown, hts⟩ (uX9_demandVan l hl0 Γ lo S X v_z hc2) (cwV 1 hts gX9_vanAt_X9_demandVan rfl rfl rfl (by decide +kernel) ⟨Nat.le_of_ble_eq_true rfl, Nat.le_of_ble_eq_true rfl⟩) (wd_1 hW v_z) rfl hKK hKX hW hS hm rfl hl.1 rfl (Nat.le_of_ble_eq_true rfl) dX9_vanAt_2 ⟨Nat.le_of_ble_eq_true rfl, Nat.le_of_ble_eq_true rfl⟩ ht hlocks
  · skip
    refine z_callV (As := [.int i_1]) (rest := []) ⟨hx, hb, hml, hown, hts⟩ (tX9_demandVan l Γ lo S X v_z hc2) (cwV 1 hts gX9_vanAt_X9_demandVan rfl rfl rfl (by decide +kernel) ⟨Nat.le_of_ble_eq_true rfl, Nat.le_of_ble_eq_true rfl⟩) (wd_1 hW v_z) rfl hKK hW hS rfl hl.1 rfl (Nat.le_of_ble_eq_true rfl) dX9_vanAt_2 ⟨Nat.zero_le _, Nat.zero_le _⟩ (fun H locs hW hS hm1 hE => ?_)
    have v4 : zV S (9, r1, 0) = true := hE
    refine va_get hx hb hts ni_X9_vanAt_X8 hown hKK.1 (wd_1 hW v4) 0 rfl rfl 1 (by decide) (hts (.fieldLink RX9 246 "TiltRoute$Van" "site" "I") (List.mem_of_getElem? (i := 1) rfl)) (fun _ h => h) rfl dX9_vanAt_5 ?_
    have hf := Option.some.inj hf
    cases hf

