def cxl {α β σ : Type} (o : Option ((Nat × zSt) ⊕ α)) (k : α → Option (σ ⊕ ((Nat × zSt) ⊕ β))) : Option (σ ⊕ ((Nat × zSt) ⊕ β)) := match o with
  | none => none
  | some (.inl e) => some (.inr (.inl e))
  | some (.inr a) => k a
theorem op_cxl {α β σ : Type} {o : Option ((Nat × zSt) ⊕ α)} {k : α → Option (σ ⊕ ((Nat × zSt) ⊕ β))} {y : σ ⊕ ((Nat × zSt) ⊕ β)} (h : cxl o k = some y) : (∃ e, o = some (.inl e) ∧ some (Sum.inr (Sum.inl e)) = some y) ∨ ∃ a, o = some (.inr a) ∧ k a = some y := by
  cases o with
  | none => cases h
  | some r =>
    cases r with
    | inl e => exact Or.inl ⟨e, rfl, h⟩
    | inr a => exact Or.inr ⟨a, rfl, h⟩
theorem ni_X9_tables_X9 : ∀ w ∈ wsX90, w ∈ wsX9_tables := by decide +kernel
def fX9_tables (S : zSt)  : Option Int32 :=
cl (fJ_size S 0) fun r2 =>
some (r2)
abbrev rmX9_tables : Room := { frames := 1, cells := 0, slots := 0, locals := 20 }
set_option maxHeartbeats 4000000 in
set_option maxRecDepth 100000 in
theorem tX9_tables (l : Launch) (Γ : zG) (lo : zId → Nat) (S : zSt) (X : va_W)  (v_z : zV S (10, 0, 0) = true) {y : Int32} (hf : fX9_tables S  = some y) : Met l yX9_tables wsX9_tables rmX9_tables (zP0 Γ lo S X [.ref (lo (10, 0, 0))]) (zQ0 Γ lo S S X (some (.int y)) True) 0 0 (zA Γ) := by
  refine Met.ofW (cc := cX9_tables) (maxL := 1) (ret := (some .int)) (by decide) rfl ?_
  intro p e s m args below meth c s₁ B hml hv
  obtain ⟨rfl, hW, hKK⟩ := hv
  have hx := B.exec
  have hb := B.bytes
  have hr := B.returns
  have hts := atoms_spec (ws := wsX9_tables) B.pre
  have hown : s.vm.findClass RX9 = some m.cls := findClass_of_methodNamed B.named
  have hlocks := B.notSynchronized
  have hS : va_S (zA Γ) s.heap s.heap [] := va_S.rf
  have hm : ∀ c, zV S c = zV S c := fun _ => rfl
  have hl := lv_entry ([.ref (lo (10, 0, 0))]) (n := 1) (Nat.le_of_ble_eq_true rfl)
  rw [lg_entry_eq]
  generalize (lg_sl ([.ref (lo (10, 0, 0))]) ++ List.replicate (1 - (lg_sl ([.ref (lo (10, 0, 0))])).length) Slot.unset).toArray = ls at hl ⊢
  have hl : lv_has ls 1 [(0, .ref (lo (10, 0, 0)))] := hl
  obtain ⟨H, hH0⟩ : ∃ H, H = s.heap := ⟨_, rfl⟩
  obtain ⟨locs, hlo0⟩ : ∃ L : List Loc, L = [] := ⟨_, rfl⟩
  have hS : va_S (zA Γ) s.heap H locs := by rw [hH0, hlo0]; exact hS
  have hW : Wd Γ lo S X H := by rw [hH0]; exact hW
  rw [← hH0, ← hlo0]
  unfold fX9_tables at hf
  refine lv_aload_n hx hb dX9_tables_0 rfl (lv_at hl 0 rfl) ?_
  refine va_get hx hb hts ni_X9_tables_X9 hown hKK.1 (wd_1 hW v_z) 0 rfl rfl 0 (by decide) (hts (.fieldLink RX9 12 "TiltRoute" "tables" "Ljava/util/ArrayList;") (List.mem_of_getElem? (i := 1) rfl)) (fun _ h => h) rfl dX9_tables_1 ?_
  have v1 : zV S (0, 0, 0) = true := vf_10_0 hW v_z
  obtain ⟨r2, hc3, hf⟩ := op_cl hf
  refine z_callV (As := []) (rest := []) ⟨hx, hb, hml, hown, hts⟩ (tJ_size l Γ lo S X v1 hc3) (cwV 0 hts gX9_tables_Jx4a65c_size_8abf5 rfl rfl rfl (by decide +kernel) ⟨Nat.le_of_ble_eq_true rfl, Nat.le_of_ble_eq_true rfl⟩) (wd_1 hW v1) rfl hKK hW hS rfl hl.1 rfl (Nat.le_of_ble_eq_true rfl) dX9_tables_4 ⟨Nat.zero_le _, Nat.zero_le _⟩ (fun H locs hW hS hm1 hE => ?_)
  have hf := Option.some.inj hf
  rw [← hf]
  exact z_iret hx hb hr hlocks rfl hW hS hm trivial dX9_tables_7

theorem ni_X9_games_X9 : ∀ w ∈ wsX90, w ∈ wsX9_games := by decide +kernel
def fX9_games (S : zSt)  : Option Int32 :=
cl (fJ_size S 1) fun r2 =>
some (r2)
abbrev rmX9_games : Room := { frames := 1, cells := 0, slots := 0, locals := 20 }
set_option maxHeartbeats 4000000 in
set_option maxRecDepth 100000 in
theorem tX9_games (l : Launch) (Γ : zG) (lo : zId → Nat) (S : zSt) (X : va_W)  (v_z : zV S (10, 0, 0) = true) {y : Int32} (hf : fX9_games S  = some y) : Met l yX9_games wsX9_games rmX9_games (zP0 Γ lo S X [.ref (lo (10, 0, 0))]) (zQ0 Γ lo S S X (some (.int y)) True) 0 0 (zA Γ) := by
  refine Met.ofW (cc := cX9_games) (maxL := 1) (ret := (some .int)) (by decide) rfl ?_
  intro p e s m args below meth c s₁ B hml hv
  obtain ⟨rfl, hW, hKK⟩ := hv
  have hx := B.exec
  have hb := B.bytes
  have hr := B.returns
  have hts := atoms_spec (ws := wsX9_games) B.pre
  have hown : s.vm.findClass RX9 = some m.cls := findClass_of_methodNamed B.named
  have hlocks := B.notSynchronized
  have hS : va_S (zA Γ) s.heap s.heap [] := va_S.rf
  have hm : ∀ c, zV S c = zV S c := fun _ => rfl
  have hl := lv_entry ([.ref (lo (10, 0, 0))]) (n := 1) (Nat.le_of_ble_eq_true rfl)
  rw [lg_entry_eq]
  generalize (lg_sl ([.ref (lo (10, 0, 0))]) ++ List.replicate (1 - (lg_sl ([.ref (lo (10, 0, 0))])).length) Slot.unset).toArray = ls at hl ⊢
  have hl : lv_has ls 1 [(0, .ref (lo (10, 0, 0)))] := hl
  obtain ⟨H, hH0⟩ : ∃ H, H = s.heap := ⟨_, rfl⟩
  obtain ⟨locs, hlo0⟩ : ∃ L : List Loc, L = [] := ⟨_, rfl⟩
  have hS : va_S (zA Γ) s.heap H locs := by rw [hH0, hlo0]; exact hS
  have hW : Wd Γ lo S X H := by rw [hH0]; exact hW
  rw [← hH0, ← hlo0]
  unfold fX9_games at hf
  refine lv_aload_n hx hb dX9_games_0 rfl (lv_at hl 0 rfl) ?_
  refine va_get hx hb hts ni_X9_games_X9 hown hKK.1 (wd_1 hW v_z) 0 rfl rfl 1 (by decide) (hts (.fieldLink RX9 16 "TiltRoute" "games" "Ljava/util/ArrayList;") (List.mem_of_getElem? (i := 1) rfl)) (fun _ h => h) rfl dX9_games_1 ?_
  have v1 : zV S (0, 1, 0) = true := vf_10_1 hW v_z
  obtain ⟨r2, hc3, hf⟩ := op_cl hf
  refine z_callV (As := []) (rest := []) ⟨hx, hb, hml, hown, hts⟩ (tJ_size l Γ lo S X v1 hc3) (cwV 0 hts gX9_games_Jx4a65c_size_8abf5 rfl rfl rfl (by decide +kernel) ⟨Nat.le_of_ble_eq_true rfl, Nat.le_of_ble_eq_true rfl⟩) (wd_1 hW v1) rfl hKK hW hS rfl hl.1 rfl (Nat.le_of_ble_eq_true rfl) dX9_games_4 ⟨Nat.zero_le _, Nat.zero_le _⟩ (fun H locs hW hS hm1 hE => ?_)
  have hf := Option.some.inj hf
  rw [← hf]
  exact z_iret hx hb hr hlocks rfl hW hS hm trivial dX9_games_7

theorem ni_X9_demandTable_X9 : ∀ w ∈ wsX90, w ∈ wsX9_demandTable := by decide +kernel
def fX9_demandTable (S : zSt) (i_1 : Int32) : Option ((Nat × zSt) ⊕ Nat) :=
st (fun (u_ : Unit) => (some (.inl (1, S)) : Option ((Nat × zSt) ⊕ Nat))) fun j1 =>
if i_1 < 0 then
j1 ()
else
cl (fJ_size S 0) fun r3 =>
if i_1 < r3 then
cl (fJ_get S 0 i_1) fun r6 =>
some (.inr r6)
else
j1 ()
abbrev rmX9_demandTable : Room := { frames := 3, cells := 0, slots := 0, locals := 64 }
set_option maxHeartbeats 4000000 in
set_option maxRecDepth 100000 in
theorem tX9_demandTable (l : Launch) (Γ : zG) (lo : zId → Nat) (S : zSt) (X : va_W) {i_1 : Int32} (v_z : zV S (10, 0, 0) = true) {y : Nat} (hf : fX9_demandTable S i_1 = some (Sum.inr y)) : Met l yX9_demandTable wsX9_demandTable rmX9_demandTable (zP0 Γ lo S X [.ref (lo (10, 0, 0)), .int i_1]) (zQ0 Γ lo S S X (some (.ref (lo (8, y, 0)))) (zV S (8, y, 0) = true)) 0 0 (zA Γ) := by
  refine Met.ofW (cc := cX9_demandTable) (maxL := 2) (ret := (some (.object "TiltRoute$Table"))) (by decide) rfl ?_
  intro p e s m args below meth c s₁ B hml hv
  obtain ⟨rfl, hW, hKK⟩ := hv
  have hx := B.exec
  have hb := B.bytes
  have hr := B.returns
  have hts := atoms_spec (ws := wsX9_demandTable) B.pre
  have hown : s.vm.findClass RX9 = some m.cls := findClass_of_methodNamed B.named
  have hlocks := B.notSynchronized
  have hS : va_S (zA Γ) s.heap s.heap [] := va_S.rf
  have hm : ∀ c, zV S c = zV S c := fun _ => rfl
  have hl := lv_entry ([.ref (lo (10, 0, 0)), .int i_1]) (n := 2) (Nat.le_of_ble_eq_true rfl)
  rw [lg_entry_eq]
  generalize (lg_sl ([.ref (lo (10, 0, 0)), .int i_1]) ++ List.replicate (2 - (lg_sl ([.ref (lo (10, 0, 0)), .int i_1])).length) Slot.unset).toArray = ls at hl ⊢
  have hl : lv_has ls 2 [(0, .ref (lo (10, 0, 0))), (1, .int i_1)] := hl
  obtain ⟨H, hH0⟩ : ∃ H, H = s.heap := ⟨_, rfl⟩
  obtain ⟨locs, hlo0⟩ : ∃ L : List Loc, L = [] := ⟨_, rfl⟩
  have hS : va_S (zA Γ) s.heap H locs := by rw [hH0, hlo0]; exact hS
  have hW : Wd Γ lo S X H := by rw [hH0]; exact hW
  rw [← hH0, ← hlo0]
  unfold fX9_demandTable at hf
  refine lv_iload_n hx hb dX9_demandTable_0 rfl (lv_at hl 1 rfl) ?_
  obtain ⟨j1, ej1, hf⟩ := op_st hf
  have hj1 : ∀ (u_ : Unit) (H : Heap) (locs : List Loc) (ls : Array Slot), lv_has ls 2 [] → Wd Γ lo S X H → va_S (zA Γ) s.heap H locs → (∀ c, zV S c = zV S c) → j1 () = some (Sum.inr y) → W p l e (headSpec wsX9_demandTable rmX9_demandTable).room s m ([.ref (lo (10, 0, 0)), .int i_1] : List Value).toArray below meth c H locs 0 0 (MQ below (zQ0 Γ lo S S X (some (.ref (lo (8, y, 0)))) (zV S (8, y, 0) = true)) ([.ref (lo (10, 0, 0)), .int i_1] : List Value).toArray s 0 0 (zA Γ)) (F0 m 15 ls []) := by
    intro u_ H locs ls  hl hW hS hm hf
    rw [ej1] at hf
    have hf := Option.some.inj hf
    cases hf
  refine lv_if_lt (tgt := 15) hx hb dX9_demandTable_1 (by decide) (fun k1 => ?_) (fun k1 => ?_)
  · have hf := (op_if hf).1 k1
    exact hj1 () H locs ls  (lv_sub hl [] rfl) hW hS hm hf
  · have hf := (op_if hf).2 k1
    refine lv_iload_n hx hb dX9_demandTable_4 rfl (lv_at hl 1 rfl) ?_
    refine lv_aload_n hx hb dX9_demandTable_5 rfl (lv_at hl 0 rfl) ?_
    refine va_get hx hb hts ni_X9_demandTable_X9 hown hKK.1 (wd_1 hW v_z) 0 rfl rfl 0 (by decide) (hts (.fieldLink RX9 12 "TiltRoute" "tables" "Ljava/util/ArrayList;") (List.mem_of_getElem? (i := 3) rfl)) (fun _ h => h) rfl dX9_demandTable_6 ?_
    have v2 : zV S (0, 0, 0) = true := vf_10_0 hW v_z
    obtain ⟨r3, hc4, hf⟩ := op_cl hf
    refine z_callV (As := []) (rest := [.int i_1]) ⟨hx, hb, hml, hown, hts⟩ (tJ_size l Γ lo S X v2 hc4) (cwV 0 hts gX9_demandTable_Jx4a65c_size_8abf5 rfl rfl rfl (by decide +kernel) ⟨Nat.le_of_ble_eq_true rfl, Nat.le_of_ble_eq_true rfl⟩) (wd_1 hW v2) rfl hKK hW hS rfl hl.1 rfl (Nat.le_of_ble_eq_true rfl) dX9_demandTable_9 ⟨Nat.zero_le _, Nat.zero_le _⟩ (fun H locs hW hS hm1 hE => ?_)
    refine lv_icmp_lt (tgt := 26) hx hb dX9_demandTable_12 (by decide) (fun k12 => ?_) (fun k12 => ?_)
    · have hf := (op_if hf).1 k12
      refine lv_aload_n hx hb dX9_demandTable_26 rfl (lv_at hl 0 rfl) ?_
      refine va_get hx hb hts ni_X9_demandTable_X9 hown hKK.1 (wd_1 hW v_z) 0 rfl rfl 0 (by decide) (hts (.fieldLink RX9 12 "TiltRoute" "tables" "Ljava/util/ArrayList;") (List.mem_of_getElem? (i := 3) rfl)) (fun _ h => h) rfl dX9_demandTable_27 ?_
      have v5 : zV S (0, 0, 0) = true := vf_10_0 hW v_z
      refine lv_iload_n hx hb dX9_demandTable_30 rfl (lv_at hl 1 rfl) ?_
      obtain ⟨r6, hc7, hf⟩ := op_cl hf
      refine z_callV (As := [.int i_1]) (rest := []) ⟨hx, hb, hml, hown, hts⟩ (tJ_get l Γ lo S X v5 hc7) (cwV 1 hts gX9_demandTable_Jx4a65c_get_915e3 rfl rfl rfl (by decide +kernel) ⟨Nat.le_of_ble_eq_true rfl, Nat.le_of_ble_eq_true rfl⟩) (wd_1 hW v5) rfl hKK hW hS rfl hl.1 rfl (Nat.le_of_ble_eq_true rfl) dX9_demandTable_31 ⟨Nat.zero_le _, Nat.zero_le _⟩ (fun H locs hW hS hm1 hE => ?_)
      have v8 : zV S (8, r6, 0) = true := hE
      refine va_castE hx hb hown (hts (.classLink RX9 70 "TiltRoute$Table") (List.mem_of_getElem? (i := 4) rfl)) (va_recv (q0 := 0) hKK.1 (wd_1 hW v8) (ci := 8) rfl rfl) dX9_demandTable_34 ?_
      have hf := Option.some.inj hf
      have hf := Sum.inr.inj hf
      rw [← hf]
      exact z_aret2 hx hb hr hlocks hW hS hm v8 dX9_demandTable_37
    · have hf := (op_if hf).2 k12
      exact hj1 () H locs ls  (lv_sub hl [] rfl) hW hS hm hf
theorem xs_X9_demandTable_15 : ∀ w ∈ (vx_atS "TiltRoute" 279 (zEx 1) zXn).filter goodWord, w ∈ wsX9_demandTable := by decide +kernel
theorem xs_X9_demandTable_15b : ∀ w ∈ (vx_atS "TiltRoute" 279 (zEx 1) zXn).filter (fun w => !goodWord w), w ∈ [Cond.castable (zEx 1) (zEx 1), .declares (Bundle.initS "java/lang/RuntimeException"), .declares (Bundle.initS "java/lang/Exception"), .declares (Bundle.initS Bundle.tN)] := by decide +kernel
theorem xs_X9_demandTable_15c : ∀ w ∈ Cond.classLink "TiltRoute" 275 (zEx 1) :: Cond.initialized (zEx 1) :: vx_atS "TiltRoute" 279 (zEx 1) zXn, vx_ot w = true := by decide +kernel
abbrev rnX9_demandTable : Room := { frames := 6, cells := 1, slots := 6, locals := 82 }
set_option maxHeartbeats 4000000 in
set_option maxRecDepth 100000 in
theorem uX9_demandTable (l : Launch) (hl0 : l.stackTraces = false) (Γ : zG) (lo : zId → Nat) (S : zSt) (X : va_W) {i_1 : Int32} (v_z : zV S (10, 0, 0) = true) {ee : Nat × zSt} (hf : fX9_demandTable S i_1 = some (Sum.inl ee)) : vx_Met l yX9_demandTable wsX9_demandTable rnX9_demandTable (zP1 Γ lo S X [.ref (lo (10, 0, 0)), .int i_1]) zF (zT Γ lo S X ee) 1 6 (zA Γ) := by
  refine vx_ofW (cc := cX9_demandTable) (maxL := 2) (ret := (some (.object "TiltRoute$Table"))) (by decide) rfl ?_
  intro p e s m args below meth c s₁ B hml ht hv
  obtain ⟨rfl, hW, hKK, hKX⟩ := hv
  have hx := B.exec
  have hb := B.bytes
  have hr := B.returns
  have hts := atoms_spec (ws := wsX9_demandTable) B.pre
  have hown : s.vm.findClass RX9 = some m.cls := findClass_of_methodNamed B.named
  have hlocks := B.notSynchronized
  have hS : va_S (zA Γ) s.heap s.heap [] := va_S.rf
  have hm : ∀ c, zV S c = zV S c := fun _ => rfl
  have hl := lv_entry ([.ref (lo (10, 0, 0)), .int i_1]) (n := 2) (Nat.le_of_ble_eq_true rfl)
  rw [lg_entry_eq]
  generalize (lg_sl ([.ref (lo (10, 0, 0)), .int i_1]) ++ List.replicate (2 - (lg_sl ([.ref (lo (10, 0, 0)), .int i_1])).length) Slot.unset).toArray = ls at hl ⊢
  have hl : lv_has ls 2 [(0, .ref (lo (10, 0, 0))), (1, .int i_1)] := hl
  obtain ⟨H, hH0⟩ : ∃ H, H = s.heap := ⟨_, rfl⟩
  obtain ⟨locs, hlo0⟩ : ∃ L : List Loc, L = [] := ⟨_, rfl⟩
  have hS : va_S (zA Γ) s.heap H locs := by rw [hH0, hlo0]; exact hS
  have hW : Wd Γ lo S X H := by rw [hH0]; exact hW
  rw [← hH0, ← hlo0]
  unfold fX9_demandTable at hf
  refine lv_iload_n hx hb dX9_demandTable_0 rfl (lv_at hl 1 rfl) ?_
  obtain ⟨j1, ej1, hf⟩ := op_st hf
  have hj1 : ∀ (u_ : Unit) (H : Heap) (locs : List Loc) (ls : Array Slot), lv_has ls 2 [] → Wd Γ lo S X H → va_S (zA Γ) s.heap H locs → (∀ c, zV S c = zV S c) → j1 () = some (Sum.inl ee) → W p l e (headSpec wsX9_demandTable rnX9_demandTable).room s m ([.ref (lo (10, 0, 0)), .int i_1] : List Value).toArray below meth c H locs 0 0 (vx_MQ below zF (zT Γ lo S X ee) ([.ref (lo (10, 0, 0)), .int i_1] : List Value).toArray s 1 6 (zA Γ)) (F0 m 15 ls []) := by
    intro u_ H locs ls  hl hW hS hm hf
    rw [ej1] at hf
    have hf := Option.some.inj hf
    have hf := Sum.inl.inj hf
    rw [← hf]
    exact zx_thrW (ee := (1, S)) hx hb hl0 hts hown (hts (.classLink RX9 275 "java/lang/IndexOutOfBoundsException") (List.mem_of_getElem? (i := 1) rfl)) (hts (.initialized "java/lang/IndexOutOfBoundsException") (List.mem_of_getElem? (i := 2) rfl)) (List.mem_of_getElem? (i := 9) rfl) xs_X9_demandTable_15 xs_X9_demandTable_15b (show Bundle.fit (zEx 1) = true by decide) xs_X9_demandTable_15c hKK hKX hS (hl.1.trans hml.symm) dX9_demandTable_15 dX9_demandTable_18 dX9_demandTable_19 dX9_demandTable_22 dX9_demandTable_25 ht (Nat.le_of_ble_eq_true rfl) (Nat.le_of_ble_eq_true rfl) (Nat.le_of_ble_eq_true rfl) (Nat.le_of_ble_eq_true rfl) hlocks hW hm
  refine lv_if_lt (tgt := 15) hx hb dX9_demandTable_1 (by decide) (fun k1 => ?_) (fun k1 => ?_)
  · have hf := (op_if hf).1 k1
    exact hj1 () H locs ls  (lv_sub hl [] rfl) hW hS hm hf
  · have hf := (op_if hf).2 k1
    refine lv_iload_n hx hb dX9_demandTable_4 rfl (lv_at hl 1 rfl) ?_
    refine lv_aload_n hx hb dX9_demandTable_5 rfl (lv_at hl 0 rfl) ?_
    refine va_get hx hb hts ni_X9_demandTable_X9 hown hKK.1 (wd_1 hW v_z) 0 rfl rfl 0 (by decide) (hts (.fieldLink RX9 12 "TiltRoute" "tables" "Ljava/util/ArrayList;") (List.mem_of_getElem? (i := 3) rfl)) (fun _ h => h) rfl dX9_demandTable_6 ?_
    have v2 : zV S (0, 0, 0) = true := vf_10_0 hW v_z
    obtain ⟨r3, hc4, hf⟩ := op_cl hf
    refine z_callV (As := []) (rest := [.int i_1]) ⟨hx, hb, hml, hown, hts⟩ (tJ_size l Γ lo S X v2 hc4) (cwV 0 hts gX9_demandTable_Jx4a65c_size_8abf5 rfl rfl rfl (by decide +kernel) ⟨Nat.le_of_ble_eq_true rfl, Nat.le_of_ble_eq_true rfl⟩) (wd_1 hW v2) rfl hKK hW hS rfl hl.1 rfl (Nat.le_of_ble_eq_true rfl) dX9_demandTable_9 ⟨Nat.zero_le _, Nat.zero_le _⟩ (fun H locs hW hS hm1 hE => ?_)
    refine lv_icmp_lt (tgt := 26) hx hb dX9_demandTable_12 (by decide) (fun k12 => ?_) (fun k12 => ?_)
    · have hf := (op_if hf).1 k12
      refine lv_aload_n hx hb dX9_demandTable_26 rfl (lv_at hl 0 rfl) ?_
      refine va_get hx hb hts ni_X9_demandTable_X9 hown hKK.1 (wd_1 hW v_z) 0 rfl rfl 0 (by decide) (hts (.fieldLink RX9 12 "TiltRoute" "tables" "Ljava/util/ArrayList;") (List.mem_of_getElem? (i := 3) rfl)) (fun _ h => h) rfl dX9_demandTable_27 ?_
      have v5 : zV S (0, 0, 0) = true := vf_10_0 hW v_z
      refine lv_iload_n hx hb dX9_demandTable_30 rfl (lv_at hl 1 rfl) ?_
      obtain ⟨r6, hc7, hf⟩ := op_cl hf
      refine z_callV (As := [.int i_1]) (rest := []) ⟨hx, hb, hml, hown, hts⟩ (tJ_get l Γ lo S X v5 hc7) (cwV 1 hts gX9_demandTable_Jx4a65c_get_915e3 rfl rfl rfl (by decide +kernel) ⟨Nat.le_of_ble_eq_true rfl, Nat.le_of_ble_eq_true rfl⟩) (wd_1 hW v5) rfl hKK hW hS rfl hl.1 rfl (Nat.le_of_ble_eq_true rfl) dX9_demandTable_31 ⟨Nat.zero_le _, Nat.zero_le _⟩ (fun H locs hW hS hm1 hE => ?_)
      have v8 : zV S (8, r6, 0) = true := hE
      refine va_castE hx hb hown (hts (.classLink RX9 70 "TiltRoute$Table") (List.mem_of_getElem? (i := 4) rfl)) (va_recv (q0 := 0) hKK.1 (wd_1 hW v8) (ci := 8) rfl rfl) dX9_demandTable_34 ?_
      have hf := Option.some.inj hf
      cases hf
    · have hf := (op_if hf).2 k12
      exact hj1 () H locs ls  (lv_sub hl [] rfl) hW hS hm hf

theorem ni_X9_demandBumper_X7 : ∀ w ∈ wsX70, w ∈ wsX9_demandBumper := by decide +kernel
def fX9_demandBumper (S : zSt) (a_1 : Nat) (i_2 : Int32) : Option ((Nat × zSt) ⊕ (Nat × Nat)) :=
st (fun (u_ : Unit) => (some (.inl (1, S)) : Option ((Nat × zSt) ⊕ (Nat × Nat)))) fun j1 =>
if i_2 < 0 then
j1 ()
else
cl (fJ_size S (a_1 + 2)) fun r3 =>
if i_2 < r3 then
cl (fJ_get S (a_1 + 2) i_2) fun r6 =>
some (.inr (a_1, r6))
else
j1 ()
abbrev rmX9_demandBumper : Room := { frames := 3, cells := 0, slots := 0, locals := 64 }
set_option maxHeartbeats 4000000 in
set_option maxRecDepth 100000 in
theorem tX9_demandBumper (l : Launch) (Γ : zG) (lo : zId → Nat) (S : zSt) (X : va_W) {a_1 : Nat} {i_2 : Int32} (v_1 : zV S (8, a_1, 0) = true) {y : (Nat × Nat)} (hf : fX9_demandBumper S a_1 i_2 = some (Sum.inr y)) : Met l yX9_demandBumper wsX9_demandBumper rmX9_demandBumper (zP0 Γ lo S X [.ref (lo (8, a_1, 0)), .int i_2]) (zQ0 Γ lo S S X (some (.ref (lo (2, y.1, y.2)))) (zV S (2, y.1, y.2) = true)) 0 0 (zA Γ) := by
  refine Met.ofW (cc := cX9_demandBumper) (maxL := 2) (ret := (some (.object "TiltRoute$Bumper"))) (by decide) rfl ?_
  intro p e s m args below meth c s₁ B hml hv
  obtain ⟨rfl, hW, hKK⟩ := hv
  have hx := B.exec
  have hb := B.bytes
  have hr := B.returns
  have hts := atoms_spec (ws := wsX9_demandBumper) B.pre
  have hown : s.vm.findClass RX9 = some m.cls := findClass_of_methodNamed B.named
  have hlocks := B.notSynchronized
  have hS : va_S (zA Γ) s.heap s.heap [] := va_S.rf
  have hm : ∀ c, zV S c = zV S c := fun _ => rfl
  have hl := lv_entry ([.ref (lo (8, a_1, 0)), .int i_2]) (n := 2) (Nat.le_of_ble_eq_true rfl)
  rw [lg_entry_eq]
  generalize (lg_sl ([.ref (lo (8, a_1, 0)), .int i_2]) ++ List.replicate (2 - (lg_sl ([.ref (lo (8, a_1, 0)), .int i_2])).length) Slot.unset).toArray = ls at hl ⊢
  have hl : lv_has ls 2 [(0, .ref (lo (8, a_1, 0))), (1, .int i_2)] := hl
  obtain ⟨H, hH0⟩ : ∃ H, H = s.heap := ⟨_, rfl⟩
  obtain ⟨locs, hlo0⟩ : ∃ L : List Loc, L = [] := ⟨_, rfl⟩
  have hS : va_S (zA Γ) s.heap H locs := by rw [hH0, hlo0]; exact hS
  have hW : Wd Γ lo S X H := by rw [hH0]; exact hW
  rw [← hH0, ← hlo0]
  unfold fX9_demandBumper at hf
  refine lv_iload_n hx hb dX9_demandBumper_0 rfl (lv_at hl 1 rfl) ?_
  obtain ⟨j1, ej1, hf⟩ := op_st hf
  have hj1 : ∀ (u_ : Unit) (H : Heap) (locs : List Loc) (ls : Array Slot), lv_has ls 2 [] → Wd Γ lo S X H → va_S (zA Γ) s.heap H locs → (∀ c, zV S c = zV S c) → j1 () = some (Sum.inr y) → W p l e (headSpec wsX9_demandBumper rmX9_demandBumper).room s m ([.ref (lo (8, a_1, 0)), .int i_2] : List Value).toArray below meth c H locs 0 0 (MQ below (zQ0 Γ lo S S X (some (.ref (lo (2, y.1, y.2)))) (zV S (2, y.1, y.2) = true)) ([.ref (lo (8, a_1, 0)), .int i_2] : List Value).toArray s 0 0 (zA Γ)) (F0 m 15 ls []) := by
    intro u_ H locs ls  hl hW hS hm hf
    rw [ej1] at hf
    have hf := Option.some.inj hf
    cases hf
  refine lv_if_lt (tgt := 15) hx hb dX9_demandBumper_1 (by decide) (fun k1 => ?_) (fun k1 => ?_)
  · have hf := (op_if hf).1 k1
    exact hj1 () H locs ls  (lv_sub hl [] rfl) hW hS hm hf
  · have hf := (op_if hf).2 k1
    refine lv_iload_n hx hb dX9_demandBumper_4 rfl (lv_at hl 1 rfl) ?_
    refine lv_aload_n hx hb dX9_demandBumper_5 rfl (lv_at hl 0 rfl) ?_
    refine va_get hx hb hts ni_X9_demandBumper_X7 hown hKK.1 (wd_1 hW v_1) 0 rfl rfl 2 (by decide) (hts (.fieldLink RX9 87 "TiltRoute$Table" "bumpers" "Ljava/util/ArrayList;") (List.mem_of_getElem? (i := 3) rfl)) (fun _ h => h) rfl dX9_demandBumper_6 ?_
    have v2 : zV S (0, (a_1 + 2), 0) = true := vf_8_2 hW v_1
    obtain ⟨r3, hc4, hf⟩ := op_cl hf
    refine z_callV (As := []) (rest := [.int i_2]) ⟨hx, hb, hml, hown, hts⟩ (tJ_size l Γ lo S X v2 hc4) (cwV 0 hts gX9_demandBumper_Jx4a65c_size_8abf5 rfl rfl rfl (by decide +kernel) ⟨Nat.le_of_ble_eq_true rfl, Nat.le_of_ble_eq_true rfl⟩) (wd_1 hW v2) rfl hKK hW hS rfl hl.1 rfl (Nat.le_of_ble_eq_true rfl) dX9_demandBumper_9 ⟨Nat.zero_le _, Nat.zero_le _⟩ (fun H locs hW hS hm1 hE => ?_)
    refine lv_icmp_lt (tgt := 26) hx hb dX9_demandBumper_12 (by decide) (fun k12 => ?_) (fun k12 => ?_)
    · have hf := (op_if hf).1 k12
      refine lv_aload_n hx hb dX9_demandBumper_26 rfl (lv_at hl 0 rfl) ?_
      refine va_get hx hb hts ni_X9_demandBumper_X7 hown hKK.1 (wd_1 hW v_1) 0 rfl rfl 2 (by decide) (hts (.fieldLink RX9 87 "TiltRoute$Table" "bumpers" "Ljava/util/ArrayList;") (List.mem_of_getElem? (i := 3) rfl)) (fun _ h => h) rfl dX9_demandBumper_27 ?_
      have v5 : zV S (0, (a_1 + 2), 0) = true := vf_8_2 hW v_1
      refine lv_iload_n hx hb dX9_demandBumper_30 rfl (lv_at hl 1 rfl) ?_
      obtain ⟨r6, hc7, hf⟩ := op_cl hf
      refine z_callV (As := [.int i_2]) (rest := []) ⟨hx, hb, hml, hown, hts⟩ (tJ_get l Γ lo S X v5 hc7) (cwV 1 hts gX9_demandBumper_Jx4a65c_get_915e3 rfl rfl rfl (by decide +kernel) ⟨Nat.le_of_ble_eq_true rfl, Nat.le_of_ble_eq_true rfl⟩) (wd_1 hW v5) rfl hKK hW hS rfl hl.1 rfl (Nat.le_of_ble_eq_true rfl) dX9_demandBumper_31 ⟨Nat.zero_le _, Nat.zero_le _⟩ (fun H locs hW hS hm1 hE => ?_)
      have v8 : zV S (2, a_1, r6) = true := hE
      refine va_castE hx hb hown (hts (.classLink RX9 92 "TiltRoute$Bumper") (List.mem_of_getElem? (i := 4) rfl)) (va_recv (q0 := 0) hKK.1 (wd_1 hW v8) (ci := 2) rfl rfl) dX9_demandBumper_34 ?_
      have hf := Option.some.inj hf
      have hf := Sum.inr.inj hf
      rw [← hf]
      exact z_aret2 hx hb hr hlocks hW hS hm v8 dX9_demandBumper_37
    · have hf := (op_if hf).2 k12
      exact hj1 () H locs ls  (lv_sub hl [] rfl) hW hS hm hf
theorem xs_X9_demandBumper_15 : ∀ w ∈ (vx_atS "TiltRoute" 279 (zEx 1) zXn).filter goodWord, w ∈ wsX9_demandBumper := by decide +kernel
theorem xs_X9_demandBumper_15b : ∀ w ∈ (vx_atS "TiltRoute" 279 (zEx 1) zXn).filter (fun w => !goodWord w), w ∈ [Cond.castable (zEx 1) (zEx 1), .declares (Bundle.initS "java/lang/RuntimeException"), .declares (Bundle.initS "java/lang/Exception"), .declares (Bundle.initS Bundle.tN)] := by decide +kernel
theorem xs_X9_demandBumper_15c : ∀ w ∈ Cond.classLink "TiltRoute" 275 (zEx 1) :: Cond.initialized (zEx 1) :: vx_atS "TiltRoute" 279 (zEx 1) zXn, vx_ot w = true := by decide +kernel
abbrev rnX9_demandBumper : Room := { frames := 6, cells := 1, slots := 6, locals := 82 }
set_option maxHeartbeats 4000000 in
set_option maxRecDepth 100000 in
theorem uX9_demandBumper (l : Launch) (hl0 : l.stackTraces = false) (Γ : zG) (lo : zId → Nat) (S : zSt) (X : va_W) {a_1 : Nat} {i_2 : Int32} (v_1 : zV S (8, a_1, 0) = true) {ee : Nat × zSt} (hf : fX9_demandBumper S a_1 i_2 = some (Sum.inl ee)) : vx_Met l yX9_demandBumper wsX9_demandBumper rnX9_demandBumper (zP1 Γ lo S X [.ref (lo (8, a_1, 0)), .int i_2]) zF (zT Γ lo S X ee) 1 6 (zA Γ) := by
  refine vx_ofW (cc := cX9_demandBumper) (maxL := 2) (ret := (some (.object "TiltRoute$Bumper"))) (by decide) rfl ?_
  intro p e s m args below meth c s₁ B hml ht hv
  obtain ⟨rfl, hW, hKK, hKX⟩ := hv
  have hx := B.exec
  have hb := B.bytes
  have hr := B.returns
  have hts := atoms_spec (ws := wsX9_demandBumper) B.pre
  have hown : s.vm.findClass RX9 = some m.cls := findClass_of_methodNamed B.named
  have hlocks := B.notSynchronized
  have hS : va_S (zA Γ) s.heap s.heap [] := va_S.rf
  have hm : ∀ c, zV S c = zV S c := fun _ => rfl
  have hl := lv_entry ([.ref (lo (8, a_1, 0)), .int i_2]) (n := 2) (Nat.le_of_ble_eq_true rfl)
  rw [lg_entry_eq]
  generalize (lg_sl ([.ref (lo (8, a_1, 0)), .int i_2]) ++ List.replicate (2 - (lg_sl ([.ref (lo (8, a_1, 0)), .int i_2])).length) Slot.unset).toArray = ls at hl ⊢
  have hl : lv_has ls 2 [(0, .ref (lo (8, a_1, 0))), (1, .int i_2)] := hl
  obtain ⟨H, hH0⟩ : ∃ H, H = s.heap := ⟨_, rfl⟩
  obtain ⟨locs, hlo0⟩ : ∃ L : List Loc, L = [] := ⟨_, rfl⟩
  have hS : va_S (zA Γ) s.heap H locs := by rw [hH0, hlo0]; exact hS
  have hW : Wd Γ lo S X H := by rw [hH0]; exact hW
  rw [← hH0, ← hlo0]
  unfold fX9_demandBumper at hf
  refine lv_iload_n hx hb dX9_demandBumper_0 rfl (lv_at hl 1 rfl) ?_
  obtain ⟨j1, ej1, hf⟩ := op_st hf
  have hj1 : ∀ (u_ : Unit) (H : Heap) (locs : List Loc) (ls : Array Slot), lv_has ls 2 [] → Wd Γ lo S X H → va_S (zA Γ) s.heap H locs → (∀ c, zV S c = zV S c) → j1 () = some (Sum.inl ee) → W p l e (headSpec wsX9_demandBumper rnX9_demandBumper).room s m ([.ref (lo (8, a_1, 0)), .int i_2] : List Value).toArray below meth c H locs 0 0 (vx_MQ below zF (zT Γ lo S X ee) ([.ref (lo (8, a_1, 0)), .int i_2] : List Value).toArray s 1 6 (zA Γ)) (F0 m 15 ls []) := by
    intro u_ H locs ls  hl hW hS hm hf
    rw [ej1] at hf
    have hf := Option.some.inj hf
    have hf := Sum.inl.inj hf
    rw [← hf]
    exact zx_thrW (ee := (1, S)) hx hb hl0 hts hown (hts (.classLink RX9 275 "java/lang/IndexOutOfBoundsException") (List.mem_of_getElem? (i := 1) rfl)) (hts (.initialized "java/lang/IndexOutOfBoundsException") (List.mem_of_getElem? (i := 2) rfl)) (List.mem_of_getElem? (i := 10) rfl) xs_X9_demandBumper_15 xs_X9_demandBumper_15b (show Bundle.fit (zEx 1) = true by decide) xs_X9_demandBumper_15c hKK hKX hS (hl.1.trans hml.symm) dX9_demandBumper_15 dX9_demandBumper_18 dX9_demandBumper_19 dX9_demandBumper_22 dX9_demandBumper_25 ht (Nat.le_of_ble_eq_true rfl) (Nat.le_of_ble_eq_true rfl) (Nat.le_of_ble_eq_true rfl) (Nat.le_of_ble_eq_true rfl) hlocks hW hm
  refine lv_if_lt (tgt := 15) hx hb dX9_demandBumper_1 (by decide) (fun k1 => ?_) (fun k1 => ?_)
  · have hf := (op_if hf).1 k1
    exact hj1 () H locs ls  (lv_sub hl [] rfl) hW hS hm hf
  · have hf := (op_if hf).2 k1
    refine lv_iload_n hx hb dX9_demandBumper_4 rfl (lv_at hl 1 rfl) ?_
    refine lv_aload_n hx hb dX9_demandBumper_5 rfl (lv_at hl 0 rfl) ?_
    refine va_get hx hb hts ni_X9_demandBumper_X7 hown hKK.1 (wd_1 hW v_1) 0 rfl rfl 2 (by decide) (hts (.fieldLink RX9 87 "TiltRoute$Table" "bumpers" "Ljava/util/ArrayList;") (List.mem_of_getElem? (i := 3) rfl)) (fun _ h => h) rfl dX9_demandBumper_6 ?_
    have v2 : zV S (0, (a_1 + 2), 0) = true := vf_8_2 hW v_1
    obtain ⟨r3, hc4, hf⟩ := op_cl hf
    refine z_callV (As := []) (rest := [.int i_2]) ⟨hx, hb, hml, hown, hts⟩ (tJ_size l Γ lo S X v2 hc4) (cwV 0 hts gX9_demandBumper_Jx4a65c_size_8abf5 rfl rfl rfl (by decide +kernel) ⟨Nat.le_of_ble_eq_true rfl, Nat.le_of_ble_eq_true rfl⟩) (wd_1 hW v2) rfl hKK hW hS rfl hl.1 rfl (Nat.le_of_ble_eq_true rfl) dX9_demandBumper_9 ⟨Nat.zero_le _, Nat.zero_le _⟩ (fun H locs hW hS hm1 hE => ?_)
    refine lv_icmp_lt (tgt := 26) hx hb dX9_demandBumper_12 (by decide) (fun k12 => ?_) (fun k12 => ?_)
    · have hf := (op_if hf).1 k12
      refine lv_aload_n hx hb dX9_demandBumper_26 rfl (lv_at hl 0 rfl) ?_
      refine va_get hx hb hts ni_X9_demandBumper_X7 hown hKK.1 (wd_1 hW v_1) 0 rfl rfl 2 (by decide) (hts (.fieldLink RX9 87 "TiltRoute$Table" "bumpers" "Ljava/util/ArrayList;") (List.mem_of_getElem? (i := 3) rfl)) (fun _ h => h) rfl dX9_demandBumper_27 ?_
      have v5 : zV S (0, (a_1 + 2), 0) = true := vf_8_2 hW v_1
      refine lv_iload_n hx hb dX9_demandBumper_30 rfl (lv_at hl 1 rfl) ?_
      obtain ⟨r6, hc7, hf⟩ := op_cl hf
      refine z_callV (As := [.int i_2]) (rest := []) ⟨hx, hb, hml, hown, hts⟩ (tJ_get l Γ lo S X v5 hc7) (cwV 1 hts gX9_demandBumper_Jx4a65c_get_915e3 rfl rfl rfl (by decide +kernel) ⟨Nat.le_of_ble_eq_true rfl, Nat.le_of_ble_eq_true rfl⟩) (wd_1 hW v5) rfl hKK hW hS rfl hl.1 rfl (Nat.le_of_ble_eq_true rfl) dX9_demandBumper_31 ⟨Nat.zero_le _, Nat.zero_le _⟩ (fun H locs hW hS hm1 hE => ?_)
      have v8 : zV S (2, a_1, r6) = true := hE
      refine va_castE hx hb hown (hts (.classLink RX9 92 "TiltRoute$Bumper") (List.mem_of_getElem? (i := 4) rfl)) (va_recv (q0 := 0) hKK.1 (wd_1 hW v8) (ci := 2) rfl rfl) dX9_demandBumper_34 ?_
      have hf := Option.some.inj hf
      cases hf
    · have hf := (op_if hf).2 k12
      exact hj1 () H locs ls  (lv_sub hl [] rfl) hW hS hm hf

theorem ni_X9_demandGame_X9 : ∀ w ∈ wsX90, w ∈ wsX9_demandGame := by decide +kernel
def fX9_demandGame (S : zSt) (i_1 : Int32) : Option ((Nat × zSt) ⊕ Nat) :=
st (fun (u_ : Unit) => (some (.inl (1, S)) : Option ((Nat × zSt) ⊕ Nat))) fun j1 =>
if i_1 < 0 then
j1 ()
else
cl (fJ_size S 1) fun r3 =>
if i_1 < r3 then
cl (fJ_get S 1 i_1) fun r6 =>
some (.inr r6)
else
j1 ()
abbrev rmX9_demandGame : Room := { frames := 3, cells := 0, slots := 0, locals := 64 }
set_option maxHeartbeats 4000000 in
set_option maxRecDepth 100000 in
theorem tX9_demandGame (l : Launch) (Γ : zG) (lo : zId → Nat) (S : zSt) (X : va_W) {i_1 : Int32} (v_z : zV S (10, 0, 0) = true) {y : Nat} (hf : fX9_demandGame S i_1 = some (Sum.inr y)) : Met l yX9_demandGame wsX9_demandGame rmX9_demandGame (zP0 Γ lo S X [.ref (lo (10, 0, 0)), .int i_1]) (zQ0 Γ lo S S X (some (.ref (lo (3, y, 0)))) (zV S (3, y, 0) = true)) 0 0 (zA Γ) := by
  refine Met.ofW (cc := cX9_demandGame) (maxL := 2) (ret := (some (.object "TiltRoute$Game"))) (by decide) rfl ?_
  intro p e s m args below meth c s₁ B hml hv
  obtain ⟨rfl, hW, hKK⟩ := hv
  have hx := B.exec
  have hb := B.bytes
  have hr := B.returns
  have hts := atoms_spec (ws := wsX9_demandGame) B.pre
  have hown : s.vm.findClass RX9 = some m.cls := findClass_of_methodNamed B.named
  have hlocks := B.notSynchronized
  have hS : va_S (zA Γ) s.heap s.heap [] := va_S.rf
  have hm : ∀ c, zV S c = zV S c := fun _ => rfl
  have hl := lv_entry ([.ref (lo (10, 0, 0)), .int i_1]) (n := 2) (Nat.le_of_ble_eq_true rfl)
  rw [lg_entry_eq]
  generalize (lg_sl ([.ref (lo (10, 0, 0)), .int i_1]) ++ List.replicate (2 - (lg_sl ([.ref (lo (10, 0, 0)), .int i_1])).length) Slot.unset).toArray = ls at hl ⊢
  have hl : lv_has ls 2 [(0, .ref (lo (10, 0, 0))), (1, .int i_1)] := hl
  obtain ⟨H, hH0⟩ : ∃ H, H = s.heap := ⟨_, rfl⟩
  obtain ⟨locs, hlo0⟩ : ∃ L : List Loc, L = [] := ⟨_, rfl⟩
  have hS : va_S (zA Γ) s.heap H locs := by rw [hH0, hlo0]; exact hS
  have hW : Wd Γ lo S X H := by rw [hH0]; exact hW
  rw [← hH0, ← hlo0]
  unfold fX9_demandGame at hf
  refine lv_iload_n hx hb dX9_demandGame_0 rfl (lv_at hl 1 rfl) ?_
  obtain ⟨j1, ej1, hf⟩ := op_st hf
  have hj1 : ∀ (u_ : Unit) (H : Heap) (locs : List Loc) (ls : Array Slot), lv_has ls 2 [] → Wd Γ lo S X H → va_S (zA Γ) s.heap H locs → (∀ c, zV S c = zV S c) → j1 () = some (Sum.inr y) → W p l e (headSpec wsX9_demandGame rmX9_demandGame).room s m ([.ref (lo (10, 0, 0)), .int i_1] : List Value).toArray below meth c H locs 0 0 (MQ below (zQ0 Γ lo S S X (some (.ref (lo (3, y, 0)))) (zV S (3, y, 0) = true)) ([.ref (lo (10, 0, 0)), .int i_1] : List Value).toArray s 0 0 (zA Γ)) (F0 m 15 ls []) := by
    intro u_ H locs ls  hl hW hS hm hf
    rw [ej1] at hf
    have hf := Option.some.inj hf
    cases hf
  refine lv_if_lt (tgt := 15) hx hb dX9_demandGame_1 (by decide) (fun k1 => ?_) (fun k1 => ?_)
  · have hf := (op_if hf).1 k1
    exact hj1 () H locs ls  (lv_sub hl [] rfl) hW hS hm hf
  · have hf := (op_if hf).2 k1
    refine lv_iload_n hx hb dX9_demandGame_4 rfl (lv_at hl 1 rfl) ?_
    refine lv_aload_n hx hb dX9_demandGame_5 rfl (lv_at hl 0 rfl) ?_
    refine va_get hx hb hts ni_X9_demandGame_X9 hown hKK.1 (wd_1 hW v_z) 0 rfl rfl 1 (by decide) (hts (.fieldLink RX9 16 "TiltRoute" "games" "Ljava/util/ArrayList;") (List.mem_of_getElem? (i := 3) rfl)) (fun _ h => h) rfl dX9_demandGame_6 ?_
    have v2 : zV S (0, 1, 0) = true := vf_10_1 hW v_z
    obtain ⟨r3, hc4, hf⟩ := op_cl hf
    refine z_callV (As := []) (rest := [.int i_1]) ⟨hx, hb, hml, hown, hts⟩ (tJ_size l Γ lo S X v2 hc4) (cwV 0 hts gX9_demandGame_Jx4a65c_size_8abf5 rfl rfl rfl (by decide +kernel) ⟨Nat.le_of_ble_eq_true rfl, Nat.le_of_ble_eq_true rfl⟩) (wd_1 hW v2) rfl hKK hW hS rfl hl.1 rfl (Nat.le_of_ble_eq_true rfl) dX9_demandGame_9 ⟨Nat.zero_le _, Nat.zero_le _⟩ (fun H locs hW hS hm1 hE => ?_)
    refine lv_icmp_lt (tgt := 26) hx hb dX9_demandGame_12 (by decide) (fun k12 => ?_) (fun k12 => ?_)
    · have hf := (op_if hf).1 k12
      refine lv_aload_n hx hb dX9_demandGame_26 rfl (lv_at hl 0 rfl) ?_
      refine va_get hx hb hts ni_X9_demandGame_X9 hown hKK.1 (wd_1 hW v_z) 0 rfl rfl 1 (by decide) (hts (.fieldLink RX9 16 "TiltRoute" "games" "Ljava/util/ArrayList;") (List.mem_of_getElem? (i := 3) rfl)) (fun _ h => h) rfl dX9_demandGame_27 ?_
      have v5 : zV S (0, 1, 0) = true := vf_10_1 hW v_z
      refine lv_iload_n hx hb dX9_demandGame_30 rfl (lv_at hl 1 rfl) ?_
      obtain ⟨r6, hc7, hf⟩ := op_cl hf
      refine z_callV (As := [.int i_1]) (rest := []) ⟨hx, hb, hml, hown, hts⟩ (tJ_get l Γ lo S X v5 hc7) (cwV 1 hts gX9_demandGame_Jx4a65c_get_915e3 rfl rfl rfl (by decide +kernel) ⟨Nat.le_of_ble_eq_true rfl, Nat.le_of_ble_eq_true rfl⟩) (wd_1 hW v5) rfl hKK hW hS rfl hl.1 rfl (Nat.le_of_ble_eq_true rfl) dX9_demandGame_31 ⟨Nat.zero_le _, Nat.zero_le _⟩ (fun H locs hW hS hm1 hE => ?_)
      have v8 : zV S (3, r6, 0) = true := hE
      refine va_castE hx hb hown (hts (.classLink RX9 143 "TiltRoute$Game") (List.mem_of_getElem? (i := 4) rfl)) (va_recv (q0 := 0) hKK.1 (wd_1 hW v8) (ci := 3) rfl rfl) dX9_demandGame_34 ?_
      have hf := Option.some.inj hf
      have hf := Sum.inr.inj hf
      rw [← hf]
      exact z_aret2 hx hb hr hlocks hW hS hm v8 dX9_demandGame_37
    · have hf := (op_if hf).2 k12
      exact hj1 () H locs ls  (lv_sub hl [] rfl) hW hS hm hf
theorem xs_X9_demandGame_15 : ∀ w ∈ (vx_atS "TiltRoute" 279 (zEx 1) zXn).filter goodWord, w ∈ wsX9_demandGame := by decide +kernel
theorem xs_X9_demandGame_15b : ∀ w ∈ (vx_atS "TiltRoute" 279 (zEx 1) zXn).filter (fun w => !goodWord w), w ∈ [Cond.castable (zEx 1) (zEx 1), .declares (Bundle.initS "java/lang/RuntimeException"), .declares (Bundle.initS "java/lang/Exception"), .declares (Bundle.initS Bundle.tN)] := by decide +kernel
theorem xs_X9_demandGame_15c : ∀ w ∈ Cond.classLink "TiltRoute" 275 (zEx 1) :: Cond.initialized (zEx 1) :: vx_atS "TiltRoute" 279 (zEx 1) zXn, vx_ot w = true := by decide +kernel
abbrev rnX9_demandGame : Room := { frames := 6, cells := 1, slots := 6, locals := 82 }
set_option maxHeartbeats 4000000 in
set_option maxRecDepth 100000 in
theorem uX9_demandGame (l : Launch) (hl0 : l.stackTraces = false) (Γ : zG) (lo : zId → Nat) (S : zSt) (X : va_W) {i_1 : Int32} (v_z : zV S (10, 0, 0) = true) {ee : Nat × zSt} (hf : fX9_demandGame S i_1 = some (Sum.inl ee)) : vx_Met l yX9_demandGame wsX9_demandGame rnX9_demandGame (zP1 Γ lo S X [.ref (lo (10, 0, 0)), .int i_1]) zF (zT Γ lo S X ee) 1 6 (zA Γ) := by
  refine vx_ofW (cc := cX9_demandGame) (maxL := 2) (ret := (some (.object "TiltRoute$Game"))) (by decide) rfl ?_
  intro p e s m args below meth c s₁ B hml ht hv
  obtain ⟨rfl, hW, hKK, hKX⟩ := hv
  have hx := B.exec
  have hb := B.bytes
  have hr := B.returns
  have hts := atoms_spec (ws := wsX9_demandGame) B.pre
  have hown : s.vm.findClass RX9 = some m.cls := findClass_of_methodNamed B.named
  have hlocks := B.notSynchronized
  have hS : va_S (zA Γ) s.heap s.heap [] := va_S.rf
  have hm : ∀ c, zV S c = zV S c := fun _ => rfl
  have hl := lv_entry ([.ref (lo (10, 0, 0)), .int i_1]) (n := 2) (Nat.le_of_ble_eq_true rfl)
  rw [lg_entry_eq]
  generalize (lg_sl ([.ref (lo (10, 0, 0)), .int i_1]) ++ List.replicate (2 - (lg_sl ([.ref (lo (10, 0, 0)), .int i_1])).length) Slot.unset).toArray = ls at hl ⊢
  have hl : lv_has ls 2 [(0, .ref (lo (10, 0, 0))), (1, .int i_1)] := hl
  obtain ⟨H, hH0⟩ : ∃ H, H = s.heap := ⟨_, rfl⟩
  obtain ⟨locs, hlo0⟩ : ∃ L : List Loc, L = [] := ⟨_, rfl⟩
  have hS : va_S (zA Γ) s.heap H locs := by rw [hH0, hlo0]; exact hS
  have hW : Wd Γ lo S X H := by rw [hH0]; exact hW
  rw [← hH0, ← hlo0]
  unfold fX9_demandGame at hf
  refine lv_iload_n hx hb dX9_demandGame_0 rfl (lv_at hl 1 rfl) ?_
  obtain ⟨j1, ej1, hf⟩ := op_st hf
  have hj1 : ∀ (u_ : Unit) (H : Heap) (locs : List Loc) (ls : Array Slot), lv_has ls 2 [] → Wd Γ lo S X H → va_S (zA Γ) s.heap H locs → (∀ c, zV S c = zV S c) → j1 () = some (Sum.inl ee) → W p l e (headSpec wsX9_demandGame rnX9_demandGame).room s m ([.ref (lo (10, 0, 0)), .int i_1] : List Value).toArray below meth c H locs 0 0 (vx_MQ below zF (zT Γ lo S X ee) ([.ref (lo (10, 0, 0)), .int i_1] : List Value).toArray s 1 6 (zA Γ)) (F0 m 15 ls []) := by
    intro u_ H locs ls  hl hW hS hm hf
    rw [ej1] at hf
    have hf := Option.some.inj hf
    have hf := Sum.inl.inj hf
    rw [← hf]
    exact zx_thrW (ee := (1, S)) hx hb hl0 hts hown (hts (.classLink RX9 275 "java/lang/IndexOutOfBoundsException") (List.mem_of_getElem? (i := 1) rfl)) (hts (.initialized "java/lang/IndexOutOfBoundsException") (List.mem_of_getElem? (i := 2) rfl)) (List.mem_of_getElem? (i := 11) rfl) xs_X9_demandGame_15 xs_X9_demandGame_15b (show Bundle.fit (zEx 1) = true by decide) xs_X9_demandGame_15c hKK hKX hS (hl.1.trans hml.symm) dX9_demandGame_15 dX9_demandGame_18 dX9_demandGame_19 dX9_demandGame_22 dX9_demandGame_25 ht (Nat.le_of_ble_eq_true rfl) (Nat.le_of_ble_eq_true rfl) (Nat.le_of_ble_eq_true rfl) (Nat.le_of_ble_eq_true rfl) hlocks hW hm
  refine lv_if_lt (tgt := 15) hx hb dX9_demandGame_1 (by decide) (fun k1 => ?_) (fun k1 => ?_)
  · have hf := (op_if hf).1 k1
    exact hj1 () H locs ls  (lv_sub hl [] rfl) hW hS hm hf
  · have hf := (op_if hf).2 k1
    refine lv_iload_n hx hb dX9_demandGame_4 rfl (lv_at hl 1 rfl) ?_
    refine lv_aload_n hx hb dX9_demandGame_5 rfl (lv_at hl 0 rfl) ?_
    refine va_get hx hb hts ni_X9_demandGame_X9 hown hKK.1 (wd_1 hW v_z) 0 rfl rfl 1 (by decide) (hts (.fieldLink RX9 16 "TiltRoute" "games" "Ljava/util/ArrayList;") (List.mem_of_getElem? (i := 3) rfl)) (fun _ h => h) rfl dX9_demandGame_6 ?_
    have v2 : zV S (0, 1, 0) = true := vf_10_1 hW v_z
    obtain ⟨r3, hc4, hf⟩ := op_cl hf
    refine z_callV (As := []) (rest := [.int i_1]) ⟨hx, hb, hml, hown, hts⟩ (tJ_size l Γ lo S X v2 hc4) (cwV 0 hts gX9_demandGame_Jx4a65c_size_8abf5 rfl rfl rfl (by decide +kernel) ⟨Nat.le_of_ble_eq_true rfl, Nat.le_of_ble_eq_true rfl⟩) (wd_1 hW v2) rfl hKK hW hS rfl hl.1 rfl (Nat.le_of_ble_eq_true rfl) dX9_demandGame_9 ⟨Nat.zero_le _, Nat.zero_le _⟩ (fun H locs hW hS hm1 hE => ?_)
    refine lv_icmp_lt (tgt := 26) hx hb dX9_demandGame_12 (by decide) (fun k12 => ?_) (fun k12 => ?_)
    · have hf := (op_if hf).1 k12
      refine lv_aload_n hx hb dX9_demandGame_26 rfl (lv_at hl 0 rfl) ?_
      refine va_get hx hb hts ni_X9_demandGame_X9 hown hKK.1 (wd_1 hW v_z) 0 rfl rfl 1 (by decide) (hts (.fieldLink RX9 16 "TiltRoute" "games" "Ljava/util/ArrayList;") (List.mem_of_getElem? (i := 3) rfl)) (fun _ h => h) rfl dX9_demandGame_27 ?_
      have v5 : zV S (0, 1, 0) = true := vf_10_1 hW v_z
      refine lv_iload_n hx hb dX9_demandGame_30 rfl (lv_at hl 1 rfl) ?_
      obtain ⟨r6, hc7, hf⟩ := op_cl hf
      refine z_callV (As := [.int i_1]) (rest := []) ⟨hx, hb, hml, hown, hts⟩ (tJ_get l Γ lo S X v5 hc7) (cwV 1 hts gX9_demandGame_Jx4a65c_get_915e3 rfl rfl rfl (by decide +kernel) ⟨Nat.le_of_ble_eq_true rfl, Nat.le_of_ble_eq_true rfl⟩) (wd_1 hW v5) rfl hKK hW hS rfl hl.1 rfl (Nat.le_of_ble_eq_true rfl) dX9_demandGame_31 ⟨Nat.zero_le _, Nat.zero_le _⟩ (fun H locs hW hS hm1 hE => ?_)
      have v8 : zV S (3, r6, 0) = true := hE
      refine va_castE hx hb hown (hts (.classLink RX9 143 "TiltRoute$Game") (List.mem_of_getElem? (i := 4) rfl)) (va_recv (q0 := 0) hKK.1 (wd_1 hW v8) (ci := 3) rfl rfl) dX9_demandGame_34 ?_
      have hf := Option.some.inj hf
      cases hf
    · have hf := (op_if hf).2 k12
      exact hj1 () H locs ls  (lv_sub hl [] rfl) hW hS hm hf

theorem ni_X9_demandVan_X9 : ∀ w ∈ wsX90, w ∈ wsX9_demandVan := by decide +kernel
def fX9_demandVan (S : zSt) (i_1 : Int32) : Option ((Nat × zSt) ⊕ Nat) :=
st (fun (u_ : Unit) => (if i_1 = 0 then
some (.inr 0)
else
some (.inr 1) : Option ((Nat × zSt) ⊕ Nat))) fun j1 =>
if i_1 = 0 then
j1 ()
else
if i_1 = (1 : Int32) then
j1 ()
else
some (.inl (1, S))
abbrev rmX9_demandVan : Room := { frames := 0, cells := 0, slots := 0, locals := 0 }
set_option maxHeartbeats 4000000 in
set_option maxRecDepth 100000 in
theorem tX9_demandVan (l : Launch) (Γ : zG) (lo : zId → Nat) (S : zSt) (X : va_W) {i_1 : Int32} (v_z : zV S (10, 0, 0) = true) {y : Nat} (hf : fX9_demandVan S i_1 = some (Sum.inr y)) : Met l yX9_demandVan wsX9_demandVan rmX9_demandVan (zP0 Γ lo S X [.ref (lo (10, 0, 0)), .int i_1]) (zQ0 Γ lo S S X (some (.ref (lo (9, y, 0)))) (zV S (9, y, 0) = true)) 0 0 (zA Γ) := by
  refine Met.ofW (cc := cX9_demandVan) (maxL := 2) (ret := (some (.object "TiltRoute$Van"))) (by decide) rfl ?_
  intro p e s m args below meth c s₁ B hml hv
  obtain ⟨rfl, hW, hKK⟩ := hv
  have hx := B.exec
  have hb := B.bytes
  have hr := B.returns
  have hts := atoms_spec (ws := wsX9_demandVan) B.pre
  have hown : s.vm.findClass RX9 = some m.cls := findClass_of_methodNamed B.named
  have hlocks := B.notSynchronized
  have hS : va_S (zA Γ) s.heap s.heap [] := va_S.rf
  have hm : ∀ c, zV S c = zV S c := fun _ => rfl
  have hl := lv_entry ([.ref (lo (10, 0, 0)), .int i_1]) (n := 2) (Nat.le_of_ble_eq_true rfl)
  rw [lg_entry_eq]
  generalize (lg_sl ([.ref (lo (10, 0, 0)), .int i_1]) ++ List.replicate (2 - (lg_sl ([.ref (lo (10, 0, 0)), .int i_1])).length) Slot.unset).toArray = ls at hl ⊢
  have hl : lv_has ls 2 [(0, .ref (lo (10, 0, 0))), (1, .int i_1)] := hl
  obtain ⟨H, hH0⟩ : ∃ H, H = s.heap := ⟨_, rfl⟩
  obtain ⟨locs, hlo0⟩ : ∃ L : List Loc, L = [] := ⟨_, rfl⟩
  have hS : va_S (zA Γ) s.heap H locs := by rw [hH0, hlo0]; exact hS
  have hW : Wd Γ lo S X H := by rw [hH0]; exact hW
  rw [← hH0, ← hlo0]
  unfold fX9_demandVan at hf
  refine lv_iload_n hx hb dX9_demandVan_0 rfl (lv_at hl 1 rfl) ?_
  obtain ⟨j1, ej1, hf⟩ := op_st hf
  have hj1 : ∀ (u_ : Unit) (H : Heap) (locs : List Loc) (ls : Array Slot), lv_has ls 2 [(0, .ref (lo (10, 0, 0))), (1, .int i_1)] → Wd Γ lo S X H → va_S (zA Γ) s.heap H locs → (∀ c, zV S c = zV S c) → j1 () = some (Sum.inr y) → W p l e (headSpec wsX9_demandVan rmX9_demandVan).room s m ([.ref (lo (10, 0, 0)), .int i_1] : List Value).toArray below meth c H locs 0 0 (MQ below (zQ0 Γ lo S S X (some (.ref (lo (9, y, 0)))) (zV S (9, y, 0) = true)) ([.ref (lo (10, 0, 0)), .int i_1] : List Value).toArray s 0 0 (zA Γ)) (F0 m 20 ls []) := by
    intro u_ H locs ls  hl hW hS hm hf
    rw [ej1] at hf
    refine lv_iload_n hx hb dX9_demandVan_20 rfl (lv_at hl 1 rfl) ?_
    refine lv_if_ne (tgt := 31) hx hb dX9_demandVan_21 (by decide) (fun k21 => ?_) (fun k21 => ?_)
    · have hf := (op_if hf).2 k21
      refine lv_aload_n hx hb dX9_demandVan_31 rfl (lv_at hl 0 rfl) ?_
      refine va_get hx hb hts ni_X9_demandVan_X9 hown hKK.1 (wd_1 hW v_z) 0 rfl rfl 3 (by decide) (hts (.fieldLink RX9 26 "TiltRoute" "secondVan" "LTiltRoute$Van;") (List.mem_of_getElem? (i := 4) rfl)) (fun _ h => h) rfl dX9_demandVan_32 ?_
      have v2 : zV S (9, 1, 0) = true := vf_10_3 hW v_z
      have hf := Option.some.inj hf
      have hf := Sum.inr.inj hf
      rw [← hf]
      exact z_aret2 hx hb hr hlocks hW hS hm v2 dX9_demandVan_35
    · have hf := (op_if hf).1 k21
      refine lv_aload_n hx hb dX9_demandVan_24 rfl (lv_at hl 0 rfl) ?_
      refine va_get hx hb hts ni_X9_demandVan_X9 hown hKK.1 (wd_1 hW v_z) 0 rfl rfl 2 (by decide) (hts (.fieldLink RX9 22 "TiltRoute" "firstVan" "LTiltRoute$Van;") (List.mem_of_getElem? (i := 3) rfl)) (fun _ h => h) rfl dX9_demandVan_25 ?_
      have v3 : zV S (9, 0, 0) = true := vf_10_2 hW v_z
      refine lv_goto (tgt := 35) hx hb dX9_demandVan_28 (by decide) ?_
      have hf := Option.some.inj hf
      have hf := Sum.inr.inj hf
      rw [← hf]
      exact z_aret2 hx hb hr hlocks hW hS hm v3 dX9_demandVan_35
  refine lv_if_eq (tgt := 20) hx hb dX9_demandVan_1 (by decide) (fun k1 => ?_) (fun k1 => ?_)
  · have hf := (op_if hf).1 k1
    exact hj1 () H locs ls  (lv_sub hl [0, 1] rfl) hW hS hm hf
  · have hf := (op_if hf).2 k1
    refine lv_iload_n hx hb dX9_demandVan_4 rfl (lv_at hl 1 rfl) ?_
    refine lv_iconst (v := (1)) hx hb dX9_demandVan_5 (by decide) ?_
    refine lv_icmp_eq (tgt := 20) hx hb dX9_demandVan_6 (by decide) (fun k6 => ?_) (fun k6 => ?_)
    · have hf := (op_if hf).1 k6
      exact hj1 () H locs ls  (lv_sub hl [0, 1] rfl) hW hS hm hf
    · have hf := (op_if hf).2 k6
      have hf := Option.some.inj hf
      cases hf
theorem xs_X9_demandVan_9 : ∀ w ∈ (vx_atS "TiltRoute" 279 (zEx 1) zXn).filter goodWord, w ∈ wsX9_demandVan := by decide +kernel
theorem xs_X9_demandVan_9b : ∀ w ∈ (vx_atS "TiltRoute" 279 (zEx 1) zXn).filter (fun w => !goodWord w), w ∈ [Cond.castable (zEx 1) (zEx 1), .declares (Bundle.initS "java/lang/RuntimeException"), .declares (Bundle.initS "java/lang/Exception"), .declares (Bundle.initS Bundle.tN)] := by decide +kernel
theorem xs_X9_demandVan_9c : ∀ w ∈ Cond.classLink "TiltRoute" 275 (zEx 1) :: Cond.initialized (zEx 1) :: vx_atS "TiltRoute" 279 (zEx 1) zXn, vx_ot w = true := by decide +kernel
abbrev rnX9_demandVan : Room := { frames := 6, cells := 1, slots := 6, locals := 82 }
set_option maxHeartbeats 4000000 in
set_option maxRecDepth 100000 in
theorem uX9_demandVan (l : Launch) (hl0 : l.stackTraces = false) (Γ : zG) (lo : zId → Nat) (S : zSt) (X : va_W) {i_1 : Int32} (v_z : zV S (10, 0, 0) = true) {ee : Nat × zSt} (hf : fX9_demandVan S i_1 = some (Sum.inl ee)) : vx_Met l yX9_demandVan wsX9_demandVan rnX9_demandVan (zP1 Γ lo S X [.ref (lo (10, 0, 0)), .int i_1]) zF (zT Γ lo S X ee) 1 6 (zA Γ) := by
  refine vx_ofW (cc := cX9_demandVan) (maxL := 2) (ret := (some (.object "TiltRoute$Van"))) (by decide) rfl ?_
  intro p e s m args below meth c s₁ B hml ht hv
  obtain ⟨rfl, hW, hKK, hKX⟩ := hv
  have hx := B.exec
  have hb := B.bytes
  have hr := B.returns
  have hts := atoms_spec (ws := wsX9_demandVan) B.pre
  have hown : s.vm.findClass RX9 = some m.cls := findClass_of_methodNamed B.named
  have hlocks := B.notSynchronized
  have hS : va_S (zA Γ) s.heap s.heap [] := va_S.rf
  have hm : ∀ c, zV S c = zV S c := fun _ => rfl
  have hl := lv_entry ([.ref (lo (10, 0, 0)), .int i_1]) (n := 2) (Nat.le_of_ble_eq_true rfl)
  rw [lg_entry_eq]
  generalize (lg_sl ([.ref (lo (10, 0, 0)), .int i_1]) ++ List.replicate (2 - (lg_sl ([.ref (lo (10, 0, 0)), .int i_1])).length) Slot.unset).toArray = ls at hl ⊢
  have hl : lv_has ls 2 [(0, .ref (lo (10, 0, 0))), (1, .int i_1)] := hl
  obtain ⟨H, hH0⟩ : ∃ H, H = s.heap := ⟨_, rfl⟩
  obtain ⟨locs, hlo0⟩ : ∃ L : List Loc, L = [] := ⟨_, rfl⟩
  have hS : va_S (zA Γ) s.heap H locs := by rw [hH0, hlo0]; exact hS
  have hW : Wd Γ lo S X H := by rw [hH0]; exact hW
  rw [← hH0, ← hlo0]
  unfold fX9_demandVan at hf
  refine lv_iload_n hx hb dX9_demandVan_0 rfl (lv_at hl 1 rfl) ?_
  obtain ⟨j1, ej1, hf⟩ := op_st hf
  have hj1 : ∀ (u_ : Unit) (H : Heap) (locs : List Loc) (ls : Array Slot), lv_has ls 2 [(0, .ref (lo (10, 0, 0))), (1, .int i_1)] → Wd Γ lo S X H → va_S (zA Γ) s.heap H locs → (∀ c, zV S c = zV S c) → j1 () = some (Sum.inl ee) → W p l e (headSpec wsX9_demandVan rnX9_demandVan).room s m ([.ref (lo (10, 0, 0)), .int i_1] : List Value).toArray below meth c H locs 0 0 (vx_MQ below zF (zT Γ lo S X ee) ([.ref (lo (10, 0, 0)), .int i_1] : List Value).toArray s 1 6 (zA Γ)) (F0 m 20 ls []) := by
    intro u_ H locs ls  hl hW hS hm hf
    rw [ej1] at hf
    refine lv_iload_n hx hb dX9_demandVan_20 rfl (lv_at hl 1 rfl) ?_
    refine lv_if_ne (tgt := 31) hx hb dX9_demandVan_21 (by decide) (fun k21 => ?_) (fun k21 => ?_)
    · have hf := (op_if hf).2 k21
      refine lv_aload_n hx hb dX9_demandVan_31 rfl (lv_at hl 0 rfl) ?_
      refine va_get hx hb hts ni_X9_demandVan_X9 hown hKK.1 (wd_1 hW v_z) 0 rfl rfl 3 (by decide) (hts (.fieldLink RX9 26 "TiltRoute" "secondVan" "LTiltRoute$Van;") (List.mem_of_getElem? (i := 4) rfl)) (fun _ h => h) rfl dX9_demandVan_32 ?_
      have v2 : zV S (9, 1, 0) = true := vf_10_3 hW v_z
      have hf := Option.some.inj hf
      cases hf
    · have hf := (op_if hf).1 k21
      refine lv_aload_n hx hb dX9_demandVan_24 rfl (lv_at hl 0 rfl) ?_
      refine va_get hx hb hts ni_X9_demandVan_X9 hown hKK.1 (wd_1 hW v_z) 0 rfl rfl 2 (by decide) (hts (.fieldLink RX9 22 "TiltRoute" "firstVan" "LTiltRoute$Van;") (List.mem_of_getElem? (i := 3) rfl)) (fun _ h => h) rfl dX9_demandVan_25 ?_
      have v3 : zV S (9, 0, 0) = true := vf_10_2 hW v_z
      refine lv_goto (tgt := 35) hx hb dX9_demandVan_28 (by decide) ?_
      have hf := Option.some.inj hf
      cases hf
  refine lv_if_eq (tgt := 20) hx hb dX9_demandVan_1 (by decide) (fun k1 => ?_) (fun k1 => ?_)
  · have hf := (op_if hf).1 k1
    exact hj1 () H locs ls  (lv_sub hl [0, 1] rfl) hW hS hm hf
  · have hf := (op_if hf).2 k1
    refine lv_iload_n hx hb dX9_demandVan_4 rfl (lv_at hl 1 rfl) ?_
    refine lv_iconst (v := (1)) hx hb dX9_demandVan_5 (by decide) ?_
    refine lv_icmp_eq (tgt := 20) hx hb dX9_demandVan_6 (by decide) (fun k6 => ?_) (fun k6 => ?_)
    · have hf := (op_if hf).1 k6
      exact hj1 () H locs ls  (lv_sub hl [0, 1] rfl) hW hS hm hf
    · have hf := (op_if hf).2 k6
      have hf := Option.some.inj hf
      have hf := Sum.inl.inj hf
      rw [← hf]
      exact zx_thrW (ee := (1, S)) hx hb hl0 hts hown (hts (.classLink RX9 275 "java/lang/IndexOutOfBoundsException") (List.mem_of_getElem? (i := 1) rfl)) (hts (.initialized "java/lang/IndexOutOfBoundsException") (List.mem_of_getElem? (i := 2) rfl)) (List.mem_of_getElem? (i := 12) rfl) xs_X9_demandVan_9 xs_X9_demandVan_9b (show Bundle.fit (zEx 1) = true by decide) xs_X9_demandVan_9c hKK hKX hS (hl.1.trans hml.symm) dX9_demandVan_9 dX9_demandVan_12 dX9_demandVan_13 dX9_demandVan_16 dX9_demandVan_19 ht (Nat.le_of_ble_eq_true rfl) (Nat.le_of_ble_eq_true rfl) (Nat.le_of_ble_eq_true rfl) (Nat.le_of_ble_eq_true rfl) hlocks hW hm

def fX9_demandIndex (S : zSt) (i_1 : Int32) (i_2 : Int32) : Option ((Nat × zSt) ⊕ Unit) :=
st (fun (u_ : Unit) => (some (.inl (1, S)) : Option ((Nat × zSt) ⊕ Unit))) fun j1 =>
if i_1 < 0 then
j1 ()
else
if i_1 < i_2 then
some (.inr ())
else
j1 ()
abbrev rmX9_demandIndex : Room := { frames := 0, cells := 0, slots := 0, locals := 0 }
set_option maxHeartbeats 4000000 in
set_option maxRecDepth 100000 in
theorem tX9_demandIndex (l : Launch) (Γ : zG) (lo : zId → Nat) (S : zSt) (X : va_W) {i_1 : Int32} {i_2 : Int32}  {y : Unit} (hf : fX9_demandIndex S i_1 i_2 = some (Sum.inr y)) : Met l yX9_demandIndex wsX9_demandIndex rmX9_demandIndex (zP0 Γ lo S X [.int i_1, .int i_2]) (zQ0 Γ lo S S X none True) 0 0 (zA Γ) := by
  refine Met.ofW (cc := cX9_demandIndex) (maxL := 2) (ret := none) (by decide) rfl ?_
  intro p e s m args below meth c s₁ B hml hv
  obtain ⟨rfl, hW, hKK⟩ := hv
  have hx := B.exec
  have hb := B.bytes
  have hr := B.returns
  have hts := atoms_spec (ws := wsX9_demandIndex) B.pre
  have hown : s.vm.findClass RX9 = some m.cls := findClass_of_methodNamed B.named
  have hlocks := B.notSynchronized
  have hS : va_S (zA Γ) s.heap s.heap [] := va_S.rf
  have hm : ∀ c, zV S c = zV S c := fun _ => rfl
  have hl := lv_entry ([.int i_1, .int i_2]) (n := 2) (Nat.le_of_ble_eq_true rfl)
  rw [lg_entry_eq]
  generalize (lg_sl ([.int i_1, .int i_2]) ++ List.replicate (2 - (lg_sl ([.int i_1, .int i_2])).length) Slot.unset).toArray = ls at hl ⊢
  have hl : lv_has ls 2 [(0, .int i_1), (1, .int i_2)] := hl
  obtain ⟨H, hH0⟩ : ∃ H, H = s.heap := ⟨_, rfl⟩
  obtain ⟨locs, hlo0⟩ : ∃ L : List Loc, L = [] := ⟨_, rfl⟩
  have hS : va_S (zA Γ) s.heap H locs := by rw [hH0, hlo0]; exact hS
  have hW : Wd Γ lo S X H := by rw [hH0]; exact hW
  rw [← hH0, ← hlo0]
  unfold fX9_demandIndex at hf
  refine lv_iload_n hx hb dX9_demandIndex_0 rfl (lv_at hl 0 rfl) ?_
  obtain ⟨j1, ej1, hf⟩ := op_st hf
  have hj1 : ∀ (u_ : Unit) (H : Heap) (locs : List Loc) (ls : Array Slot), lv_has ls 2 [] → Wd Γ lo S X H → va_S (zA Γ) s.heap H locs → (∀ c, zV S c = zV S c) → j1 () = some (Sum.inr y) → W p l e (headSpec wsX9_demandIndex rmX9_demandIndex).room s m ([.int i_1, .int i_2] : List Value).toArray below meth c H locs 0 0 (MQ below (zQ0 Γ lo S S X none True) ([.int i_1, .int i_2] : List Value).toArray s 0 0 (zA Γ)) (F0 m 9 ls []) := by
    intro u_ H locs ls  hl hW hS hm hf
    rw [ej1] at hf
    have hf := Option.some.inj hf
    cases hf
  refine lv_if_lt (tgt := 9) hx hb dX9_demandIndex_1 (by decide) (fun k1 => ?_) (fun k1 => ?_)
  · have hf := (op_if hf).1 k1
    exact hj1 () H locs ls  (lv_sub hl [] rfl) hW hS hm hf
  · have hf := (op_if hf).2 k1
    refine lv_iload_n hx hb dX9_demandIndex_4 rfl (lv_at hl 0 rfl) ?_
    refine lv_iload_n hx hb dX9_demandIndex_5 rfl (lv_at hl 1 rfl) ?_
    refine lv_icmp_lt (tgt := 20) hx hb dX9_demandIndex_6 (by decide) (fun k6 => ?_) (fun k6 => ?_)
    · have hf := (op_if hf).1 k6
      have hf := Option.some.inj hf
      have hf := Sum.inr.inj hf
      exact z_vret hx hb hr hlocks hW hS hm trivial dX9_demandIndex_20
    · have hf := (op_if hf).2 k6
      exact hj1 () H locs ls  (lv_sub hl [] rfl) hW hS hm hf
theorem xs_X9_demandIndex_9 : ∀ w ∈ (vx_atS "TiltRoute" 279 (zEx 1) zXn).filter goodWord, w ∈ wsX9_demandIndex := by decide +kernel
theorem xs_X9_demandIndex_9b : ∀ w ∈ (vx_atS "TiltRoute" 279 (zEx 1) zXn).filter (fun w => !goodWord w), w ∈ [Cond.castable (zEx 1) (zEx 1), .declares (Bundle.initS "java/lang/RuntimeException"), .declares (Bundle.initS "java/lang/Exception"), .declares (Bundle.initS Bundle.tN)] := by decide +kernel
theorem xs_X9_demandIndex_9c : ∀ w ∈ Cond.classLink "TiltRoute" 275 (zEx 1) :: Cond.initialized (zEx 1) :: vx_atS "TiltRoute" 279 (zEx 1) zXn, vx_ot w = true := by decide +kernel
abbrev rnX9_demandIndex : Room := { frames := 6, cells := 1, slots := 6, locals := 82 }
set_option maxHeartbeats 4000000 in
set_option maxRecDepth 100000 in
theorem uX9_demandIndex (l : Launch) (hl0 : l.stackTraces = false) (Γ : zG) (lo : zId → Nat) (S : zSt) (X : va_W) {i_1 : Int32} {i_2 : Int32}  {ee : Nat × zSt} (hf : fX9_demandIndex S i_1 i_2 = some (Sum.inl ee)) : vx_Met l yX9_demandIndex wsX9_demandIndex rnX9_demandIndex (zP1 Γ lo S X [.int i_1, .int i_2]) zF (zT Γ lo S X ee) 1 6 (zA Γ) := by
  refine vx_ofW (cc := cX9_demandIndex) (maxL := 2) (ret := none) (by decide) rfl ?_
  intro p e s m args below meth c s₁ B hml ht hv
  obtain ⟨rfl, hW, hKK, hKX⟩ := hv
  have hx := B.exec
  have hb := B.bytes
  have hr := B.returns
  have hts := atoms_spec (ws := wsX9_demandIndex) B.pre
  have hown : s.vm.findClass RX9 = some m.cls := findClass_of_methodNamed B.named
  have hlocks := B.notSynchronized
  have hS : va_S (zA Γ) s.heap s.heap [] := va_S.rf
  have hm : ∀ c, zV S c = zV S c := fun _ => rfl
  have hl := lv_entry ([.int i_1, .int i_2]) (n := 2) (Nat.le_of_ble_eq_true rfl)
  rw [lg_entry_eq]
  generalize (lg_sl ([.int i_1, .int i_2]) ++ List.replicate (2 - (lg_sl ([.int i_1, .int i_2])).length) Slot.unset).toArray = ls at hl ⊢
  have hl : lv_has ls 2 [(0, .int i_1), (1, .int i_2)] := hl
  obtain ⟨H, hH0⟩ : ∃ H, H = s.heap := ⟨_, rfl⟩
  obtain ⟨locs, hlo0⟩ : ∃ L : List Loc, L = [] := ⟨_, rfl⟩
  have hS : va_S (zA Γ) s.heap H locs := by rw [hH0, hlo0]; exact hS
  have hW : Wd Γ lo S X H := by rw [hH0]; exact hW
  rw [← hH0, ← hlo0]
  unfold fX9_demandIndex at hf
  refine lv_iload_n hx hb dX9_demandIndex_0 rfl (lv_at hl 0 rfl) ?_
  obtain ⟨j1, ej1, hf⟩ := op_st hf
  have hj1 : ∀ (u_ : Unit) (H : Heap) (locs : List Loc) (ls : Array Slot), lv_has ls 2 [] → Wd Γ lo S X H → va_S (zA Γ) s.heap H locs → (∀ c, zV S c = zV S c) → j1 () = some (Sum.inl ee) → W p l e (headSpec wsX9_demandIndex rnX9_demandIndex).room s m ([.int i_1, .int i_2] : List Value).toArray below meth c H locs 0 0 (vx_MQ below zF (zT Γ lo S X ee) ([.int i_1, .int i_2] : List Value).toArray s 1 6 (zA Γ)) (F0 m 9 ls []) := by
    intro u_ H locs ls  hl hW hS hm hf
    rw [ej1] at hf
    have hf := Option.some.inj hf
    have hf := Sum.inl.inj hf
    rw [← hf]
    exact zx_thrW (ee := (1, S)) hx hb hl0 hts hown (hts (.classLink RX9 275 "java/lang/IndexOutOfBoundsException") (List.mem_of_getElem? (i := 1) rfl)) (hts (.initialized "java/lang/IndexOutOfBoundsException") (List.mem_of_getElem? (i := 2) rfl)) (List.mem_of_getElem? (i := 13) rfl) xs_X9_demandIndex_9 xs_X9_demandIndex_9b (show Bundle.fit (zEx 1) = true by decide) xs_X9_demandIndex_9c hKK hKX hS (hl.1.trans hml.symm) dX9_demandIndex_9 dX9_demandIndex_12 dX9_demandIndex_13 dX9_demandIndex_16 dX9_demandIndex_19 ht (Nat.le_of_ble_eq_true rfl) (Nat.le_of_ble_eq_true rfl) (Nat.le_of_ble_eq_true rfl) (Nat.le_of_ble_eq_true rfl) hlocks hW hm
  refine lv_if_lt (tgt := 9) hx hb dX9_demandIndex_1 (by decide) (fun k1 => ?_) (fun k1 => ?_)
  · have hf := (op_if hf).1 k1
    exact hj1 () H locs ls  (lv_sub hl [] rfl) hW hS hm hf
  · have hf := (op_if hf).2 k1
    refine lv_iload_n hx hb dX9_demandIndex_4 rfl (lv_at hl 0 rfl) ?_
    refine lv_iload_n hx hb dX9_demandIndex_5 rfl (lv_at hl 1 rfl) ?_
    refine lv_icmp_lt (tgt := 20) hx hb dX9_demandIndex_6 (by decide) (fun k6 => ?_) (fun k6 => ?_)
    · have hf := (op_if hf).1 k6
      have hf := Option.some.inj hf
      cases hf
    · have hf := (op_if hf).2 k6
      exact hj1 () H locs ls  (lv_sub hl [] rfl) hW hS hm hf

def fX9_demandRange (S : zSt) (i_1 : Int32) (i_2 : Int32) (i_3 : Int32) : Option ((Nat × zSt) ⊕ Unit) :=
st (fun (u_ : Unit) => (some (.inl (2, S)) : Option ((Nat × zSt) ⊕ Unit))) fun j1 =>
if i_1 < i_2 then
j1 ()
else
if i_1 ≤ i_3 then
some (.inr ())
else
j1 ()
abbrev rmX9_demandRange : Room := { frames := 0, cells := 0, slots := 0, locals := 0 }
set_option maxHeartbeats 4000000 in
set_option maxRecDepth 100000 in
theorem tX9_demandRange (l : Launch) (Γ : zG) (lo : zId → Nat) (S : zSt) (X : va_W) {i_1 : Int32} {i_2 : Int32} {i_3 : Int32}  {y : Unit} (hf : fX9_demandRange S i_1 i_2 i_3 = some (Sum.inr y)) : Met l yX9_demandRange wsX9_demandRange rmX9_demandRange (zP0 Γ lo S X [.int i_1, .int i_2, .int i_3]) (zQ0 Γ lo S S X none True) 0 0 (zA Γ) := by
  refine Met.ofW (cc := cX9_demandRange) (maxL := 3) (ret := none) (by decide) rfl ?_
  intro p e s m args below meth c s₁ B hml hv
  obtain ⟨rfl, hW, hKK⟩ := hv
  have hx := B.exec
  have hb := B.bytes
  have hr := B.returns
  have hts := atoms_spec (ws := wsX9_demandRange) B.pre
  have hown : s.vm.findClass RX9 = some m.cls := findClass_of_methodNamed B.named
  have hlocks := B.notSynchronized
  have hS : va_S (zA Γ) s.heap s.heap [] := va_S.rf
  have hm : ∀ c, zV S c = zV S c := fun _ => rfl
  have hl := lv_entry ([.int i_1, .int i_2, .int i_3]) (n := 3) (Nat.le_of_ble_eq_true rfl)
  rw [lg_entry_eq]
  generalize (lg_sl ([.int i_1, .int i_2, .int i_3]) ++ List.replicate (3 - (lg_sl ([.int i_1, .int i_2, .int i_3])).length) Slot.unset).toArray = ls at hl ⊢
  have hl : lv_has ls 3 [(0, .int i_1), (1, .int i_2), (2, .int i_3)] := hl
  obtain ⟨H, hH0⟩ : ∃ H, H = s.heap := ⟨_, rfl⟩
  obtain ⟨locs, hlo0⟩ : ∃ L : List Loc, L = [] := ⟨_, rfl⟩
  have hS : va_S (zA Γ) s.heap H locs := by rw [hH0, hlo0]; exact hS
  have hW : Wd Γ lo S X H := by rw [hH0]; exact hW
  rw [← hH0, ← hlo0]
  unfold fX9_demandRange at hf
  refine lv_iload_n hx hb dX9_demandRange_0 rfl (lv_at hl 0 rfl) ?_
  refine lv_iload_n hx hb dX9_demandRange_1 rfl (lv_at hl 1 rfl) ?_
  obtain ⟨j1, ej1, hf⟩ := op_st hf
  have hj1 : ∀ (u_ : Unit) (H : Heap) (locs : List Loc) (ls : Array Slot), lv_has ls 3 [] → Wd Γ lo S X H → va_S (zA Γ) s.heap H locs → (∀ c, zV S c = zV S c) → j1 () = some (Sum.inr y) → W p l e (headSpec wsX9_demandRange rmX9_demandRange).room s m ([.int i_1, .int i_2, .int i_3] : List Value).toArray below meth c H locs 0 0 (MQ below (zQ0 Γ lo S S X none True) ([.int i_1, .int i_2, .int i_3] : List Value).toArray s 0 0 (zA Γ)) (F0 m 10 ls []) := by
    intro u_ H locs ls  hl hW hS hm hf
    rw [ej1] at hf
    have hf := Option.some.inj hf
    cases hf
  refine lv_icmp_lt (tgt := 10) hx hb dX9_demandRange_2 (by decide) (fun k2 => ?_) (fun k2 => ?_)
  · have hf := (op_if hf).1 k2
    exact hj1 () H locs ls  (lv_sub hl [] rfl) hW hS hm hf
  · have hf := (op_if hf).2 k2
    refine lv_iload_n hx hb dX9_demandRange_5 rfl (lv_at hl 0 rfl) ?_
    refine lv_iload_n hx hb dX9_demandRange_6 rfl (lv_at hl 2 rfl) ?_
    refine lv_icmp_le (tgt := 21) hx hb dX9_demandRange_7 (by decide) (fun k7 => ?_) (fun k7 => ?_)
    · have hf := (op_if hf).1 k7
      have hf := Option.some.inj hf
      have hf := Sum.inr.inj hf
      exact z_vret hx hb hr hlocks hW hS hm trivial dX9_demandRange_21
    · have hf := (op_if hf).2 k7
      exact hj1 () H locs ls  (lv_sub hl [] rfl) hW hS hm hf
theorem xs_X9_demandRange_10 : ∀ w ∈ (vx_atS "TiltRoute" 292 (zEx 2) zXn).filter goodWord, w ∈ wsX9_demandRange := by decide +kernel
theorem xs_X9_demandRange_10b : ∀ w ∈ (vx_atS "TiltRoute" 292 (zEx 2) zXn).filter (fun w => !goodWord w), w ∈ [Cond.castable (zEx 2) (zEx 2), .declares (Bundle.initS "java/lang/RuntimeException"), .declares (Bundle.initS "java/lang/Exception"), .declares (Bundle.initS Bundle.tN)] := by decide +kernel
theorem xs_X9_demandRange_10c : ∀ w ∈ Cond.classLink "TiltRoute" 288 (zEx 2) :: Cond.initialized (zEx 2) :: vx_atS "TiltRoute" 292 (zEx 2) zXn, vx_ot w = true := by decide +kernel
abbrev rnX9_demandRange : Room := { frames := 6, cells := 1, slots := 6, locals := 82 }
set_option maxHeartbeats 4000000 in
set_option maxRecDepth 100000 in
theorem uX9_demandRange (l : Launch) (hl0 : l.stackTraces = false) (Γ : zG) (lo : zId → Nat) (S : zSt) (X : va_W) {i_1 : Int32} {i_2 : Int32} {i_3 : Int32}  {ee : Nat × zSt} (hf : fX9_demandRange S i_1 i_2 i_3 = some (Sum.inl ee)) : vx_Met l yX9_demandRange wsX9_demandRange rnX9_demandRange (zP1 Γ lo S X [.int i_1, .int i_2, .int i_3]) zF (zT Γ lo S X ee) 1 6 (zA Γ) := by
  refine vx_ofW (cc := cX9_demandRange) (maxL := 3) (ret := none) (by decide) rfl ?_
  intro p e s m args below meth c s₁ B hml ht hv
  obtain ⟨rfl, hW, hKK, hKX⟩ := hv
  have hx := B.exec
  have hb := B.bytes
  have hr := B.returns
  have hts := atoms_spec (ws := wsX9_demandRange) B.pre
  have hown : s.vm.findClass RX9 = some m.cls := findClass_of_methodNamed B.named
  have hlocks := B.notSynchronized
  have hS : va_S (zA Γ) s.heap s.heap [] := va_S.rf
  have hm : ∀ c, zV S c = zV S c := fun _ => rfl
  have hl := lv_entry ([.int i_1, .int i_2, .int i_3]) (n := 3) (Nat.le_of_ble_eq_true rfl)
  rw [lg_entry_eq]
  generalize (lg_sl ([.int i_1, .int i_2, .int i_3]) ++ List.replicate (3 - (lg_sl ([.int i_1, .int i_2, .int i_3])).length) Slot.unset).toArray = ls at hl ⊢
  have hl : lv_has ls 3 [(0, .int i_1), (1, .int i_2), (2, .int i_3)] := hl
  obtain ⟨H, hH0⟩ : ∃ H, H = s.heap := ⟨_, rfl⟩
  obtain ⟨locs, hlo0⟩ : ∃ L : List Loc, L = [] := ⟨_, rfl⟩
  have hS : va_S (zA Γ) s.heap H locs := by rw [hH0, hlo0]; exact hS
  have hW : Wd Γ lo S X H := by rw [hH0]; exact hW
  rw [← hH0, ← hlo0]
  unfold fX9_demandRange at hf
  refine lv_iload_n hx hb dX9_demandRange_0 rfl (lv_at hl 0 rfl) ?_
  refine lv_iload_n hx hb dX9_demandRange_1 rfl (lv_at hl 1 rfl) ?_
  obtain ⟨j1, ej1, hf⟩ := op_st hf
  have hj1 : ∀ (u_ : Unit) (H : Heap) (locs : List Loc) (ls : Array Slot), lv_has ls 3 [] → Wd Γ lo S X H → va_S (zA Γ) s.heap H locs → (∀ c, zV S c = zV S c) → j1 () = some (Sum.inl ee) → W p l e (headSpec wsX9_demandRange rnX9_demandRange).room s m ([.int i_1, .int i_2, .int i_3] : List Value).toArray below meth c H locs 0 0 (vx_MQ below zF (zT Γ lo S X ee) ([.int i_1, .int i_2, .int i_3] : List Value).toArray s 1 6 (zA Γ)) (F0 m 10 ls []) := by
    intro u_ H locs ls  hl hW hS hm hf
    rw [ej1] at hf
    have hf := Option.some.inj hf
    have hf := Sum.inl.inj hf
    rw [← hf]
    exact zx_thrW (ee := (2, S)) hx hb hl0 hts hown (hts (.classLink RX9 288 "java/lang/IllegalArgumentException") (List.mem_of_getElem? (i := 1) rfl)) (hts (.initialized "java/lang/IllegalArgumentException") (List.mem_of_getElem? (i := 2) rfl)) (List.mem_of_getElem? (i := 14) rfl) xs_X9_demandRange_10 xs_X9_demandRange_10b (show Bundle.fit (zEx 2) = true by decide) xs_X9_demandRange_10c hKK hKX hS (hl.1.trans hml.symm) dX9_demandRange_10 dX9_demandRange_13 dX9_demandRange_14 dX9_demandRange_17 dX9_demandRange_20 ht (Nat.le_of_ble_eq_true rfl) (Nat.le_of_ble_eq_true rfl) (Nat.le_of_ble_eq_true rfl) (Nat.le_of_ble_eq_true rfl) hlocks hW hm
  refine lv_icmp_lt (tgt := 10) hx hb dX9_demandRange_2 (by decide) (fun k2 => ?_) (fun k2 => ?_)
  · have hf := (op_if hf).1 k2
    exact hj1 () H locs ls  (lv_sub hl [] rfl) hW hS hm hf
  · have hf := (op_if hf).2 k2
    refine lv_iload_n hx hb dX9_demandRange_5 rfl (lv_at hl 0 rfl) ?_
    refine lv_iload_n hx hb dX9_demandRange_6 rfl (lv_at hl 2 rfl) ?_
    refine lv_icmp_le (tgt := 21) hx hb dX9_demandRange_7 (by decide) (fun k7 => ?_) (fun k7 => ?_)
    · have hf := (op_if hf).1 k7
      have hf := Option.some.inj hf
      cases hf
    · have hf := (op_if hf).2 k7
      exact hj1 () H locs ls  (lv_sub hl [] rfl) hW hS hm hf

def fX9_demandLeast (S : zSt) (i_1 : Int32) (i_2 : Int32) : Option ((Nat × zSt) ⊕ Unit) :=
if i_2 ≤ i_1 then
some (.inr ())
else
some (.inl (2, S))
abbrev rmX9_demandLeast : Room := { frames := 0, cells := 0, slots := 0, locals := 0 }
set_option maxHeartbeats 4000000 in
set_option maxRecDepth 100000 in
theorem tX9_demandLeast (l : Launch) (Γ : zG) (lo : zId → Nat) (S : zSt) (X : va_W) {i_1 : Int32} {i_2 : Int32}  {y : Unit} (hf : fX9_demandLeast S i_1 i_2 = some (Sum.inr y)) : Met l yX9_demandLeast wsX9_demandLeast rmX9_demandLeast (zP0 Γ lo S X [.int i_1, .int i_2]) (zQ0 Γ lo S S X none True) 0 0 (zA Γ) := by
  refine Met.ofW (cc := cX9_demandLeast) (maxL := 2) (ret := none) (by decide) rfl ?_
  intro p e s m args below meth c s₁ B hml hv
  obtain ⟨rfl, hW, hKK⟩ := hv
  have hx := B.exec
  have hb := B.bytes
  have hr := B.returns
  have hts := atoms_spec (ws := wsX9_demandLeast) B.pre
  have hown : s.vm.findClass RX9 = some m.cls := findClass_of_methodNamed B.named
  have hlocks := B.notSynchronized
  have hS : va_S (zA Γ) s.heap s.heap [] := va_S.rf
  have hm : ∀ c, zV S c = zV S c := fun _ => rfl
  have hl := lv_entry ([.int i_1, .int i_2]) (n := 2) (Nat.le_of_ble_eq_true rfl)
  rw [lg_entry_eq]
  generalize (lg_sl ([.int i_1, .int i_2]) ++ List.replicate (2 - (lg_sl ([.int i_1, .int i_2])).length) Slot.unset).toArray = ls at hl ⊢
  have hl : lv_has ls 2 [(0, .int i_1), (1, .int i_2)] := hl
  obtain ⟨H, hH0⟩ : ∃ H, H = s.heap := ⟨_, rfl⟩
  obtain ⟨locs, hlo0⟩ : ∃ L : List Loc, L = [] := ⟨_, rfl⟩
  have hS : va_S (zA Γ) s.heap H locs := by rw [hH0, hlo0]; exact hS
  have hW : Wd Γ lo S X H := by rw [hH0]; exact hW
  rw [← hH0, ← hlo0]
  unfold fX9_demandLeast at hf
  refine lv_iload_n hx hb dX9_demandLeast_0 rfl (lv_at hl 0 rfl) ?_
  refine lv_iload_n hx hb dX9_demandLeast_1 rfl (lv_at hl 1 rfl) ?_
  refine lv_icmp_ge (tgt := 16) hx hb dX9_demandLeast_2 (by decide) (fun k2 => ?_) (fun k2 => ?_)
  · have hf := (op_if hf).1 k2
    have hf := Option.some.inj hf
    have hf := Sum.inr.inj hf
    exact z_vret hx hb hr hlocks hW hS hm trivial dX9_demandLeast_16
  · have hf := (op_if hf).2 k2
    have hf := Option.some.inj hf
    cases hf
theorem xs_X9_demandLeast_5 : ∀ w ∈ (vx_atS "TiltRoute" 292 (zEx 2) zXn).filter goodWord, w ∈ wsX9_demandLeast := by decide +kernel
theorem xs_X9_demandLeast_5b : ∀ w ∈ (vx_atS "TiltRoute" 292 (zEx 2) zXn).filter (fun w => !goodWord w), w ∈ [Cond.castable (zEx 2) (zEx 2), .declares (Bundle.initS "java/lang/RuntimeException"), .declares (Bundle.initS "java/lang/Exception"), .declares (Bundle.initS Bundle.tN)] := by decide +kernel
theorem xs_X9_demandLeast_5c : ∀ w ∈ Cond.classLink "TiltRoute" 288 (zEx 2) :: Cond.initialized (zEx 2) :: vx_atS "TiltRoute" 292 (zEx 2) zXn, vx_ot w = true := by decide +kernel
abbrev rnX9_demandLeast : Room := { frames := 6, cells := 1, slots := 6, locals := 82 }
set_option maxHeartbeats 4000000 in
set_option maxRecDepth 100000 in
theorem uX9_demandLeast (l : Launch) (hl0 : l.stackTraces = false) (Γ : zG) (lo : zId → Nat) (S : zSt) (X : va_W) {i_1 : Int32} {i_2 : Int32}  {ee : Nat × zSt} (hf : fX9_demandLeast S i_1 i_2 = some (Sum.inl ee)) : vx_Met l yX9_demandLeast wsX9_demandLeast rnX9_demandLeast (zP1 Γ lo S X [.int i_1, .int i_2]) zF (zT Γ lo S X ee) 1 6 (zA Γ) := by
  refine vx_ofW (cc := cX9_demandLeast) (maxL := 2) (ret := none) (by decide) rfl ?_
  intro p e s m args below meth c s₁ B hml ht hv
  obtain ⟨rfl, hW, hKK, hKX⟩ := hv
  have hx := B.exec
  have hb := B.bytes
  have hr := B.returns
  have hts := atoms_spec (ws := wsX9_demandLeast) B.pre
  have hown : s.vm.findClass RX9 = some m.cls := findClass_of_methodNamed B.named
  have hlocks := B.notSynchronized
  have hS : va_S (zA Γ) s.heap s.heap [] := va_S.rf
  have hm : ∀ c, zV S c = zV S c := fun _ => rfl
  have hl := lv_entry ([.int i_1, .int i_2]) (n := 2) (Nat.le_of_ble_eq_true rfl)
  rw [lg_entry_eq]
  generalize (lg_sl ([.int i_1, .int i_2]) ++ List.replicate (2 - (lg_sl ([.int i_1, .int i_2])).length) Slot.unset).toArray = ls at hl ⊢
  have hl : lv_has ls 2 [(0, .int i_1), (1, .int i_2)] := hl
  obtain ⟨H, hH0⟩ : ∃ H, H = s.heap := ⟨_, rfl⟩
  obtain ⟨locs, hlo0⟩ : ∃ L : List Loc, L = [] := ⟨_, rfl⟩
  have hS : va_S (zA Γ) s.heap H locs := by rw [hH0, hlo0]; exact hS
  have hW : Wd Γ lo S X H := by rw [hH0]; exact hW
  rw [← hH0, ← hlo0]
  unfold fX9_demandLeast at hf
  refine lv_iload_n hx hb dX9_demandLeast_0 rfl (lv_at hl 0 rfl) ?_
  refine lv_iload_n hx hb dX9_demandLeast_1 rfl (lv_at hl 1 rfl) ?_
  refine lv_icmp_ge (tgt := 16) hx hb dX9_demandLeast_2 (by decide) (fun k2 => ?_) (fun k2 => ?_)
  · have hf := (op_if hf).1 k2
    have hf := Option.some.inj hf
    cases hf
  · have hf := (op_if hf).2 k2
    have hf := Option.some.inj hf
    have hf := Sum.inl.inj hf
    rw [← hf]
    exact zx_thrW (ee := (2, S)) hx hb hl0 hts hown (hts (.classLink RX9 288 "java/lang/IllegalArgumentException") (List.mem_of_getElem? (i := 1) rfl)) (hts (.initialized "java/lang/IllegalArgumentException") (List.mem_of_getElem? (i := 2) rfl)) (List.mem_of_getElem? (i := 15) rfl) xs_X9_demandLeast_5 xs_X9_demandLeast_5b (show Bundle.fit (zEx 2) = true by decide) xs_X9_demandLeast_5c hKK hKX hS (hl.1.trans hml.symm) dX9_demandLeast_5 dX9_demandLeast_8 dX9_demandLeast_9 dX9_demandLeast_12 dX9_demandLeast_15 ht (Nat.le_of_ble_eq_true rfl) (Nat.le_of_ble_eq_true rfl) (Nat.le_of_ble_eq_true rfl) (Nat.le_of_ble_eq_true rfl) hlocks hW hm

theorem ni_X9_demandNoGame_X7 : ∀ w ∈ wsX70, w ∈ wsX9_demandNoGame := by decide +kernel
def fX9_demandNoGame (S : zSt) (a_1 : Nat) : Option ((Nat × zSt) ⊕ Unit) :=
if (zI S (8, a_1, 0) 4) = (-1 : Int32) then
some (.inr ())
else
some (.inl (3, S))
abbrev rmX9_demandNoGame : Room := { frames := 0, cells := 0, slots := 0, locals := 0 }
set_option maxHeartbeats 4000000 in
set_option maxRecDepth 100000 in
theorem tX9_demandNoGame (l : Launch) (Γ : zG) (lo : zId → Nat) (S : zSt) (X : va_W) {a_1 : Nat} (v_1 : zV S (8, a_1, 0) = true) {y : Unit} (hf : fX9_demandNoGame S a_1 = some (Sum.inr y)) : Met l yX9_demandNoGame wsX9_demandNoGame rmX9_demandNoGame (zP0 Γ lo S X [.ref (lo (8, a_1, 0))]) (zQ0 Γ lo S S X none True) 0 0 (zA Γ) := by
  refine Met.ofW (cc := cX9_demandNoGame) (maxL := 1) (ret := none) (by decide) rfl ?_
  intro p e s m args below meth c s₁ B hml hv
  obtain ⟨rfl, hW, hKK⟩ := hv
  have hx := B.exec
  have hb := B.bytes
  have hr := B.returns
  have hts := atoms_spec (ws := wsX9_demandNoGame) B.pre
  have hown : s.vm.findClass RX9 = some m.cls := findClass_of_methodNamed B.named
  have hlocks := B.notSynchronized
  have hS : va_S (zA Γ) s.heap s.heap [] := va_S.rf
  have hm : ∀ c, zV S c = zV S c := fun _ => rfl
  have hl := lv_entry ([.ref (lo (8, a_1, 0))]) (n := 1) (Nat.le_of_ble_eq_true rfl)
  rw [lg_entry_eq]
  generalize (lg_sl ([.ref (lo (8, a_1, 0))]) ++ List.replicate (1 - (lg_sl ([.ref (lo (8, a_1, 0))])).length) Slot.unset).toArray = ls at hl ⊢
  have hl : lv_has ls 1 [(0, .ref (lo (8, a_1, 0)))] := hl
  obtain ⟨H, hH0⟩ : ∃ H, H = s.heap := ⟨_, rfl⟩
  obtain ⟨locs, hlo0⟩ : ∃ L : List Loc, L = [] := ⟨_, rfl⟩
  have hS : va_S (zA Γ) s.heap H locs := by rw [hH0, hlo0]; exact hS
  have hW : Wd Γ lo S X H := by rw [hH0]; exact hW
  rw [← hH0, ← hlo0]
  unfold fX9_demandNoGame at hf
  refine lv_aload_n hx hb dX9_demandNoGame_0 rfl (lv_at hl 0 rfl) ?_
  refine va_get hx hb hts ni_X9_demandNoGame_X7 hown hKK.1 (wd_1 hW v_1) 0 rfl rfl 4 (by decide) (hts (.fieldLink RX9 152 "TiltRoute$Table" "game" "I") (List.mem_of_getElem? (i := 3) rfl)) (fun _ h => h) rfl dX9_demandNoGame_1 ?_
  refine lv_iconst (v := (-1)) hx hb dX9_demandNoGame_4 (by decide) ?_
  refine lv_icmp_eq (tgt := 19) hx hb dX9_demandNoGame_5 (by decide) (fun k5 => ?_) (fun k5 => ?_)
  · have hf := (op_if hf).1 k5
    have hf := Option.some.inj hf
    have hf := Sum.inr.inj hf
    exact z_vret hx hb hr hlocks hW hS hm trivial dX9_demandNoGame_19
  · have hf := (op_if hf).2 k5
    have hf := Option.some.inj hf
    cases hf
theorem xs_X9_demandNoGame_8 : ∀ w ∈ (vx_atS "TiltRoute" 67 (zEx 3) zXn).filter goodWord, w ∈ wsX9_demandNoGame := by decide +kernel
theorem xs_X9_demandNoGame_8b : ∀ w ∈ (vx_atS "TiltRoute" 67 (zEx 3) zXn).filter (fun w => !goodWord w), w ∈ [Cond.castable (zEx 3) (zEx 3), .declares (Bundle.initS "java/lang/RuntimeException"), .declares (Bundle.initS "java/lang/Exception"), .declares (Bundle.initS Bundle.tN)] := by decide +kernel
theorem xs_X9_demandNoGame_8c : ∀ w ∈ Cond.classLink "TiltRoute" 63 (zEx 3) :: Cond.initialized (zEx 3) :: vx_atS "TiltRoute" 67 (zEx 3) zXn, vx_ot w = true := by decide +kernel
abbrev rnX9_demandNoGame : Room := { frames := 6, cells := 1, slots := 6, locals := 82 }
set_option maxHeartbeats 4000000 in
set_option maxRecDepth 100000 in
theorem uX9_demandNoGame (l : Launch) (hl0 : l.stackTraces = false) (Γ : zG) (lo : zId → Nat) (S : zSt) (X : va_W) {a_1 : Nat} (v_1 : zV S (8, a_1, 0) = true) {ee : Nat × zSt} (hf : fX9_demandNoGame S a_1 = some (Sum.inl ee)) : vx_Met l yX9_demandNoGame wsX9_demandNoGame rnX9_demandNoGame (zP1 Γ lo S X [.ref (lo (8, a_1, 0))]) zF (zT Γ lo S X ee) 1 6 (zA Γ) := by
  refine vx_ofW (cc := cX9_demandNoGame) (maxL := 1) (ret := none) (by decide) rfl ?_
  intro p e s m args below meth c s₁ B hml ht hv
  obtain ⟨rfl, hW, hKK, hKX⟩ := hv
  have hx := B.exec
  have hb := B.bytes
  have hr := B.returns
  have hts := atoms_spec (ws := wsX9_demandNoGame) B.pre
  have hown : s.vm.findClass RX9 = some m.cls := findClass_of_methodNamed B.named
  have hlocks := B.notSynchronized
  have hS : va_S (zA Γ) s.heap s.heap [] := va_S.rf
  have hm : ∀ c, zV S c = zV S c := fun _ => rfl
  have hl := lv_entry ([.ref (lo (8, a_1, 0))]) (n := 1) (Nat.le_of_ble_eq_true rfl)
  rw [lg_entry_eq]
  generalize (lg_sl ([.ref (lo (8, a_1, 0))]) ++ List.replicate (1 - (lg_sl ([.ref (lo (8, a_1, 0))])).length) Slot.unset).toArray = ls at hl ⊢
  have hl : lv_has ls 1 [(0, .ref (lo (8, a_1, 0)))] := hl
  obtain ⟨H, hH0⟩ : ∃ H, H = s.heap := ⟨_, rfl⟩
  obtain ⟨locs, hlo0⟩ : ∃ L : List Loc, L = [] := ⟨_, rfl⟩
  have hS : va_S (zA Γ) s.heap H locs := by rw [hH0, hlo0]; exact hS
  have hW : Wd Γ lo S X H := by rw [hH0]; exact hW
  rw [← hH0, ← hlo0]
  unfold fX9_demandNoGame at hf
  refine lv_aload_n hx hb dX9_demandNoGame_0 rfl (lv_at hl 0 rfl) ?_
  refine va_get hx hb hts ni_X9_demandNoGame_X7 hown hKK.1 (wd_1 hW v_1) 0 rfl rfl 4 (by decide) (hts (.fieldLink RX9 152 "TiltRoute$Table" "game" "I") (List.mem_of_getElem? (i := 3) rfl)) (fun _ h => h) rfl dX9_demandNoGame_1 ?_
  refine lv_iconst (v := (-1)) hx hb dX9_demandNoGame_4 (by decide) ?_
  refine lv_icmp_eq (tgt := 19) hx hb dX9_demandNoGame_5 (by decide) (fun k5 => ?_) (fun k5 => ?_)
  · have hf := (op_if hf).1 k5
    have hf := Option.some.inj hf
    cases hf
  · have hf := (op_if hf).2 k5
    have hf := Option.some.inj hf
    have hf := Sum.inl.inj hf
    rw [← hf]
    exact zx_thrW (ee := (3, S)) hx hb hl0 hts hown (hts (.classLink RX9 63 "java/lang/IllegalStateException") (List.mem_of_getElem? (i := 1) rfl)) (hts (.initialized "java/lang/IllegalStateException") (List.mem_of_getElem? (i := 2) rfl)) (List.mem_of_getElem? (i := 16) rfl) xs_X9_demandNoGame_8 xs_X9_demandNoGame_8b (show Bundle.fit (zEx 3) = true by decide) xs_X9_demandNoGame_8c hKK hKX hS (hl.1.trans hml.symm) dX9_demandNoGame_8 dX9_demandNoGame_11 dX9_demandNoGame_12 dX9_demandNoGame_15 dX9_demandNoGame_18 ht (Nat.le_of_ble_eq_true rfl) (Nat.le_of_ble_eq_true rfl) (Nat.le_of_ble_eq_true rfl) (Nat.le_of_ble_eq_true rfl) hlocks hW hm

theorem ni_X9_setPoints_X7 : ∀ w ∈ wsX70, w ∈ wsX9_setPoints := by decide +kernel
def fX9_setPoints (S : zSt) (i_1 : Int32) (i_2 : Int32) (i_3 : Int32) : Option ((Nat × zSt) ⊕ (Int32 × zSt)) :=
cx (fX9_demandTable S i_1) fun r1 =>
cx (fX9_demandBumper S r1 i_2) fun r5 =>
cx (fX9_demandRange S i_3 (0 : Int32) (1000 : Int32)) fun r9 =>
cx (fX9_demandNoGame S r1) fun r12 =>
cl (fX6_pointsOf S 0 r1 i_2) fun r16 =>
st r16 fun x18 =>
cl (fX6_changePoints S 0 r1 i_2 i_3) fun S22 =>
some (.inr (x18, S22))
abbrev rmX9_setPoints : Room := { frames := 4, cells := 0, slots := 0, locals := 85 }
set_option maxHeartbeats 4000000 in
set_option maxRecDepth 100000 in
theorem tX9_setPoints (l : Launch) (Γ : zG) (lo : zId → Nat) (S : zSt) (X : va_W) {i_1 : Int32} {i_2 : Int32} {i_3 : Int32} (v_z : zV S (10, 0, 0) = true) {y : (Int32 × zSt)} (hf : fX9_setPoints S i_1 i_2 i_3 = some (Sum.inr y)) : Met l yX9_setPoints wsX9_setPoints rmX9_setPoints (zP0 Γ lo S X [.ref (lo (10, 0, 0)), .int i_1, .int i_2, .int i_3]) (zQ0 Γ lo S y.2 X (some (.int y.1)) True) 0 0 (zA Γ) := by
  refine Met.ofW (cc := cX9_setPoints) (maxL := 6) (ret := (some .int)) (by decide) rfl ?_
  intro p e s m args below meth c s₁ B hml hv
  obtain ⟨rfl, hW, hKK⟩ := hv
  have hx := B.exec
  have hb := B.bytes
  have hr := B.returns
  have hts := atoms_spec (ws := wsX9_setPoints) B.pre
  have hown : s.vm.findClass RX9 = some m.cls := findClass_of_methodNamed B.named
  have hlocks := B.notSynchronized
  have hS : va_S (zA Γ) s.heap s.heap [] := va_S.rf
  have hm : ∀ c, zV S c = zV S c := fun _ => rfl
  have hl := lv_entry ([.ref (lo (10, 0, 0)), .int i_1, .int i_2, .int i_3]) (n := 6) (Nat.le_of_ble_eq_true rfl)
  rw [lg_entry_eq]
  generalize (lg_sl ([.ref (lo (10, 0, 0)), .int i_1, .int i_2, .int i_3]) ++ List.replicate (6 - (lg_sl ([.ref (lo (10, 0, 0)), .int i_1, .int i_2, .int i_3])).length) Slot.unset).toArray = ls at hl ⊢
  have hl : lv_has ls 6 [(0, .ref (lo (10, 0, 0))), (1, .int i_1), (2, .int i_2), (3, .int i_3)] := hl
  obtain ⟨H, hH0⟩ : ∃ H, H = s.heap := ⟨_, rfl⟩
  obtain ⟨locs, hlo0⟩ : ∃ L : List Loc, L = [] := ⟨_, rfl⟩
  have hS : va_S (zA Γ) s.heap H locs := by rw [hH0, hlo0]; exact hS
  have hW : Wd Γ lo S X H := by rw [hH0]; exact hW
  rw [← hH0, ← hlo0]
  unfold fX9_setPoints at hf
  refine lv_aload_n hx hb dX9_setPoints_0 rfl (lv_at hl 0 rfl) ?_
  refine lv_iload_n hx hb dX9_setPoints_1 rfl (lv_at hl 1 rfl) ?_
  rcases op_cx hf with ⟨ee3, hc2, hf⟩ | ⟨r1, hc2, hf⟩
  · have hf := congrArg some hf
    have hf := Option.some.inj hf
    cases hf
  · skip
    refine z_callV (As := [.int i_1]) (rest := []) ⟨hx, hb, hml, hown, hts⟩ (tX9_demandTable l Γ lo S X v_z hc2) (cwV 1 hts gX9_setPoints_X9_demandTable rfl rfl rfl (by decide +kernel) ⟨Nat.le_of_ble_eq_true rfl, Nat.le_of_ble_eq_true rfl⟩) (wd_1 hW v_z) rfl hKK hW hS rfl hl.1 rfl (Nat.le_of_ble_eq_true rfl) dX9_setPoints_2 ⟨Nat.zero_le _, Nat.zero_le _⟩ (fun H locs hW hS hm1 hE => ?_)
    have v4 : zV S (8, r1, 0) = true := hE
    refine lv_astore (lv' := [(4, .ref (lo (8, r1, 0))), (0, .ref (lo (10, 0, 0))), (1, .int i_1), (2, .int i_2), (3, .int i_3)]) hx hb dX9_setPoints_5 hl (by decide) rfl (fun ls hl => ?_)
    refine lv_aload hx hb dX9_setPoints_7 (lv_at hl 0 rfl) ?_
    refine lv_iload_n hx hb dX9_setPoints_9 rfl (lv_at hl 3 rfl) ?_
    rcases op_cx hf with ⟨ee7, hc6, hf⟩ | ⟨r5, hc6, hf⟩
    · have hf := congrArg some hf
      have hf := Option.some.inj hf
      cases hf
    · skip
      refine z_callS (As := [.ref (lo (8, r1, 0)), .int i_2]) (rest := []) ⟨hx, hb, hml, hown, hts⟩ (tX9_demandBumper l Γ lo S X v4 hc6) (va_cwS 2 hts gX9_setPoints_X9_demandBumper rfl rfl rfl (by decide +kernel) ⟨Nat.le_of_ble_eq_true rfl, Nat.le_of_ble_eq_true rfl⟩) hKK hW hS rfl hl.1 rfl (Nat.le_of_ble_eq_true rfl) dX9_setPoints_10 ⟨Nat.zero_le _, Nat.zero_le _⟩ (fun H locs hW hS hm1 hE => ?_)
      have v8 : zV S (2, r5.1, r5.2) = true := hE
      refine lv_pop hx hb dX9_setPoints_13 rfl ?_
      refine lv_iload_n hx hb dX9_setPoints_14 rfl (lv_at hl 4 rfl) ?_
      refine lv_iconst (v := (0)) hx hb dX9_setPoints_15 (by decide) ?_
      refine lv_sipush (v := (1000)) hx hb dX9_setPoints_16 (by decide) ?_
      rcases op_cx hf with ⟨ee11, hc10, hf⟩ | ⟨r9, hc10, hf⟩
      · have hf := congrArg some hf
        have hf := Option.some.inj hf
        cases hf
      · skip
        refine z_callS (As := [.int i_3, .int (0 : Int32), .int (1000 : Int32)]) (rest := []) ⟨hx, hb, hml, hown, hts⟩ (tX9_demandRange l Γ lo S X  hc10) (va_cwS 3 hts gX9_setPoints_X9_demandRange rfl rfl rfl (by decide +kernel) ⟨Nat.le_of_ble_eq_true rfl, Nat.le_of_ble_eq_true rfl⟩) hKK hW hS rfl hl.1 rfl (Nat.le_of_ble_eq_true rfl) dX9_setPoints_19 ⟨Nat.zero_le _, Nat.zero_le _⟩ (fun H locs hW hS hm1 hE => ?_)
        refine lv_aload hx hb dX9_setPoints_22 (lv_at hl 0 rfl) ?_
        rcases op_cx hf with ⟨ee14, hc13, hf⟩ | ⟨r12, hc13, hf⟩
        · have hf := congrArg some hf
          have hf := Option.some.inj hf
          cases hf
        · skip
          refine z_callS (As := [.ref (lo (8, r1, 0))]) (rest := []) ⟨hx, hb, hml, hown, hts⟩ (tX9_demandNoGame l Γ lo S X v4 hc13) (va_cwS 1 hts gX9_setPoints_X9_demandNoGame rfl rfl rfl (by decide +kernel) ⟨Nat.le_of_ble_eq_true rfl, Nat.le_of_ble_eq_true rfl⟩) hKK hW hS rfl hl.1 rfl (Nat.le_of_ble_eq_true rfl) dX9_setPoints_24 ⟨Nat.zero_le _, Nat.zero_le _⟩ (fun H locs hW hS hm1 hE => ?_)
          refine lv_aload hx hb dX9_setPoints_27 (lv_at hl 0 rfl) ?_
          refine va_get hx hb hts ni_X9_setPoints_X7 hown hKK.1 (wd_1 hW v4) 0 rfl rfl 3 (by decide) (hts (.fieldLink RX9 101 "TiltRoute$Table" "rules" "LTiltRoute$Rules;") (List.mem_of_getElem? (i := 1) rfl)) (fun _ h => h) rfl dX9_setPoints_29 ?_
          have v15 : zV S (7, 0, r1) = true := vf_8_3 hW v4
          refine lv_iload_n hx hb dX9_setPoints_32 rfl (lv_at hl 3 rfl) ?_
          obtain ⟨r16, hc17, hf⟩ := op_cl hf
          refine z_callV (As := [.int i_2]) (rest := []) ⟨hx, hb, hml, hown, hts⟩ (tX6_pointsOf l Γ lo S X v15 hc17) (cwV 1 hts gX9_setPoints_X6_pointsOf rfl rfl rfl (by decide +kernel) ⟨Nat.le_of_ble_eq_true rfl, Nat.le_of_ble_eq_true rfl⟩) (wd_1 hW v15) rfl hKK hW hS rfl hl.1 rfl (Nat.le_of_ble_eq_true rfl) dX9_setPoints_33 ⟨Nat.zero_le _, Nat.zero_le _⟩ (fun H locs hW hS hm1 hE => ?_)
          obtain ⟨x18, ex18, hf⟩ := op_st hf
          refine z_ist (lv' := [(5, .int x18), (4, .ref (lo (8, r1, 0))), (0, .ref (lo (10, 0, 0))), (1, .int i_1), (2, .int i_2), (3, .int i_3)]) ex18 hx hb dX9_setPoints_36 hl (by decide) rfl (fun ls hl => ?_)
          refine lv_aload hx hb dX9_setPoints_38 (lv_at hl 1 rfl) ?_
          refine va_get hx hb hts ni_X9_setPoints_X7 hown hKK.1 (wd_1 hW v4) 0 rfl rfl 3 (by decide) (hts (.fieldLink RX9 101 "TiltRoute$Table" "rules" "LTiltRoute$Rules;") (List.mem_of_getElem? (i := 1) rfl)) (fun _ h => h) rfl dX9_setPoints_40 ?_
          have v19 : zV S (7, 0, r1) = true := vf_8_3 hW v4
          refine lv_iload_n hx hb dX9_setPoints_43 rfl (lv_at hl 4 rfl) ?_
          refine lv_iload_n hx hb dX9_setPoints_44 rfl (lv_at hl 5 rfl) ?_
          obtain ⟨S22, hc21, hf⟩ := op_cl hf
          refine z_callV (As := [.int i_2, .int i_3]) (rest := []) ⟨hx, hb, hml, hown, hts⟩ (tX6_changePoints l Γ lo S X v19 hc21) (cwV 2 hts gX9_setPoints_X6_changePoints rfl rfl rfl (by decide +kernel) ⟨Nat.le_of_ble_eq_true rfl, Nat.le_of_ble_eq_true rfl⟩) (wd_1 hW v19) rfl hKK hW hS rfl hl.1 rfl (Nat.le_of_ble_eq_true rfl) dX9_setPoints_45 ⟨Nat.zero_le _, Nat.zero_le _⟩ (fun H locs hW hS hm1 hE => ?_)
          have hm : ∀ c, zV S22 c = zV S c := hm1
          refine lv_iload hx hb dX9_setPoints_48 (lv_at hl 0 rfl) ?_
          have hf := Option.some.inj hf
          have hf := Sum.inr.inj hf
          rw [← hf]
          exact z_iret hx hb hr hlocks rfl hW hS hm trivial dX9_setPoints_50
abbrev rnX9_setPoints : Room := { frames := 7, cells := 1, slots := 6, locals := 104 }
set_option maxHeartbeats 4000000 in
set_option maxRecDepth 100000 in
theorem uX9_setPoints (l : Launch) (hl0 : l.stackTraces = false) (Γ : zG) (lo : zId → Nat) (S : zSt) (X : va_W) {i_1 : Int32} {i_2 : Int32} {i_3 : Int32} (v_z : zV S (10, 0, 0) = true) {ee : Nat × zSt} (hf : fX9_setPoints S i_1 i_2 i_3 = some (Sum.inl ee)) : vx_Met l yX9_setPoints wsX9_setPoints rnX9_setPoints (zP1 Γ lo S X [.ref (lo (10, 0, 0)), .int i_1, .int i_2, .int i_3]) zF (zT Γ lo S X ee) 1 6 (zA Γ) := by
  refine vx_ofW (cc := cX9_setPoints) (maxL := 6) (ret := (some .int)) (by decide) rfl ?_
  intro p e s m args below meth c s₁ B hml ht hv
  obtain ⟨rfl, hW, hKK, hKX⟩ := hv
  have hx := B.exec
  have hb := B.bytes
  have hr := B.returns
  have hts := atoms_spec (ws := wsX9_setPoints) B.pre
  have hown : s.vm.findClass RX9 = some m.cls := findClass_of_methodNamed B.named
  have hlocks := B.notSynchronized
  have hS : va_S (zA Γ) s.heap s.heap [] := va_S.rf
  have hm : ∀ c, zV S c = zV S c := fun _ => rfl
  have hl := lv_entry ([.ref (lo (10, 0, 0)), .int i_1, .int i_2, .int i_3]) (n := 6) (Nat.le_of_ble_eq_true rfl)
  rw [lg_entry_eq]
  generalize (lg_sl ([.ref (lo (10, 0, 0)), .int i_1, .int i_2, .int i_3]) ++ List.replicate (6 - (lg_sl ([.ref (lo (10, 0, 0)), .int i_1, .int i_2, .int i_3])).length) Slot.unset).toArray = ls at hl ⊢
  have hl : lv_has ls 6 [(0, .ref (lo (10, 0, 0))), (1, .int i_1), (2, .int i_2), (3, .int i_3)] := hl
  obtain ⟨H, hH0⟩ : ∃ H, H = s.heap := ⟨_, rfl⟩
  obtain ⟨locs, hlo0⟩ : ∃ L : List Loc, L = [] := ⟨_, rfl⟩
  have hS : va_S (zA Γ) s.heap H locs := by rw [hH0, hlo0]; exact hS
  have hW : Wd Γ lo S X H := by rw [hH0]; exact hW
  rw [← hH0, ← hlo0]
  unfold fX9_setPoints at hf
  refine lv_aload_n hx hb dX9_setPoints_0 rfl (lv_at hl 0 rfl) ?_
  refine lv_iload_n hx hb dX9_setPoints_1 rfl (lv_at hl 1 rfl) ?_
  rcases op_cx hf with ⟨ee3, hc2, hf⟩ | ⟨r1, hc2, hf⟩
  · have hf := congrArg some hf
    have hf := Option.some.inj hf
    have hf := Sum.inl.inj hf
    rw [← hf]
    exact zx_callV (As := [.int i_1]) (rest := []) ⟨hx, hb, hml, hown, hts⟩ (uX9_demandTable l hl0 Γ lo S X v_z hc2) (cwV 1 hts gX9_setPoints_X9_demandTable rfl rfl rfl (by decide +kernel) ⟨Nat.le_of_ble_eq_true rfl, Nat.le_of_ble_eq_true rfl⟩) (wd_1 hW v_z) rfl hKK hKX hW hS hm rfl hl.1 rfl (Nat.le_of_ble_eq_true rfl) dX9_setPoints_2 ⟨Nat.le_of_ble_eq_true rfl, Nat.le_of_ble_eq_true rfl⟩ ht hlocks
  · skip
    refine z_callV (As := [.int i_1]) (rest := []) ⟨hx, hb, hml, hown, hts⟩ (tX9_demandTable l Γ lo S X v_z hc2) (cwV 1 hts gX9_setPoints_X9_demandTable rfl rfl rfl (by decide +kernel) ⟨Nat.le_of_ble_eq_true rfl, Nat.le_of_ble_eq_true rfl⟩) (wd_1 hW v_z) rfl hKK hW hS rfl hl.1 rfl (Nat.le_of_ble_eq_true rfl) dX9_setPoints_2 ⟨Nat.zero_le _, Nat.zero_le _⟩ (fun H locs hW hS hm1 hE => ?_)
    have v4 : zV S (8, r1, 0) = true := hE
    refine lv_astore (lv' := [(4, .ref (lo (8, r1, 0))), (0, .ref (lo (10, 0, 0))), (1, .int i_1), (2, .int i_2), (3, .int i_3)]) hx hb dX9_setPoints_5 hl (by decide) rfl (fun ls hl => ?_)
    refine lv_aload hx hb dX9_setPoints_7 (lv_at hl 0 rfl) ?_
    refine lv_iload_n hx hb dX9_setPoints_9 rfl (lv_at hl 3 rfl) ?_
    rcases op_cx hf with ⟨ee7, hc6, hf⟩ | ⟨r5, hc6, hf⟩
    · have hf := congrArg some hf
      have hf := Option.some.inj hf
      have hf := Sum.inl.inj hf
      rw [← hf]
      exact zx_callS (As := [.ref (lo (8, r1, 0)), .int i_2]) (rest := []) ⟨hx, hb, hml, hown, hts⟩ (uX9_demandBumper l hl0 Γ lo S X v4 hc6) (va_cwS 2 hts gX9_setPoints_X9_demandBumper rfl rfl rfl (by decide +kernel) ⟨Nat.le_of_ble_eq_true rfl, Nat.le_of_ble_eq_true rfl⟩) hKK hKX hW hS hm rfl hl.1 rfl (Nat.le_of_ble_eq_true rfl) dX9_setPoints_10 ⟨Nat.le_of_ble_eq_true rfl, Nat.le_of_ble_eq_true rfl⟩ ht hlocks
    · skip
      refine z_callS (As := [.ref (lo (8, r1, 0)), .int i_2]) (rest := []) ⟨hx, hb, hml, hown, hts⟩ (tX9_demandBumper l Γ lo S X v4 hc6) (va_cwS 2 hts gX9_setPoints_X9_demandBumper rfl rfl rfl (by decide +kernel) ⟨Nat.le_of_ble_eq_true rfl, Nat.le_of_ble_eq_true rfl⟩) hKK hW hS rfl hl.1 rfl (Nat.le_of_ble_eq_true rfl) dX9_setPoints_10 ⟨Nat.zero_le _, Nat.zero_le _⟩ (fun H locs hW hS hm1 hE => ?_)
      have v8 : zV S (2, r5.1, r5.2) = true := hE
      refine lv_pop hx hb dX9_setPoints_13 rfl ?_
      refine lv_iload_n hx hb dX9_setPoints_14 rfl (lv_at hl 4 rfl) ?_
      refine lv_iconst (v := (0)) hx hb dX9_setPoints_15 (by decide) ?_
      refine lv_sipush (v := (1000)) hx hb dX9_setPoints_16 (by decide) ?_
      rcases op_cx hf with ⟨ee11, hc10, hf⟩ | ⟨r9, hc10, hf⟩
      · have hf := congrArg some hf
        have hf := Option.some.inj hf
        have hf := Sum.inl.inj hf
        rw [← hf]
        exact zx_callS (As := [.int i_3, .int (0 : Int32), .int (1000 : Int32)]) (rest := []) ⟨hx, hb, hml, hown, hts⟩ (uX9_demandRange l hl0 Γ lo S X  hc10) (va_cwS 3 hts gX9_setPoints_X9_demandRange rfl rfl rfl (by decide +kernel) ⟨Nat.le_of_ble_eq_true rfl, Nat.le_of_ble_eq_true rfl⟩) hKK hKX hW hS hm rfl hl.1 rfl (Nat.le_of_ble_eq_true rfl) dX9_setPoints_19 ⟨Nat.le_of_ble_eq_true rfl, Nat.le_of_ble_eq_true rfl⟩ ht hlocks
      · skip
        refine z_callS (As := [.int i_3, .int (0 : Int32), .int (1000 : Int32)]) (rest := []) ⟨hx, hb, hml, hown, hts⟩ (tX9_demandRange l Γ lo S X  hc10) (va_cwS 3 hts gX9_setPoints_X9_demandRange rfl rfl rfl (by decide +kernel) ⟨Nat.le_of_ble_eq_true rfl, Nat.le_of_ble_eq_true rfl⟩) hKK hW hS rfl hl.1 rfl (Nat.le_of_ble_eq_true rfl) dX9_setPoints_19 ⟨Nat.zero_le _, Nat.zero_le _⟩ (fun H locs hW hS hm1 hE => ?_)
        refine lv_aload hx hb dX9_setPoints_22 (lv_at hl 0 rfl) ?_
        rcases op_cx hf with ⟨ee14, hc13, hf⟩ | ⟨r12, hc13, hf⟩
        · have hf := congrArg some hf
          have hf := Option.some.inj hf
          have hf := Sum.inl.inj hf
          rw [← hf]
          exact zx_callS (As := [.ref (lo (8, r1, 0))]) (rest := []) ⟨hx, hb, hml, hown, hts⟩ (uX9_demandNoGame l hl0 Γ lo S X v4 hc13) (va_cwS 1 hts gX9_setPoints_X9_demandNoGame rfl rfl rfl (by decide +kernel) ⟨Nat.le_of_ble_eq_true rfl, Nat.le_of_ble_eq_true rfl⟩) hKK hKX hW hS hm rfl hl.1 rfl (Nat.le_of_ble_eq_true rfl) dX9_setPoints_24 ⟨Nat.le_of_ble_eq_true rfl, Nat.le_of_ble_eq_true rfl⟩ ht hlocks
        · skip
          refine z_callS (As := [.ref (lo (8, r1, 0))]) (rest := []) ⟨hx, hb, hml, hown, hts⟩ (tX9_demandNoGame l Γ lo S X v4 hc13) (va_cwS 1 hts gX9_setPoints_X9_demandNoGame rfl rfl rfl (by decide +kernel) ⟨Nat.le_of_ble_eq_true rfl, Nat.le_of_ble_eq_true rfl⟩) hKK hW hS rfl hl.1 rfl (Nat.le_of_ble_eq_true rfl) dX9_setPoints_24 ⟨Nat.zero_le _, Nat.zero_le _⟩ (fun H locs hW hS hm1 hE => ?_)
          refine lv_aload hx hb dX9_setPoints_27 (lv_at hl 0 rfl) ?_
          refine va_get hx hb hts ni_X9_setPoints_X7 hown hKK.1 (wd_1 hW v4) 0 rfl rfl 3 (by decide) (hts (.fieldLink RX9 101 "TiltRoute$Table" "rules" "LTiltRoute$Rules;") (List.mem_of_getElem? (i := 1) rfl)) (fun _ h => h) rfl dX9_setPoints_29 ?_
          have v15 : zV S (7, 0, r1) = true := vf_8_3 hW v4
          refine lv_iload_n hx hb dX9_setPoints_32 rfl (lv_at hl 3 rfl) ?_
          obtain ⟨r16, hc17, hf⟩ := op_cl hf
          refine z_callV (As := [.int i_2]) (rest := []) ⟨hx, hb, hml, hown, hts⟩ (tX6_pointsOf l Γ lo S X v15 hc17) (cwV 1 hts gX9_setPoints_X6_pointsOf rfl rfl rfl (by decide +kernel) ⟨Nat.le_of_ble_eq_true rfl, Nat.le_of_ble_eq_true rfl⟩) (wd_1 hW v15) rfl hKK hW hS rfl hl.1 rfl (Nat.le_of_ble_eq_true rfl) dX9_setPoints_33 ⟨Nat.zero_le _, Nat.zero_le _⟩ (fun H locs hW hS hm1 hE => ?_)
          obtain ⟨x18, ex18, hf⟩ := op_st hf
          refine z_ist (lv' := [(5, .int x18), (4, .ref (lo (8, r1, 0))), (0, .ref (lo (10, 0, 0))), (1, .int i_1), (2, .int i_2), (3, .int i_3)]) ex18 hx hb dX9_setPoints_36 hl (by decide) rfl (fun ls hl => ?_)
          refine lv_aload hx hb dX9_setPoints_38 (lv_at hl 1 rfl) ?_
          refine va_get hx hb hts ni_X9_setPoints_X7 hown hKK.1 (wd_1 hW v4) 0 rfl rfl 3 (by decide) (hts (.fieldLink RX9 101 "TiltRoute$Table" "rules" "LTiltRoute$Rules;") (List.mem_of_getElem? (i := 1) rfl)) (fun _ h => h) rfl dX9_setPoints_40 ?_
          have v19 : zV S (7, 0, r1) = true := vf_8_3 hW v4
          refine lv_iload_n hx hb dX9_setPoints_43 rfl (lv_at hl 4 rfl) ?_
          refine lv_iload_n hx hb dX9_setPoints_44 rfl (lv_at hl 5 rfl) ?_
          obtain ⟨S22, hc21, hf⟩ := op_cl hf
          refine z_callV (As := [.int i_2, .int i_3]) (rest := []) ⟨hx, hb, hml, hown, hts⟩ (tX6_changePoints l Γ lo S X v19 hc21) (cwV 2 hts gX9_setPoints_X6_changePoints rfl rfl rfl (by decide +kernel) ⟨Nat.le_of_ble_eq_true rfl, Nat.le_of_ble_eq_true rfl⟩) (wd_1 hW v19) rfl hKK hW hS rfl hl.1 rfl (Nat.le_of_ble_eq_true rfl) dX9_setPoints_45 ⟨Nat.zero_le _, Nat.zero_le _⟩ (fun H locs hW hS hm1 hE => ?_)
          have hm : ∀ c, zV S22 c = zV S c := hm1
          refine lv_iload hx hb dX9_setPoints_48 (lv_at hl 0 rfl) ?_
          have hf := Option.some.inj hf
          cases hf

theorem ni_X9_stick_X1 : ∀ w ∈ wsX10, w ∈ wsX9_stick := by decide +kernel
theorem ni_X9_stick_X9 : ∀ w ∈ wsX90, w ∈ wsX9_stick := by decide +kernel
def fX9_stick (S : zSt) (i_1 : Int32) (i_2 : Int32) : Option ((Nat × zSt) ⊕ (Int32 × zSt)) :=
cx (fX9_demandTable S i_1) fun r1 =>
cx (fX9_demandBumper S r1 i_2) fun r5 =>
if (zI S (2, r5.1, r5.2) 6) = (-1 : Int32) then
if (zI S (10, 0, 0) 8) < (60 : Int32) then
st (pI S (2, r5.1, r5.2) 6 (zI S (10, 0, 0) 8)) fun S9 =>
st (pI S9 (10, 0, 0) 8 ((zI S9 (10, 0, 0) 8) + (1 : Int32))) fun S10 =>
some (.inr ((zI S10 (2, r5.1, r5.2) 6), S10))
else
some (.inl (3, S))
else
some (.inl (3, S))
abbrev rmX9_stick : Room := { frames := 4, cells := 0, slots := 0, locals := 85 }
set_option maxHeartbeats 4000000 in
set_option maxRecDepth 100000 in
theorem tX9_stick (l : Launch) (Γ : zG) (lo : zId → Nat) (S : zSt) (X : va_W) {i_1 : Int32} {i_2 : Int32} (v_z : zV S (10, 0, 0) = true) {y : (Int32 × zSt)} (hf : fX9_stick S i_1 i_2 = some (Sum.inr y)) : Met l yX9_stick wsX9_stick rmX9_stick (zP0 Γ lo S X [.ref (lo (10, 0, 0)), .int i_1, .int i_2]) (zQ0 Γ lo S y.2 X (some (.int y.1)) True) 0 0 (zA Γ) := by
  refine Met.ofW (cc := cX9_stick) (maxL := 4) (ret := (some .int)) (by decide) rfl ?_
  intro p e s m args below meth c s₁ B hml hv
  obtain ⟨rfl, hW, hKK⟩ := hv
  have hx := B.exec
  have hb := B.bytes
  have hr := B.returns
  have hts := atoms_spec (ws := wsX9_stick) B.pre
  have hown : s.vm.findClass RX9 = some m.cls := findClass_of_methodNamed B.named
  have hlocks := B.notSynchronized
  have hS : va_S (zA Γ) s.heap s.heap [] := va_S.rf
  have hm : ∀ c, zV S c = zV S c := fun _ => rfl
  have hl := lv_entry ([.ref (lo (10, 0, 0)), .int i_1, .int i_2]) (n := 4) (Nat.le_of_ble_eq_true rfl)
  rw [lg_entry_eq]
  generalize (lg_sl ([.ref (lo (10, 0, 0)), .int i_1, .int i_2]) ++ List.replicate (4 - (lg_sl ([.ref (lo (10, 0, 0)), .int i_1, .int i_2])).length) Slot.unset).toArray = ls at hl ⊢
  have hl : lv_has ls 4 [(0, .ref (lo (10, 0, 0))), (1, .int i_1), (2, .int i_2)] := hl
  obtain ⟨H, hH0⟩ : ∃ H, H = s.heap := ⟨_, rfl⟩
  obtain ⟨locs, hlo0⟩ : ∃ L : List Loc, L = [] := ⟨_, rfl⟩
  have hS : va_S (zA Γ) s.heap H locs := by rw [hH0, hlo0]; exact hS
  have hW : Wd Γ lo S X H := by rw [hH0]; exact hW
  rw [← hH0, ← hlo0]
  unfold fX9_stick at hf
  refine lv_aload_n hx hb dX9_stick_0 rfl (lv_at hl 0 rfl) ?_
  refine lv_iload_n hx hb dX9_stick_1 rfl (lv_at hl 1 rfl) ?_
  rcases op_cx hf with ⟨ee3, hc2, hf⟩ | ⟨r1, hc2, hf⟩
  · have hf := congrArg some hf
    have hf := Option.some.inj hf
    cases hf
  · skip
    refine z_callV (As := [.int i_1]) (rest := []) ⟨hx, hb, hml, hown, hts⟩ (tX9_demandTable l Γ lo S X v_z hc2) (cwV 1 hts gX9_stick_X9_demandTable rfl rfl rfl (by decide +kernel) ⟨Nat.le_of_ble_eq_true rfl, Nat.le_of_ble_eq_true rfl⟩) (wd_1 hW v_z) rfl hKK hW hS rfl hl.1 rfl (Nat.le_of_ble_eq_true rfl) dX9_stick_2 ⟨Nat.zero_le _, Nat.zero_le _⟩ (fun H locs hW hS hm1 hE => ?_)
    have v4 : zV S (8, r1, 0) = true := hE
    refine lv_iload_n hx hb dX9_stick_5 rfl (lv_at hl 2 rfl) ?_
    rcases op_cx hf with ⟨ee7, hc6, hf⟩ | ⟨r5, hc6, hf⟩
    · have hf := congrArg some hf
      have hf := Option.some.inj hf
      cases hf
    · skip
      refine z_callS (As := [.ref (lo (8, r1, 0)), .int i_2]) (rest := []) ⟨hx, hb, hml, hown, hts⟩ (tX9_demandBumper l Γ lo S X v4 hc6) (va_cwS 2 hts gX9_stick_X9_demandBumper rfl rfl rfl (by decide +kernel) ⟨Nat.le_of_ble_eq_true rfl, Nat.le_of_ble_eq_true rfl⟩) hKK hW hS rfl hl.1 rfl (Nat.le_of_ble_eq_true rfl) dX9_stick_6 ⟨Nat.zero_le _, Nat.zero_le _⟩ (fun H locs hW hS hm1 hE => ?_)
      have v8 : zV S (2, r5.1, r5.2) = true := hE
      refine lv_astore_n (lv' := [(3, .ref (lo (2, r5.1, r5.2))), (0, .ref (lo (10, 0, 0))), (1, .int i_1), (2, .int i_2)]) hx hb dX9_stick_9 rfl hl (by decide) rfl (fun ls hl => ?_)
      refine lv_aload_n hx hb dX9_stick_10 rfl (lv_at hl 0 rfl) ?_
      refine va_get hx hb hts ni_X9_stick_X1 hown hKK.1 (wd_1 hW v8) 0 rfl rfl 6 (by decide) (hts (.fieldLink RX9 131 "TiltRoute$Bumper" "sticking" "I") (List.mem_of_getElem? (i := 3) rfl)) (fun _ h => h) rfl dX9_stick_11 ?_
      refine lv_iconst (v := (-1)) hx hb dX9_stick_14 (by decide) ?_
      refine lv_icmp_eq (tgt := 28) hx hb dX9_stick_15 (by decide) (fun k15 => ?_) (fun k15 => ?_)
      · have hf := (op_if hf).1 k15
        refine lv_aload_n hx hb dX9_stick_28 rfl (lv_at hl 1 rfl) ?_
        refine va_get hx hb hts ni_X9_stick_X9 hown hKK.1 (wd_1 hW v_z) 0 rfl rfl 8 (by decide) (hts (.fieldLink RX9 51 "TiltRoute" "stickings" "I") (List.mem_of_getElem? (i := 4) rfl)) (fun _ h => h) rfl dX9_stick_29 ?_
        refine lv_bipush (v := (60)) hx hb dX9_stick_32 (by decide) ?_
        refine lv_icmp_lt (tgt := 47) hx hb dX9_stick_34 (by decide) (fun k34 => ?_) (fun k34 => ?_)
        · have hf := (op_if hf).1 k34
          refine lv_aload_n hx hb dX9_stick_47 rfl (lv_at hl 0 rfl) ?_
          refine lv_aload_n hx hb dX9_stick_48 rfl (lv_at hl 1 rfl) ?_
          refine va_get hx hb hts ni_X9_stick_X9 hown hKK.1 (wd_1 hW v_z) 0 rfl rfl 8 (by decide) (hts (.fieldLink RX9 51 "TiltRoute" "stickings" "I") (List.mem_of_getElem? (i := 4) rfl)) (fun _ h => h) rfl dX9_stick_49 ?_
          obtain ⟨S9, eS9, hf⟩ := op_st hf
          refine g_put hx hb hts ni_X9_stick_X1 tyX1 tyX1_ok nmX1 hown hKK.1 hW hS v8 rfl rfl 6 (by decide) (hts (.fieldLink RX9 131 "TiltRoute$Bumper" "sticking" "I") (List.mem_of_getElem? (i := 3) rfl)) rfl rfl rfl (show 6 < 7 by decide) rfl dX9_stick_52 eS9 (fun H locs hW hS => ?_)
          have hm : ∀ c, zV S9 c = zV S c := fun c => by rw [eS9]; rfl
          refine lv_aload_n hx hb dX9_stick_55 rfl (lv_at hl 1 rfl) ?_
          refine lv_dup hx hb dX9_stick_56 rfl ?_
          refine va_get hx hb hts ni_X9_stick_X9 hown hKK.1 (wd_1 hW ((hm _).trans v_z)) 0 rfl rfl 8 (by decide) (hts (.fieldLink RX9 51 "TiltRoute" "stickings" "I") (List.mem_of_getElem? (i := 4) rfl)) (fun _ h => h) rfl dX9_stick_57 ?_
          refine lv_iconst (v := (1)) hx hb dX9_stick_60 (by decide) ?_
          refine lv_iadd hx hb dX9_stick_61 ?_
          obtain ⟨S10, eS10, hf⟩ := op_st hf
          refine g_put hx hb hts ni_X9_stick_X9 tyX9 tyX9_ok nmX9 hown hKK.1 hW hS ((hm _).trans v_z) rfl rfl 8 (by decide) (hts (.fieldLink RX9 51 "TiltRoute" "stickings" "I") (List.mem_of_getElem? (i := 4) rfl)) rfl rfl rfl (show 8 < 9 by decide) rfl dX9_stick_62 eS10 (fun H locs hW hS => ?_)
          have hm : ∀ c, zV S10 c = zV S c := fun c => by rw [eS10]; exact hm c
          refine lv_aload_n hx hb dX9_stick_65 rfl (lv_at hl 0 rfl) ?_
          refine va_get hx hb hts ni_X9_stick_X1 hown hKK.1 (wd_1 hW ((hm _).trans v8)) 0 rfl rfl 6 (by decide) (hts (.fieldLink RX9 131 "TiltRoute$Bumper" "sticking" "I") (List.mem_of_getElem? (i := 3) rfl)) (fun _ h => h) rfl dX9_stick_66 ?_
          have hf := Option.some.inj hf
          have hf := Sum.inr.inj hf
          rw [← hf]
          exact z_iret hx hb hr hlocks rfl hW hS hm trivial dX9_stick_69
        · have hf := (op_if hf).2 k34
          have hf := Option.some.inj hf
          cases hf
      · have hf := (op_if hf).2 k15
        have hf := Option.some.inj hf
        cases hf
theorem xs_X9_stick_37 : ∀ w ∈ (vx_atS "TiltRoute" 67 (zEx 3) zXn).filter goodWord, w ∈ wsX9_stick := by decide +kernel
theorem xs_X9_stick_37b : ∀ w ∈ (vx_atS "TiltRoute" 67 (zEx 3) zXn).filter (fun w => !goodWord w), w ∈ [Cond.castable (zEx 3) (zEx 3), .declares (Bundle.initS "java/lang/RuntimeException"), .declares (Bundle.initS "java/lang/Exception"), .declares (Bundle.initS Bundle.tN)] := by decide +kernel
theorem xs_X9_stick_37c : ∀ w ∈ Cond.classLink "TiltRoute" 63 (zEx 3) :: Cond.initialized (zEx 3) :: vx_atS "TiltRoute" 67 (zEx 3) zXn, vx_ot w = true := by decide +kernel
theorem xs_X9_stick_18 : ∀ w ∈ (vx_atS "TiltRoute" 67 (zEx 3) zXn).filter goodWord, w ∈ wsX9_stick := by decide +kernel
theorem xs_X9_stick_18b : ∀ w ∈ (vx_atS "TiltRoute" 67 (zEx 3) zXn).filter (fun w => !goodWord w), w ∈ [Cond.castable (zEx 3) (zEx 3), .declares (Bundle.initS "java/lang/RuntimeException"), .declares (Bundle.initS "java/lang/Exception"), .declares (Bundle.initS Bundle.tN)] := by decide +kernel
theorem xs_X9_stick_18c : ∀ w ∈ Cond.classLink "TiltRoute" 63 (zEx 3) :: Cond.initialized (zEx 3) :: vx_atS "TiltRoute" 67 (zEx 3) zXn, vx_ot w = true := by decide +kernel
abbrev rnX9_stick : Room := { frames := 7, cells := 1, slots := 6, locals := 103 }
set_option maxHeartbeats 4000000 in
set_option maxRecDepth 100000 in
theorem uX9_stick (l : Launch) (hl0 : l.stackTraces = false) (Γ : zG) (lo : zId → Nat) (S : zSt) (X : va_W) {i_1 : Int32} {i_2 : Int32} (v_z : zV S (10, 0, 0) = true) {ee : Nat × zSt} (hf : fX9_stick S i_1 i_2 = some (Sum.inl ee)) : vx_Met l yX9_stick wsX9_stick rnX9_stick (zP1 Γ lo S X [.ref (lo (10, 0, 0)), .int i_1, .int i_2]) zF (zT Γ lo S X ee) 1 6 (zA Γ) := by
  refine vx_ofW (cc := cX9_stick) (maxL := 4) (ret := (some .int)) (by decide) rfl ?_
  intro p e s m args below meth c s₁ B hml ht hv
  obtain ⟨rfl, hW, hKK, hKX⟩ := hv
  have hx := B.exec
  have hb := B.bytes
  have hr := B.returns
  have hts := atoms_spec (ws := wsX9_stick) B.pre
  have hown : s.vm.findClass RX9 = some m.cls := findClass_of_methodNamed B.named
  have hlocks := B.notSynchronized
  have hS : va_S (zA Γ) s.heap s.heap [] := va_S.rf
  have hm : ∀ c, zV S c = zV S c := fun _ => rfl
  have hl := lv_entry ([.ref (lo (10, 0, 0)), .int i_1, .int i_2]) (n := 4) (Nat.le_of_ble_eq_true rfl)
  rw [lg_entry_eq]
  generalize (lg_sl ([.ref (lo (10, 0, 0)), .int i_1, .int i_2]) ++ List.replicate (4 - (lg_sl ([.ref (lo (10, 0, 0)), .int i_1, .int i_2])).length) Slot.unset).toArray = ls at hl ⊢
  have hl : lv_has ls 4 [(0, .ref (lo (10, 0, 0))), (1, .int i_1), (2, .int i_2)] := hl
  obtain ⟨H, hH0⟩ : ∃ H, H = s.heap := ⟨_, rfl⟩
  obtain ⟨locs, hlo0⟩ : ∃ L : List Loc, L = [] := ⟨_, rfl⟩
  have hS : va_S (zA Γ) s.heap H locs := by rw [hH0, hlo0]; exact hS
  have hW : Wd Γ lo S X H := by rw [hH0]; exact hW
  rw [← hH0, ← hlo0]
  unfold fX9_stick at hf
  refine lv_aload_n hx hb dX9_stick_0 rfl (lv_at hl 0 rfl) ?_
  refine lv_iload_n hx hb dX9_stick_1 rfl (lv_at hl 1 rfl) ?_
  rcases op_cx hf with ⟨ee3, hc2, hf⟩ | ⟨r1, hc2, hf⟩
  · have hf := congrArg some hf
    have hf := Option.some.inj hf
    have hf := Sum.inl.inj hf
    rw [← hf]
    exact zx_callV (As := [.int i_1]) (rest := []) ⟨hx, hb, hml, hown, hts⟩ (uX9_demandTable l hl0 Γ lo S X v_z hc2) (cwV 1 hts gX9_stick_X9_demandTable rfl rfl rfl (by decide +kernel) ⟨Nat.le_of_ble_eq_true rfl, Nat.le_of_ble_eq_true rfl⟩) (wd_1 hW v_z) rfl hKK hKX hW hS hm rfl hl.1 rfl (Nat.le_of_ble_eq_true rfl) dX9_stick_2 ⟨Nat.le_of_ble_eq_true rfl, Nat.le_of_ble_eq_true rfl⟩ ht hlocks
  · skip
    refine z_callV (As := [.int i_1]) (rest := []) ⟨hx, hb, hml, hown, hts⟩ (tX9_demandTable l Γ lo S X v_z hc2) (cwV 1 hts gX9_stick_X9_demandTable rfl rfl rfl (by decide +kernel) ⟨Nat.le_of_ble_eq_true rfl, Nat.le_of_ble_eq_true rfl⟩) (wd_1 hW v_z) rfl hKK hW hS rfl hl.1 rfl (Nat.le_of_ble_eq_true rfl) dX9_stick_2 ⟨Nat.zero_le _, Nat.zero_le _⟩ (fun H locs hW hS hm1 hE => ?_)
    have v4 : zV S (8, r1, 0) = true := hE
    refine lv_iload_n hx hb dX9_stick_5 rfl (lv_at hl 2 rfl) ?_
    rcases op_cx hf with ⟨ee7, hc6, hf⟩ | ⟨r5, hc6, hf⟩
    · have hf := congrArg some hf
      have hf := Option.some.inj hf
      have hf := Sum.inl.inj hf
      rw [← hf]
      exact zx_callS (As := [.ref (lo (8, r1, 0)), .int i_2]) (rest := []) ⟨hx, hb, hml, hown, hts⟩ (uX9_demandBumper l hl0 Γ lo S X v4 hc6) (va_cwS 2 hts gX9_stick_X9_demandBumper rfl rfl rfl (by decide +kernel) ⟨Nat.le_of_ble_eq_true rfl, Nat.le_of_ble_eq_true rfl⟩) hKK hKX hW hS hm rfl hl.1 rfl (Nat.le_of_ble_eq_true rfl) dX9_stick_6 ⟨Nat.le_of_ble_eq_true rfl, Nat.le_of_ble_eq_true rfl⟩ ht hlocks
    · skip
      refine z_callS (As := [.ref (lo (8, r1, 0)), .int i_2]) (rest := []) ⟨hx, hb, hml, hown, hts⟩ (tX9_demandBumper l Γ lo S X v4 hc6) (va_cwS 2 hts gX9_stick_X9_demandBumper rfl rfl rfl (by decide +kernel) ⟨Nat.le_of_ble_eq_true rfl, Nat.le_of_ble_eq_true rfl⟩) hKK hW hS rfl hl.1 rfl (Nat.le_of_ble_eq_true rfl) dX9_stick_6 ⟨Nat.zero_le _, Nat.zero_le _⟩ (fun H locs hW hS hm1 hE => ?_)
      have v8 : zV S (2, r5.1, r5.2) = true := hE
      refine lv_astore_n (lv' := [(3, .ref (lo (2, r5.1, r5.2))), (0, .ref (lo (10, 0, 0))), (1, .int i_1), (2, .int i_2)]) hx hb dX9_stick_9 rfl hl (by decide) rfl (fun ls hl => ?_)
      refine lv_aload_n hx hb dX9_stick_10 rfl (lv_at hl 0 rfl) ?_
      refine va_get hx hb hts ni_X9_stick_X1 hown hKK.1 (wd_1 hW v8) 0 rfl rfl 6 (by decide) (hts (.fieldLink RX9 131 "TiltRoute$Bumper" "sticking" "I") (List.mem_of_getElem? (i := 3) rfl)) (fun _ h => h) rfl dX9_stick_11 ?_
      refine lv_iconst (v := (-1)) hx hb dX9_stick_14 (by decide) ?_
      refine lv_icmp_eq (tgt := 28) hx hb dX9_stick_15 (by decide) (fun k15 => ?_) (fun k15 => ?_)
      · have hf := (op_if hf).1 k15
        refine lv_aload_n hx hb dX9_stick_28 rfl (lv_at hl 1 rfl) ?_
        refine va_get hx hb hts ni_X9_stick_X9 hown hKK.1 (wd_1 hW v_z) 0 rfl rfl 8 (by decide) (hts (.fieldLink RX9 51 "TiltRoute" "stickings" "I") (List.mem_of_getElem? (i := 4) rfl)) (fun _ h => h) rfl dX9_stick_29 ?_
        refine lv_bipush (v := (60)) hx hb dX9_stick_32 (by decide) ?_
        refine lv_icmp_lt (tgt := 47) hx hb dX9_stick_34 (by decide) (fun k34 => ?_) (fun k34 => ?_)
        · have hf := (op_if hf).1 k34
          refine lv_aload_n hx hb dX9_stick_47 rfl (lv_at hl 0 rfl) ?_
          refine lv_aload_n hx hb dX9_stick_48 rfl (lv_at hl 1 rfl) ?_
          refine va_get hx hb hts ni_X9_stick_X9 hown hKK.1 (wd_1 hW v_z) 0 rfl rfl 8 (by decide) (hts (.fieldLink RX9 51 "TiltRoute" "stickings" "I") (List.mem_of_getElem? (i := 4) rfl)) (fun _ h => h) rfl dX9_stick_49 ?_
          obtain ⟨S9, eS9, hf⟩ := op_st hf
          refine g_put hx hb hts ni_X9_stick_X1 tyX1 tyX1_ok nmX1 hown hKK.1 hW hS v8 rfl rfl 6 (by decide) (hts (.fieldLink RX9 131 "TiltRoute$Bumper" "sticking" "I") (List.mem_of_getElem? (i := 3) rfl)) rfl rfl rfl (show 6 < 7 by decide) rfl dX9_stick_52 eS9 (fun H locs hW hS => ?_)
          have hm : ∀ c, zV S9 c = zV S c := fun c => by rw [eS9]; rfl
          refine lv_aload_n hx hb dX9_stick_55 rfl (lv_at hl 1 rfl) ?_
          refine lv_dup hx hb dX9_stick_56 rfl ?_
          refine va_get hx hb hts ni_X9_stick_X9 hown hKK.1 (wd_1 hW ((hm _).trans v_z)) 0 rfl rfl 8 (by decide) (hts (.fieldLink RX9 51 "TiltRoute" "stickings" "I") (List.mem_of_getElem? (i := 4) rfl)) (fun _ h => h) rfl dX9_stick_57 ?_
          refine lv_iconst (v := (1)) hx hb dX9_stick_60 (by decide) ?_
          refine lv_iadd hx hb dX9_stick_61 ?_
          obtain ⟨S10, eS10, hf⟩ := op_st hf
          refine g_put hx hb hts ni_X9_stick_X9 tyX9 tyX9_ok nmX9 hown hKK.1 hW hS ((hm _).trans v_z) rfl rfl 8 (by decide) (hts (.fieldLink RX9 51 "TiltRoute" "stickings" "I") (List.mem_of_getElem? (i := 4) rfl)) rfl rfl rfl (show 8 < 9 by decide) rfl dX9_stick_62 eS10 (fun H locs hW hS => ?_)
          have hm : ∀ c, zV S10 c = zV S c := fun c => by rw [eS10]; exact hm c
          refine lv_aload_n hx hb dX9_stick_65 rfl (lv_at hl 0 rfl) ?_
          refine va_get hx hb hts ni_X9_stick_X1 hown hKK.1 (wd_1 hW ((hm _).trans v8)) 0 rfl rfl 6 (by decide) (hts (.fieldLink RX9 131 "TiltRoute$Bumper" "sticking" "I") (List.mem_of_getElem? (i := 3) rfl)) (fun _ h => h) rfl dX9_stick_66 ?_
          have hf := Option.some.inj hf
          cases hf
        · have hf := (op_if hf).2 k34
          have hf := Option.some.inj hf
          have hf := Sum.inl.inj hf
          rw [← hf]
          exact zx_thr (ee := (3, S)) hx hb hl0 hts hown (hts (.classLink RX9 63 "java/lang/IllegalStateException") (List.mem_of_getElem? (i := 1) rfl)) (hts (.initialized "java/lang/IllegalStateException") (List.mem_of_getElem? (i := 2) rfl)) (List.mem_of_getElem? (i := 3) rfl) xs_X9_stick_37 xs_X9_stick_37b (show Bundle.fit (zEx 3) = true by decide) xs_X9_stick_37c hKK hKX hS (hl.1.trans hml.symm) dX9_stick_37 dX9_stick_40 dX9_stick_41 dX9_stick_43 dX9_stick_46 ht (Nat.le_of_ble_eq_true rfl) (Nat.le_of_ble_eq_true rfl) (Nat.le_of_ble_eq_true rfl) (Nat.le_of_ble_eq_true rfl) hlocks hW hm
      · have hf := (op_if hf).2 k15
        have hf := Option.some.inj hf
        have hf := Sum.inl.inj hf
        rw [← hf]
        exact zx_thr (ee := (3, S)) hx hb hl0 hts hown (hts (.classLink RX9 63 "java/lang/IllegalStateException") (List.mem_of_getElem? (i := 1) rfl)) (hts (.initialized "java/lang/IllegalStateException") (List.mem_of_getElem? (i := 2) rfl)) (List.mem_of_getElem? (i := 2) rfl) xs_X9_stick_18 xs_X9_stick_18b (show Bundle.fit (zEx 3) = true by decide) xs_X9_stick_18c hKK hKX hS (hl.1.trans hml.symm) dX9_stick_18 dX9_stick_21 dX9_stick_22 dX9_stick_24 dX9_stick_27 ht (Nat.le_of_ble_eq_true rfl) (Nat.le_of_ble_eq_true rfl) (Nat.le_of_ble_eq_true rfl) (Nat.le_of_ble_eq_true rfl) hlocks hW hm

theorem ni_X9_sticks_X1 : ∀ w ∈ wsX10, w ∈ wsX9_sticks := by decide +kernel
def fX9_sticks (S : zSt) (i_1 : Int32) (i_2 : Int32) : Option ((Nat × zSt) ⊕ Int32) :=
cx (fX9_demandTable S i_1) fun r1 =>
cx (fX9_demandBumper S r1 i_2) fun r5 =>
if (zI S (2, r5.1, r5.2) 6) = (-1 : Int32) then
some (.inr (0 : Int32))
else
some (.inr (1 : Int32))
abbrev rmX9_sticks : Room := { frames := 4, cells := 0, slots := 0, locals := 85 }
set_option maxHeartbeats 4000000 in
set_option maxRecDepth 100000 in
theorem tX9_sticks (l : Launch) (Γ : zG) (lo : zId → Nat) (S : zSt) (X : va_W) {i_1 : Int32} {i_2 : Int32} (v_z : zV S (10, 0, 0) = true) {y : Int32} (hf : fX9_sticks S i_1 i_2 = some (Sum.inr y)) : Met l yX9_sticks wsX9_sticks rmX9_sticks (zP0 Γ lo S X [.ref (lo (10, 0, 0)), .int i_1, .int i_2]) (zQ0 Γ lo S S X (some (.int y)) (y = 0 ∨ y = 1)) 0 0 (zA Γ) := by
  refine Met.ofW (cc := cX9_sticks) (maxL := 3) (ret := (some .boolean)) (by decide) rfl ?_
  intro p e s m args below meth c s₁ B hml hv
  obtain ⟨rfl, hW, hKK⟩ := hv
  have hx := B.exec
  have hb := B.bytes
  have hr := B.returns
  have hts := atoms_spec (ws := wsX9_sticks) B.pre
  have hown : s.vm.findClass RX9 = some m.cls := findClass_of_methodNamed B.named
  have hlocks := B.notSynchronized
  have hS : va_S (zA Γ) s.heap s.heap [] := va_S.rf
  have hm : ∀ c, zV S c = zV S c := fun _ => rfl
  have hl := lv_entry ([.ref (lo (10, 0, 0)), .int i_1, .int i_2]) (n := 3) (Nat.le_of_ble_eq_true rfl)
  rw [lg_entry_eq]
  generalize (lg_sl ([.ref (lo (10, 0, 0)), .int i_1, .int i_2]) ++ List.replicate (3 - (lg_sl ([.ref (lo (10, 0, 0)), .int i_1, .int i_2])).length) Slot.unset).toArray = ls at hl ⊢
  have hl : lv_has ls 3 [(0, .ref (lo (10, 0, 0))), (1, .int i_1), (2, .int i_2)] := hl
  obtain ⟨H, hH0⟩ : ∃ H, H = s.heap := ⟨_, rfl⟩
  obtain ⟨locs, hlo0⟩ : ∃ L : List Loc, L = [] := ⟨_, rfl⟩
  have hS : va_S (zA Γ) s.heap H locs := by rw [hH0, hlo0]; exact hS
  have hW : Wd Γ lo S X H := by rw [hH0]; exact hW
  rw [← hH0, ← hlo0]
  unfold fX9_sticks at hf
  refine lv_aload_n hx hb dX9_sticks_0 rfl (lv_at hl 0 rfl) ?_
  refine lv_iload_n hx hb dX9_sticks_1 rfl (lv_at hl 1 rfl) ?_
  rcases op_cx hf with ⟨ee3, hc2, hf⟩ | ⟨r1, hc2, hf⟩
  · have hf := congrArg some hf
    have hf := Option.some.inj hf
    cases hf
  · skip
    refine z_callV (As := [.int i_1]) (rest := []) ⟨hx, hb, hml, hown, hts⟩ (tX9_demandTable l Γ lo S X v_z hc2) (cwV 1 hts gX9_sticks_X9_demandTable rfl rfl rfl (by decide +kernel) ⟨Nat.le_of_ble_eq_true rfl, Nat.le_of_ble_eq_true rfl⟩) (wd_1 hW v_z) rfl hKK hW hS rfl hl.1 rfl (Nat.le_of_ble_eq_true rfl) dX9_sticks_2 ⟨Nat.zero_le _, Nat.zero_le _⟩ (fun H locs hW hS hm1 hE => ?_)
    have v4 : zV S (8, r1, 0) = true := hE
    refine lv_iload_n hx hb dX9_sticks_5 rfl (lv_at hl 2 rfl) ?_
    rcases op_cx hf with ⟨ee7, hc6, hf⟩ | ⟨r5, hc6, hf⟩
    · have hf := congrArg some hf
      have hf := Option.some.inj hf
      cases hf
    · skip
      refine z_callS (As := [.ref (lo (8, r1, 0)), .int i_2]) (rest := []) ⟨hx, hb, hml, hown, hts⟩ (tX9_demandBumper l Γ lo S X v4 hc6) (va_cwS 2 hts gX9_sticks_X9_demandBumper rfl rfl rfl (by decide +kernel) ⟨Nat.le_of_ble_eq_true rfl, Nat.le_of_ble_eq_true rfl⟩) hKK hW hS rfl hl.1 rfl (Nat.le_of_ble_eq_true rfl) dX9_sticks_6 ⟨Nat.zero_le _, Nat.zero_le _⟩ (fun H locs hW hS hm1 hE => ?_)
      have v8 : zV S (2, r5.1, r5.2) = true := hE
      refine va_get hx hb hts ni_X9_sticks_X1 hown hKK.1 (wd_1 hW v8) 0 rfl rfl 6 (by decide) (hts (.fieldLink RX9 131 "TiltRoute$Bumper" "sticking" "I") (List.mem_of_getElem? (i := 1) rfl)) (fun _ h => h) rfl dX9_sticks_9 ?_
      refine lv_iconst (v := (-1)) hx hb dX9_sticks_12 (by decide) ?_
      refine lv_icmp_eq (tgt := 20) hx hb dX9_sticks_13 (by decide) (fun k13 => ?_) (fun k13 => ?_)
      · have hf := (op_if hf).1 k13
        refine lv_iconst (v := (0)) hx hb dX9_sticks_20 (by decide) ?_
        have hf := Option.some.inj hf
        have hf := Sum.inr.inj hf
        rw [← hf]
        exact z_iret hx hb hr hlocks (z_bb (Or.inl rfl)) hW hS hm (Or.inl rfl) dX9_sticks_21
      · have hf := (op_if hf).2 k13
        refine lv_iconst (v := (1)) hx hb dX9_sticks_16 (by decide) ?_
        refine lv_goto (tgt := 21) hx hb dX9_sticks_17 (by decide) ?_
        have hf := Option.some.inj hf
        have hf := Sum.inr.inj hf
        rw [← hf]
        exact z_iret hx hb hr hlocks (z_bb (Or.inr rfl)) hW hS hm (Or.inr rfl) dX9_sticks_21
abbrev rnX9_sticks : Room := { frames := 7, cells := 1, slots := 6, locals := 103 }
set_option maxHeartbeats 4000000 in
set_option maxRecDepth 100000 in
theorem uX9_sticks (l : Launch) (hl0 : l.stackTraces = false) (Γ : zG) (lo : zId → Nat) (S : zSt) (X : va_W) {i_1 : Int32} {i_2 : Int32} (v_z : zV S (10, 0, 0) = true) {ee : Nat × zSt} (hf : fX9_sticks S i_1 i_2 = some (Sum.inl ee)) : vx_Met l yX9_sticks wsX9_sticks rnX9_sticks (zP1 Γ lo S X [.ref (lo (10, 0, 0)), .int i_1, .int i_2]) zF (zT Γ lo S X ee) 1 6 (zA Γ) := by
  refine vx_ofW (cc := cX9_sticks) (maxL := 3) (ret := (some .boolean)) (by decide) rfl ?_
  intro p e s m args below meth c s₁ B hml ht hv
  obtain ⟨rfl, hW, hKK, hKX⟩ := hv
  have hx := B.exec
  have hb := B.bytes
  have hr := B.returns
  have hts := atoms_spec (ws := wsX9_sticks) B.pre
  have hown : s.vm.findClass RX9 = some m.cls := findClass_of_methodNamed B.named
  have hlocks := B.notSynchronized
  have hS : va_S (zA Γ) s.heap s.heap [] := va_S.rf
  have hm : ∀ c, zV S c = zV S c := fun _ => rfl
  have hl := lv_entry ([.ref (lo (10, 0, 0)), .int i_1, .int i_2]) (n := 3) (Nat.le_of_ble_eq_true rfl)
  rw [lg_entry_eq]
  generalize (lg_sl ([.ref (lo (10, 0, 0)), .int i_1, .int i_2]) ++ List.replicate (3 - (lg_sl ([.ref (lo (10, 0, 0)), .int i_1, .int i_2])).length) Slot.unset).toArray = ls at hl ⊢
  have hl : lv_has ls 3 [(0, .ref (lo (10, 0, 0))), (1, .int i_1), (2, .int i_2)] := hl
  obtain ⟨H, hH0⟩ : ∃ H, H = s.heap := ⟨_, rfl⟩
  obtain ⟨locs, hlo0⟩ : ∃ L : List Loc, L = [] := ⟨_, rfl⟩
  have hS : va_S (zA Γ) s.heap H locs := by rw [hH0, hlo0]; exact hS
  have hW : Wd Γ lo S X H := by rw [hH0]; exact hW
  rw [← hH0, ← hlo0]
  unfold fX9_sticks at hf
  refine lv_aload_n hx hb dX9_sticks_0 rfl (lv_at hl 0 rfl) ?_
  refine lv_iload_n hx hb dX9_sticks_1 rfl (lv_at hl 1 rfl) ?_
  rcases op_cx hf with ⟨ee3, hc2, hf⟩ | ⟨r1, hc2, hf⟩
  · have hf := congrArg some hf
    have hf := Option.some.inj hf
    have hf := Sum.inl.inj hf
    rw [← hf]
    exact zx_callV (As := [.int i_1]) (rest := []) ⟨hx, hb, hml, hown, hts⟩ (uX9_demandTable l hl0 Γ lo S X v_z hc2) (cwV 1 hts gX9_sticks_X9_demandTable rfl rfl rfl (by decide +kernel) ⟨Nat.le_of_ble_eq_true rfl, Nat.le_of_ble_eq_true rfl⟩) (wd_1 hW v_z) rfl hKK hKX hW hS hm rfl hl.1 rfl (Nat.le_of_ble_eq_true rfl) dX9_sticks_2 ⟨Nat.le_of_ble_eq_true rfl, Nat.le_of_ble_eq_true rfl⟩ ht hlocks
  · skip
    refine z_callV (As := [.int i_1]) (rest := []) ⟨hx, hb, hml, hown, hts⟩ (tX9_demandTable l Γ lo S X v_z hc2) (cwV 1 hts gX9_sticks_X9_demandTable rfl rfl rfl (by decide +kernel) ⟨Nat.le_of_ble_eq_true rfl, Nat.le_of_ble_eq_true rfl⟩) (wd_1 hW v_z) rfl hKK hW hS rfl hl.1 rfl (Nat.le_of_ble_eq_true rfl) dX9_sticks_2 ⟨Nat.zero_le _, Nat.zero_le _⟩ (fun H locs hW hS hm1 hE => ?_)
    have v4 : zV S (8, r1, 0) = true := hE
    refine lv_iload_n hx hb dX9_sticks_5 rfl (lv_at hl 2 rfl) ?_
    rcases op_cx hf with ⟨ee7, hc6, hf⟩ | ⟨r5, hc6, hf⟩
    · have hf := congrArg some hf
      have hf := Option.some.inj hf
      have hf := Sum.inl.inj hf
      rw [← hf]
      exact zx_callS (As := [.ref (lo (8, r1, 0)), .int i_2]) (rest := []) ⟨hx, hb, hml, hown, hts⟩ (uX9_demandBumper l hl0 Γ lo S X v4 hc6) (va_cwS 2 hts gX9_sticks_X9_demandBumper rfl rfl rfl (by decide +kernel) ⟨Nat.le_of_ble_eq_true rfl, Nat.le_of_ble_eq_true rfl⟩) hKK hKX hW hS hm rfl hl.1 rfl (Nat.le_of_ble_eq_true rfl) dX9_sticks_6 ⟨Nat.le_of_ble_eq_true rfl, Nat.le_of_ble_eq_true rfl⟩ ht hlocks
    · skip
      refine z_callS (As := [.ref (lo (8, r1, 0)), .int i_2]) (rest := []) ⟨hx, hb, hml, hown, hts⟩ (tX9_demandBumper l Γ lo S X v4 hc6) (va_cwS 2 hts gX9_sticks_X9_demandBumper rfl rfl rfl (by decide +kernel) ⟨Nat.le_of_ble_eq_true rfl, Nat.le_of_ble_eq_true rfl⟩) hKK hW hS rfl hl.1 rfl (Nat.le_of_ble_eq_true rfl) dX9_sticks_6 ⟨Nat.zero_le _, Nat.zero_le _⟩ (fun H locs hW hS hm1 hE => ?_)
      have v8 : zV S (2, r5.1, r5.2) = true := hE
      refine va_get hx hb hts ni_X9_sticks_X1 hown hKK.1 (wd_1 hW v8) 0 rfl rfl 6 (by decide) (hts (.fieldLink RX9 131 "TiltRoute$Bumper" "sticking" "I") (List.mem_of_getElem? (i := 1) rfl)) (fun _ h => h) rfl dX9_sticks_9 ?_
      refine lv_iconst (v := (-1)) hx hb dX9_sticks_12 (by decide) ?_
      refine lv_icmp_eq (tgt := 20) hx hb dX9_sticks_13 (by decide) (fun k13 => ?_) (fun k13 => ?_)
      · have hf := (op_if hf).1 k13
        refine lv_iconst (v := (0)) hx hb dX9_sticks_20 (by decide) ?_
        have hf := Option.some.inj hf
        cases hf
      · have hf := (op_if hf).2 k13
        refine lv_iconst (v := (1)) hx hb dX9_sticks_16 (by decide) ?_
        refine lv_goto (tgt := 21) hx hb dX9_sticks_17 (by decide) ?_
        have hf := Option.some.inj hf
        cases hf

theorem ni_X9_wear_X1 : ∀ w ∈ wsX10, w ∈ wsX9_wear := by decide +kernel
def fX9_wear (S : zSt) (i_1 : Int32) (i_2 : Int32) : Option ((Nat × zSt) ⊕ Int32) :=
cx (fX9_demandTable S i_1) fun r1 =>
cx (fX9_demandBumper S r1 i_2) fun r5 =>
some (.inr (zI S (2, r5.1, r5.2) 5))
abbrev rmX9_wear : Room := { frames := 4, cells := 0, slots := 0, locals := 85 }
set_option maxHeartbeats 4000000 in
set_option maxRecDepth 100000 in
theorem tX9_wear (l : Launch) (Γ : zG) (lo : zId → Nat) (S : zSt) (X : va_W) {i_1 : Int32} {i_2 : Int32} (v_z : zV S (10, 0, 0) = true) {y : Int32} (hf : fX9_wear S i_1 i_2 = some (Sum.inr y)) : Met l yX9_wear wsX9_wear rmX9_wear (zP0 Γ lo S X [.ref (lo (10, 0, 0)), .int i_1, .int i_2]) (zQ0 Γ lo S S X (some (.int y)) True) 0 0 (zA Γ) := by
  refine Met.ofW (cc := cX9_wear) (maxL := 3) (ret := (some .int)) (by decide) rfl ?_
  intro p e s m args below meth c s₁ B hml hv
  obtain ⟨rfl, hW, hKK⟩ := hv
  have hx := B.exec
  have hb := B.bytes
  have hr := B.returns
  have hts := atoms_spec (ws := wsX9_wear) B.pre
  have hown : s.vm.findClass RX9 = some m.cls := findClass_of_methodNamed B.named
  have hlocks := B.notSynchronized
  have hS : va_S (zA Γ) s.heap s.heap [] := va_S.rf
  have hm : ∀ c, zV S c = zV S c := fun _ => rfl
  have hl := lv_entry ([.ref (lo (10, 0, 0)), .int i_1, .int i_2]) (n := 3) (Nat.le_of_ble_eq_true rfl)
  rw [lg_entry_eq]
  generalize (lg_sl ([.ref (lo (10, 0, 0)), .int i_1, .int i_2]) ++ List.replicate (3 - (lg_sl ([.ref (lo (10, 0, 0)), .int i_1, .int i_2])).length) Slot.unset).toArray = ls at hl ⊢
  have hl : lv_has ls 3 [(0, .ref (lo (10, 0, 0))), (1, .int i_1), (2, .int i_2)] := hl
  obtain ⟨H, hH0⟩ : ∃ H, H = s.heap := ⟨_, rfl⟩
  obtain ⟨locs, hlo0⟩ : ∃ L : List Loc, L = [] := ⟨_, rfl⟩
  have hS : va_S (zA Γ) s.heap H locs := by rw [hH0, hlo0]; exact hS
  have hW : Wd Γ lo S X H := by rw [hH0]; exact hW
  rw [← hH0, ← hlo0]
  unfold fX9_wear at hf
  refine lv_aload_n hx hb dX9_wear_0 rfl (lv_at hl 0 rfl) ?_
  refine lv_iload_n hx hb dX9_wear_1 rfl (lv_at hl 1 rfl) ?_
  rcases op_cx hf with ⟨ee3, hc2, hf⟩ | ⟨r1, hc2, hf⟩
  · have hf := congrArg some hf
    have hf := Option.some.inj hf
    cases hf
  · skip
    refine z_callV (As := [.int i_1]) (rest := []) ⟨hx, hb, hml, hown, hts⟩ (tX9_demandTable l Γ lo S X v_z hc2) (cwV 1 hts gX9_wear_X9_demandTable rfl rfl rfl (by decide +kernel) ⟨Nat.le_of_ble_eq_true rfl, Nat.le_of_ble_eq_true rfl⟩) (wd_1 hW v_z) rfl hKK hW hS rfl hl.1 rfl (Nat.le_of_ble_eq_true rfl) dX9_wear_2 ⟨Nat.zero_le _, Nat.zero_le _⟩ (fun H locs hW hS hm1 hE => ?_)
    have v4 : zV S (8, r1, 0) = true := hE
    refine lv_iload_n hx hb dX9_wear_5 rfl (lv_at hl 2 rfl) ?_
    rcases op_cx hf with ⟨ee7, hc6, hf⟩ | ⟨r5, hc6, hf⟩
    · have hf := congrArg some hf
      have hf := Option.some.inj hf
      cases hf
    · skip
      refine z_callS (As := [.ref (lo (8, r1, 0)), .int i_2]) (rest := []) ⟨hx, hb, hml, hown, hts⟩ (tX9_demandBumper l Γ lo S X v4 hc6) (va_cwS 2 hts gX9_wear_X9_demandBumper rfl rfl rfl (by decide +kernel) ⟨Nat.le_of_ble_eq_true rfl, Nat.le_of_ble_eq_true rfl⟩) hKK hW hS rfl hl.1 rfl (Nat.le_of_ble_eq_true rfl) dX9_wear_6 ⟨Nat.zero_le _, Nat.zero_le _⟩ (fun H locs hW hS hm1 hE => ?_)
      have v8 : zV S (2, r5.1, r5.2) = true := hE
      refine va_get hx hb hts ni_X9_wear_X1 hown hKK.1 (wd_1 hW v8) 0 rfl rfl 5 (by decide) (hts (.fieldLink RX9 138 "TiltRoute$Bumper" "wear" "I") (List.mem_of_getElem? (i := 1) rfl)) (fun _ h => h) rfl dX9_wear_9 ?_
      have hf := Option.some.inj hf
      have hf := Sum.inr.inj hf
      rw [← hf]
      exact z_iret hx hb hr hlocks rfl hW hS hm trivial dX9_wear_12
abbrev rnX9_wear : Room := { frames := 7, cells := 1, slots := 6, locals := 103 }
set_option maxHeartbeats 4000000 in
set_option maxRecDepth 100000 in
theorem uX9_wear (l : Launch) (hl0 : l.stackTraces = false) (Γ : zG) (lo : zId → Nat) (S : zSt) (X : va_W) {i_1 : Int32} {i_2 : Int32} (v_z : zV S (10, 0, 0) = true) {ee : Nat × zSt} (hf : fX9_wear S i_1 i_2 = some (Sum.inl ee)) : vx_Met l yX9_wear wsX9_wear rnX9_wear (zP1 Γ lo S X [.ref (lo (10, 0, 0)), .int i_1, .int i_2]) zF (zT Γ lo S X ee) 1 6 (zA Γ) := by
  refine vx_ofW (cc := cX9_wear) (maxL := 3) (ret := (some .int)) (by decide) rfl ?_
  intro p e s m args below meth c s₁ B hml ht hv
  obtain ⟨rfl, hW, hKK, hKX⟩ := hv
  have hx := B.exec
  have hb := B.bytes
  have hr := B.returns
  have hts := atoms_spec (ws := wsX9_wear) B.pre
  have hown : s.vm.findClass RX9 = some m.cls := findClass_of_methodNamed B.named
  have hlocks := B.notSynchronized
  have hS : va_S (zA Γ) s.heap s.heap [] := va_S.rf
  have hm : ∀ c, zV S c = zV S c := fun _ => rfl
  have hl := lv_entry ([.ref (lo (10, 0, 0)), .int i_1, .int i_2]) (n := 3) (Nat.le_of_ble_eq_true rfl)
  rw [lg_entry_eq]
  generalize (lg_sl ([.ref (lo (10, 0, 0)), .int i_1, .int i_2]) ++ List.replicate (3 - (lg_sl ([.ref (lo (10, 0, 0)), .int i_1, .int i_2])).length) Slot.unset).toArray = ls at hl ⊢
  have hl : lv_has ls 3 [(0, .ref (lo (10, 0, 0))), (1, .int i_1), (2, .int i_2)] := hl
  obtain ⟨H, hH0⟩ : ∃ H, H = s.heap := ⟨_, rfl⟩
  obtain ⟨locs, hlo0⟩ : ∃ L : List Loc, L = [] := ⟨_, rfl⟩
  have hS : va_S (zA Γ) s.heap H locs := by rw [hH0, hlo0]; exact hS
  have hW : Wd Γ lo S X H := by rw [hH0]; exact hW
  rw [← hH0, ← hlo0]
  unfold fX9_wear at hf
  refine lv_aload_n hx hb dX9_wear_0 rfl (lv_at hl 0 rfl) ?_
  refine lv_iload_n hx hb dX9_wear_1 rfl (lv_at hl 1 rfl) ?_
  rcases op_cx hf with ⟨ee3, hc2, hf⟩ | ⟨r1, hc2, hf⟩
  · have hf := congrArg some hf
    have hf := Option.some.inj hf
    have hf := Sum.inl.inj hf
    rw [← hf]
    exact zx_callV (As := [.int i_1]) (rest := []) ⟨hx, hb, hml, hown, hts⟩ (uX9_demandTable l hl0 Γ lo S X v_z hc2) (cwV 1 hts gX9_wear_X9_demandTable rfl rfl rfl (by decide +kernel) ⟨Nat.le_of_ble_eq_true rfl, Nat.le_of_ble_eq_true rfl⟩) (wd_1 hW v_z) rfl hKK hKX hW hS hm rfl hl.1 rfl (Nat.le_of_ble_eq_true rfl) dX9_wear_2 ⟨Nat.le_of_ble_eq_true rfl, Nat.le_of_ble_eq_true rfl⟩ ht hlocks
  · skip
    refine z_callV (As := [.int i_1]) (rest := []) ⟨hx, hb, hml, hown, hts⟩ (tX9_demandTable l Γ lo S X v_z hc2) (cwV 1 hts gX9_wear_X9_demandTable rfl rfl rfl (by decide +kernel) ⟨Nat.le_of_ble_eq_true rfl, Nat.le_of_ble_eq_true rfl⟩) (wd_1 hW v_z) rfl hKK hW hS rfl hl.1 rfl (Nat.le_of_ble_eq_true rfl) dX9_wear_2 ⟨Nat.zero_le _, Nat.zero_le _⟩ (fun H locs hW hS hm1 hE => ?_)
    have v4 : zV S (8, r1, 0) = true := hE
    refine lv_iload_n hx hb dX9_wear_5 rfl (lv_at hl 2 rfl) ?_
    rcases op_cx hf with ⟨ee7, hc6, hf⟩ | ⟨r5, hc6, hf⟩
    · have hf := congrArg some hf
      have hf := Option.some.inj hf
      have hf := Sum.inl.inj hf
      rw [← hf]
      exact zx_callS (As := [.ref (lo (8, r1, 0)), .int i_2]) (rest := []) ⟨hx, hb, hml, hown, hts⟩ (uX9_demandBumper l hl0 Γ lo S X v4 hc6) (va_cwS 2 hts gX9_wear_X9_demandBumper rfl rfl rfl (by decide +kernel) ⟨Nat.le_of_ble_eq_true rfl, Nat.le_of_ble_eq_true rfl⟩) hKK hKX hW hS hm rfl hl.1 rfl (Nat.le_of_ble_eq_true rfl) dX9_wear_6 ⟨Nat.le_of_ble_eq_true rfl, Nat.le_of_ble_eq_true rfl⟩ ht hlocks
    · skip
      refine z_callS (As := [.ref (lo (8, r1, 0)), .int i_2]) (rest := []) ⟨hx, hb, hml, hown, hts⟩ (tX9_demandBumper l Γ lo S X v4 hc6) (va_cwS 2 hts gX9_wear_X9_demandBumper rfl rfl rfl (by decide +kernel) ⟨Nat.le_of_ble_eq_true rfl, Nat.le_of_ble_eq_true rfl⟩) hKK hW hS rfl hl.1 rfl (Nat.le_of_ble_eq_true rfl) dX9_wear_6 ⟨Nat.zero_le _, Nat.zero_le _⟩ (fun H locs hW hS hm1 hE => ?_)
      have v8 : zV S (2, r5.1, r5.2) = true := hE
      refine va_get hx hb hts ni_X9_wear_X1 hown hKK.1 (wd_1 hW v8) 0 rfl rfl 5 (by decide) (hts (.fieldLink RX9 138 "TiltRoute$Bumper" "wear" "I") (List.mem_of_getElem? (i := 1) rfl)) (fun _ h => h) rfl dX9_wear_9 ?_
      have hf := Option.some.inj hf
      cases hf

theorem ni_X9_gameAt_X7 : ∀ w ∈ wsX70, w ∈ wsX9_gameAt := by decide +kernel
def fX9_gameAt (S : zSt) (i_1 : Int32) : Option ((Nat × zSt) ⊕ Int32) :=
cx (fX9_demandTable S i_1) fun r1 =>
some (.inr (zI S (8, r1, 0) 4))
abbrev rmX9_gameAt : Room := { frames := 4, cells := 0, slots := 0, locals := 85 }
set_option maxHeartbeats 4000000 in
set_option maxRecDepth 100000 in
theorem tX9_gameAt (l : Launch) (Γ : zG) (lo : zId → Nat) (S : zSt) (X : va_W) {i_1 : Int32} (v_z : zV S (10, 0, 0) = true) {y : Int32} (hf : fX9_gameAt S i_1 = some (Sum.inr y)) : Met l yX9_gameAt wsX9_gameAt rmX9_gameAt (zP0 Γ lo S X [.ref (lo (10, 0, 0)), .int i_1]) (zQ0 Γ lo S S X (some (.int y)) True) 0 0 (zA Γ) := by
  refine Met.ofW (cc := cX9_gameAt) (maxL := 2) (ret := (some .int)) (by decide) rfl ?_
  intro p e s m args below meth c s₁ B hml hv
  obtain ⟨rfl, hW, hKK⟩ := hv
  have hx := B.exec
  have hb := B.bytes
  have hr := B.returns
  have hts := atoms_spec (ws := wsX9_gameAt) B.pre
  have hown : s.vm.findClass RX9 = some m.cls := findClass_of_methodNamed B.named
  have hlocks := B.notSynchronized
  have hS : va_S (zA Γ) s.heap s.heap [] := va_S.rf
  have hm : ∀ c, zV S c = zV S c := fun _ => rfl
  have hl := lv_entry ([.ref (lo (10, 0, 0)), .int i_1]) (n := 2) (Nat.le_of_ble_eq_true rfl)
  rw [lg_entry_eq]
  generalize (lg_sl ([.ref (lo (10, 0, 0)), .int i_1]) ++ List.replicate (2 - (lg_sl ([.ref (lo (10, 0, 0)), .int i_1])).length) Slot.unset).toArray = ls at hl ⊢
  have hl : lv_has ls 2 [(0, .ref (lo (10, 0, 0))), (1, .int i_1)] := hl
  obtain ⟨H, hH0⟩ : ∃ H, H = s.heap := ⟨_, rfl⟩
  obtain ⟨locs, hlo0⟩ : ∃ L : List Loc, L = [] := ⟨_, rfl⟩
  have hS : va_S (zA Γ) s.heap H locs := by rw [hH0, hlo0]; exact hS
  have hW : Wd Γ lo S X H := by rw [hH0]; exact hW
  rw [← hH0, ← hlo0]
  unfold fX9_gameAt at hf
  refine lv_aload_n hx hb dX9_gameAt_0 rfl (lv_at hl 0 rfl) ?_
  refine lv_iload_n hx hb dX9_gameAt_1 rfl (lv_at hl 1 rfl) ?_
  rcases op_cx hf with ⟨ee3, hc2, hf⟩ | ⟨r1, hc2, hf⟩
  · have hf := congrArg some hf
    have hf := Option.some.inj hf
    cases hf
  · skip
    refine z_callV (As := [.int i_1]) (rest := []) ⟨hx, hb, hml, hown, hts⟩ (tX9_demandTable l Γ lo S X v_z hc2) (cwV 1 hts gX9_gameAt_X9_demandTable rfl rfl rfl (by decide +kernel) ⟨Nat.le_of_ble_eq_true rfl, Nat.le_of_ble_eq_true rfl⟩) (wd_1 hW v_z) rfl hKK hW hS rfl hl.1 rfl (Nat.le_of_ble_eq_true rfl) dX9_gameAt_2 ⟨Nat.zero_le _, Nat.zero_le _⟩ (fun H locs hW hS hm1 hE => ?_)
    have v4 : zV S (8, r1, 0) = true := hE
    refine va_get hx hb hts ni_X9_gameAt_X7 hown hKK.1 (wd_1 hW v4) 0 rfl rfl 4 (by decide) (hts (.fieldLink RX9 152 "TiltRoute$Table" "game" "I") (List.mem_of_getElem? (i := 1) rfl)) (fun _ h => h) rfl dX9_gameAt_5 ?_
    have hf := Option.some.inj hf
    have hf := Sum.inr.inj hf
    rw [← hf]
    exact z_iret hx hb hr hlocks rfl hW hS hm trivial dX9_gameAt_8
abbrev rnX9_gameAt : Room := { frames := 7, cells := 1, slots := 6, locals := 103 }
set_option maxHeartbeats 4000000 in
set_option maxRecDepth 100000 in
theorem uX9_gameAt (l : Launch) (hl0 : l.stackTraces = false) (Γ : zG) (lo : zId → Nat) (S : zSt) (X : va_W) {i_1 : Int32} (v_z : zV S (10, 0, 0) = true) {ee : Nat × zSt} (hf : fX9_gameAt S i_1 = some (Sum.inl ee)) : vx_Met l yX9_gameAt wsX9_gameAt rnX9_gameAt (zP1 Γ lo S X [.ref (lo (10, 0, 0)), .int i_1]) zF (zT Γ lo S X ee) 1 6 (zA Γ) := by
  refine vx_ofW (cc := cX9_gameAt) (maxL := 2) (ret := (some .int)) (by decide) rfl ?_
  intro p e s m args below meth c s₁ B hml ht hv
  obtain ⟨rfl, hW, hKK, hKX⟩ := hv
  have hx := B.exec
  have hb := B.bytes
  have hr := B.returns
  have hts := atoms_spec (ws := wsX9_gameAt) B.pre
  have hown : s.vm.findClass RX9 = some m.cls := findClass_of_methodNamed B.named
  have hlocks := B.notSynchronized
  have hS : va_S (zA Γ) s.heap s.heap [] := va_S.rf
  have hm : ∀ c, zV S c = zV S c := fun _ => rfl
  have hl := lv_entry ([.ref (lo (10, 0, 0)), .int i_1]) (n := 2) (Nat.le_of_ble_eq_true rfl)
  rw [lg_entry_eq]
  generalize (lg_sl ([.ref (lo (10, 0, 0)), .int i_1]) ++ List.replicate (2 - (lg_sl ([.ref (lo (10, 0, 0)), .int i_1])).length) Slot.unset).toArray = ls at hl ⊢
  have hl : lv_has ls 2 [(0, .ref (lo (10, 0, 0))), (1, .int i_1)] := hl
  obtain ⟨H, hH0⟩ : ∃ H, H = s.heap := ⟨_, rfl⟩
  obtain ⟨locs, hlo0⟩ : ∃ L : List Loc, L = [] := ⟨_, rfl⟩
  have hS : va_S (zA Γ) s.heap H locs := by rw [hH0, hlo0]; exact hS
  have hW : Wd Γ lo S X H := by rw [hH0]; exact hW
  rw [← hH0, ← hlo0]
  unfold fX9_gameAt at hf
  refine lv_aload_n hx hb dX9_gameAt_0 rfl (lv_at hl 0 rfl) ?_
  refine lv_iload_n hx hb dX9_gameAt_1 rfl (lv_at hl 1 rfl) ?_
  rcases op_cx hf with ⟨ee3, hc2, hf⟩ | ⟨r1, hc2, hf⟩
  · have hf := congrArg some hf
    have hf := Option.some.inj hf
    have hf := Sum.inl.inj hf
    rw [← hf]
    exact zx_callV (As := [.int i_1]) (rest := []) ⟨hx, hb, hml, hown, hts⟩ (uX9_demandTable l hl0 Γ lo S X v_z hc2) (cwV 1 hts gX9_gameAt_X9_demandTable rfl rfl rfl (by decide +kernel) ⟨Nat.le_of_ble_eq_true rfl, Nat.le_of_ble_eq_true rfl⟩) (wd_1 hW v_z) rfl hKK hKX hW hS hm rfl hl.1 rfl (Nat.le_of_ble_eq_true rfl) dX9_gameAt_2 ⟨Nat.le_of_ble_eq_true rfl, Nat.le_of_ble_eq_true rfl⟩ ht hlocks
  · skip
    refine z_callV (As := [.int i_1]) (rest := []) ⟨hx, hb, hml, hown, hts⟩ (tX9_demandTable l Γ lo S X v_z hc2) (cwV 1 hts gX9_gameAt_X9_demandTable rfl rfl rfl (by decide +kernel) ⟨Nat.le_of_ble_eq_true rfl, Nat.le_of_ble_eq_true rfl⟩) (wd_1 hW v_z) rfl hKK hW hS rfl hl.1 rfl (Nat.le_of_ble_eq_true rfl) dX9_gameAt_2 ⟨Nat.zero_le _, Nat.zero_le _⟩ (fun H locs hW hS hm1 hE => ?_)
    have v4 : zV S (8, r1, 0) = true := hE
    refine va_get hx hb hts ni_X9_gameAt_X7 hown hKK.1 (wd_1 hW v4) 0 rfl rfl 4 (by decide) (hts (.fieldLink RX9 152 "TiltRoute$Table" "game" "I") (List.mem_of_getElem? (i := 1) rfl)) (fun _ h => h) rfl dX9_gameAt_5 ?_
    have hf := Option.some.inj hf
    cases hf

theorem ni_X9_ballsLeft_X2 : ∀ w ∈ wsX20, w ∈ wsX9_ballsLeft := by decide +kernel
def fX9_ballsLeft (S : zSt) (i_1 : Int32) : Option ((Nat × zSt) ⊕ Int32) :=
cx (fX9_demandGame S i_1) fun r1 =>
some (.inr ((3 : Int32) - (zI S (3, r1, 0) 5)))
abbrev rmX9_ballsLeft : Room := { frames := 4, cells := 0, slots := 0, locals := 85 }
set_option maxHeartbeats 4000000 in
set_option maxRecDepth 100000 in
theorem tX9_ballsLeft (l : Launch) (Γ : zG) (lo : zId → Nat) (S : zSt) (X : va_W) {i_1 : Int32} (v_z : zV S (10, 0, 0) = true) {y : Int32} (hf : fX9_ballsLeft S i_1 = some (Sum.inr y)) : Met l yX9_ballsLeft wsX9_ballsLeft rmX9_ballsLeft (zP0 Γ lo S X [.ref (lo (10, 0, 0)), .int i_1]) (zQ0 Γ lo S S X (some (.int y)) True) 0 0 (zA Γ) := by
  refine Met.ofW (cc := cX9_ballsLeft) (maxL := 2) (ret := (some .int)) (by decide) rfl ?_
  intro p e s m args below meth c s₁ B hml hv
  obtain ⟨rfl, hW, hKK⟩ := hv
  have hx := B.exec
  have hb := B.bytes
  have hr := B.returns
  have hts := atoms_spec (ws := wsX9_ballsLeft) B.pre
  have hown : s.vm.findClass RX9 = some m.cls := findClass_of_methodNamed B.named
  have hlocks := B.notSynchronized
  have hS : va_S (zA Γ) s.heap s.heap [] := va_S.rf
  have hm : ∀ c, zV S c = zV S c := fun _ => rfl
  have hl := lv_entry ([.ref (lo (10, 0, 0)), .int i_1]) (n := 2) (Nat.le_of_ble_eq_true rfl)
  rw [lg_entry_eq]
  generalize (lg_sl ([.ref (lo (10, 0, 0)), .int i_1]) ++ List.replicate (2 - (lg_sl ([.ref (lo (10, 0, 0)), .int i_1])).length) Slot.unset).toArray = ls at hl ⊢
  have hl : lv_has ls 2 [(0, .ref (lo (10, 0, 0))), (1, .int i_1)] := hl
  obtain ⟨H, hH0⟩ : ∃ H, H = s.heap := ⟨_, rfl⟩
  obtain ⟨locs, hlo0⟩ : ∃ L : List Loc, L = [] := ⟨_, rfl⟩
  have hS : va_S (zA Γ) s.heap H locs := by rw [hH0, hlo0]; exact hS
  have hW : Wd Γ lo S X H := by rw [hH0]; exact hW
  rw [← hH0, ← hlo0]
  unfold fX9_ballsLeft at hf
  refine lv_iconst (v := (3)) hx hb dX9_ballsLeft_0 (by decide) ?_
  refine lv_aload_n hx hb dX9_ballsLeft_1 rfl (lv_at hl 0 rfl) ?_
  refine lv_iload_n hx hb dX9_ballsLeft_2 rfl (lv_at hl 1 rfl) ?_
  rcases op_cx hf with ⟨ee3, hc2, hf⟩ | ⟨r1, hc2, hf⟩
  · have hf := congrArg some hf
    have hf := Option.some.inj hf
    cases hf
  · skip
    refine z_callV (As := [.int i_1]) (rest := [.int (3 : Int32)]) ⟨hx, hb, hml, hown, hts⟩ (tX9_demandGame l Γ lo S X v_z hc2) (cwV 1 hts gX9_ballsLeft_X9_demandGame rfl rfl rfl (by decide +kernel) ⟨Nat.le_of_ble_eq_true rfl, Nat.le_of_ble_eq_true rfl⟩) (wd_1 hW v_z) rfl hKK hW hS rfl hl.1 rfl (Nat.le_of_ble_eq_true rfl) dX9_ballsLeft_3 ⟨Nat.zero_le _, Nat.zero_le _⟩ (fun H locs hW hS hm1 hE => ?_)
    have v4 : zV S (3, r1, 0) = true := hE
    refine va_get hx hb hts ni_X9_ballsLeft_X2 hown hKK.1 (wd_1 hW v4) 0 rfl rfl 5 (by decide) (hts (.fieldLink RX9 184 "TiltRoute$Game" "ballsShot" "I") (List.mem_of_getElem? (i := 1) rfl)) (fun _ h => h) rfl dX9_ballsLeft_6 ?_
    refine lv_isub hx hb dX9_ballsLeft_9 ?_
    have hf := Option.some.inj hf
    have hf := Sum.inr.inj hf
    rw [← hf]
    exact z_iret hx hb hr hlocks rfl hW hS hm trivial dX9_ballsLeft_10
abbrev rnX9_ballsLeft : Room := { frames := 7, cells := 1, slots := 6, locals := 103 }
set_option maxHeartbeats 4000000 in
set_option maxRecDepth 100000 in
theorem uX9_ballsLeft (l : Launch) (hl0 : l.stackTraces = false) (Γ : zG) (lo : zId → Nat) (S : zSt) (X : va_W) {i_1 : Int32} (v_z : zV S (10, 0, 0) = true) {ee : Nat × zSt} (hf : fX9_ballsLeft S i_1 = some (Sum.inl ee)) : vx_Met l yX9_ballsLeft wsX9_ballsLeft rnX9_ballsLeft (zP1 Γ lo S X [.ref (lo (10, 0, 0)), .int i_1]) zF (zT Γ lo S X ee) 1 6 (zA Γ) := by
  refine vx_ofW (cc := cX9_ballsLeft) (maxL := 2) (ret := (some .int)) (by decide) rfl ?_
  intro p e s m args below meth c s₁ B hml ht hv
  obtain ⟨rfl, hW, hKK, hKX⟩ := hv
  have hx := B.exec
  have hb := B.bytes
  have hr := B.returns
  have hts := atoms_spec (ws := wsX9_ballsLeft) B.pre
  have hown : s.vm.findClass RX9 = some m.cls := findClass_of_methodNamed B.named
  have hlocks := B.notSynchronized
  have hS : va_S (zA Γ) s.heap s.heap [] := va_S.rf
  have hm : ∀ c, zV S c = zV S c := fun _ => rfl
  have hl := lv_entry ([.ref (lo (10, 0, 0)), .int i_1]) (n := 2) (Nat.le_of_ble_eq_true rfl)
  rw [lg_entry_eq]
  generalize (lg_sl ([.ref (lo (10, 0, 0)), .int i_1]) ++ List.replicate (2 - (lg_sl ([.ref (lo (10, 0, 0)), .int i_1])).length) Slot.unset).toArray = ls at hl ⊢
  have hl : lv_has ls 2 [(0, .ref (lo (10, 0, 0))), (1, .int i_1)] := hl
  obtain ⟨H, hH0⟩ : ∃ H, H = s.heap := ⟨_, rfl⟩
  obtain ⟨locs, hlo0⟩ : ∃ L : List Loc, L = [] := ⟨_, rfl⟩
  have hS : va_S (zA Γ) s.heap H locs := by rw [hH0, hlo0]; exact hS
  have hW : Wd Γ lo S X H := by rw [hH0]; exact hW
  rw [← hH0, ← hlo0]
  unfold fX9_ballsLeft at hf
  refine lv_iconst (v := (3)) hx hb dX9_ballsLeft_0 (by decide) ?_
  refine lv_aload_n hx hb dX9_ballsLeft_1 rfl (lv_at hl 0 rfl) ?_
  refine lv_iload_n hx hb dX9_ballsLeft_2 rfl (lv_at hl 1 rfl) ?_
  rcases op_cx hf with ⟨ee3, hc2, hf⟩ | ⟨r1, hc2, hf⟩
  · have hf := congrArg some hf
    have hf := Option.some.inj hf
    have hf := Sum.inl.inj hf
    rw [← hf]
    exact zx_callV (As := [.int i_1]) (rest := [.int (3 : Int32)]) ⟨hx, hb, hml, hown, hts⟩ (uX9_demandGame l hl0 Γ lo S X v_z hc2) (cwV 1 hts gX9_ballsLeft_X9_demandGame rfl rfl rfl (by decide +kernel) ⟨Nat.le_of_ble_eq_true rfl, Nat.le_of_ble_eq_true rfl⟩) (wd_1 hW v_z) rfl hKK hKX hW hS hm rfl hl.1 rfl (Nat.le_of_ble_eq_true rfl) dX9_ballsLeft_3 ⟨Nat.le_of_ble_eq_true rfl, Nat.le_of_ble_eq_true rfl⟩ ht hlocks
  · skip
    refine z_callV (As := [.int i_1]) (rest := [.int (3 : Int32)]) ⟨hx, hb, hml, hown, hts⟩ (tX9_demandGame l Γ lo S X v_z hc2) (cwV 1 hts gX9_ballsLeft_X9_demandGame rfl rfl rfl (by decide +kernel) ⟨Nat.le_of_ble_eq_true rfl, Nat.le_of_ble_eq_true rfl⟩) (wd_1 hW v_z) rfl hKK hW hS rfl hl.1 rfl (Nat.le_of_ble_eq_true rfl) dX9_ballsLeft_3 ⟨Nat.zero_le _, Nat.zero_le _⟩ (fun H locs hW hS hm1 hE => ?_)
    have v4 : zV S (3, r1, 0) = true := hE
    refine va_get hx hb hts ni_X9_ballsLeft_X2 hown hKK.1 (wd_1 hW v4) 0 rfl rfl 5 (by decide) (hts (.fieldLink RX9 184 "TiltRoute$Game" "ballsShot" "I") (List.mem_of_getElem? (i := 1) rfl)) (fun _ h => h) rfl dX9_ballsLeft_6 ?_
    refine lv_isub hx hb dX9_ballsLeft_9 ?_
    have hf := Option.some.inj hf
    cases hf

theorem ni_X9_stack_X2 : ∀ w ∈ wsX20, w ∈ wsX9_stack := by decide +kernel
def fX9_stack (S : zSt) (i_1 : Int32) : Option ((Nat × zSt) ⊕ Int32) :=
cx (fX9_demandGame S i_1) fun r1 =>
cl (fX5_stackedModes S 0 r1) fun r6 =>
some (.inr r6)
abbrev rmX9_stack : Room := { frames := 4, cells := 0, slots := 0, locals := 85 }
set_option maxHeartbeats 4000000 in
set_option maxRecDepth 100000 in
theorem tX9_stack (l : Launch) (Γ : zG) (lo : zId → Nat) (S : zSt) (X : va_W) {i_1 : Int32} (v_z : zV S (10, 0, 0) = true) {y : Int32} (hf : fX9_stack S i_1 = some (Sum.inr y)) : Met l yX9_stack wsX9_stack rmX9_stack (zP0 Γ lo S X [.ref (lo (10, 0, 0)), .int i_1]) (zQ0 Γ lo S S X (some (.int y)) True) 0 0 (zA Γ) := by
  refine Met.ofW (cc := cX9_stack) (maxL := 2) (ret := (some .int)) (by decide) rfl ?_
  intro p e s m args below meth c s₁ B hml hv
  obtain ⟨rfl, hW, hKK⟩ := hv
  have hx := B.exec
  have hb := B.bytes
  have hr := B.returns
  have hts := atoms_spec (ws := wsX9_stack) B.pre
  have hown : s.vm.findClass RX9 = some m.cls := findClass_of_methodNamed B.named
  have hlocks := B.notSynchronized
  have hS : va_S (zA Γ) s.heap s.heap [] := va_S.rf
  have hm : ∀ c, zV S c = zV S c := fun _ => rfl
  have hl := lv_entry ([.ref (lo (10, 0, 0)), .int i_1]) (n := 2) (Nat.le_of_ble_eq_true rfl)
  rw [lg_entry_eq]
  generalize (lg_sl ([.ref (lo (10, 0, 0)), .int i_1]) ++ List.replicate (2 - (lg_sl ([.ref (lo (10, 0, 0)), .int i_1])).length) Slot.unset).toArray = ls at hl ⊢
  have hl : lv_has ls 2 [(0, .ref (lo (10, 0, 0))), (1, .int i_1)] := hl
  obtain ⟨H, hH0⟩ : ∃ H, H = s.heap := ⟨_, rfl⟩
  obtain ⟨locs, hlo0⟩ : ∃ L : List Loc, L = [] := ⟨_, rfl⟩
  have hS : va_S (zA Γ) s.heap H locs := by rw [hH0, hlo0]; exact hS
  have hW : Wd Γ lo S X H := by rw [hH0]; exact hW
  rw [← hH0, ← hlo0]
  unfold fX9_stack at hf
  refine lv_aload_n hx hb dX9_stack_0 rfl (lv_at hl 0 rfl) ?_
  refine lv_iload_n hx hb dX9_stack_1 rfl (lv_at hl 1 rfl) ?_
  rcases op_cx hf with ⟨ee3, hc2, hf⟩ | ⟨r1, hc2, hf⟩
  · have hf := congrArg some hf
    have hf := Option.some.inj hf
    cases hf
  · skip
    refine z_callV (As := [.int i_1]) (rest := []) ⟨hx, hb, hml, hown, hts⟩ (tX9_demandGame l Γ lo S X v_z hc2) (cwV 1 hts gX9_stack_X9_demandGame rfl rfl rfl (by decide +kernel) ⟨Nat.le_of_ble_eq_true rfl, Nat.le_of_ble_eq_true rfl⟩) (wd_1 hW v_z) rfl hKK hW hS rfl hl.1 rfl (Nat.le_of_ble_eq_true rfl) dX9_stack_2 ⟨Nat.zero_le _, Nat.zero_le _⟩ (fun H locs hW hS hm1 hE => ?_)
    have v4 : zV S (3, r1, 0) = true := hE
    refine va_get hx hb hts ni_X9_stack_X2 hown hKK.1 (wd_1 hW v4) 0 rfl rfl 2 (by decide) (hts (.fieldLink RX9 170 "TiltRoute$Game" "play" "LTiltRoute$Play;") (List.mem_of_getElem? (i := 1) rfl)) (fun _ h => h) rfl dX9_stack_5 ?_
    have v5 : zV S (6, 0, r1) = true := vf_3_2 hW v4
    obtain ⟨r6, hc7, hf⟩ := op_cl hf
    refine z_callV (As := []) (rest := []) ⟨hx, hb, hml, hown, hts⟩ (tX5_stackedModes l Γ lo S X v5 hc7) (cwV 0 hts gX9_stack_X5_stackedModes rfl rfl rfl (by decide +kernel) ⟨Nat.le_of_ble_eq_true rfl, Nat.le_of_ble_eq_true rfl⟩) (wd_1 hW v5) rfl hKK hW hS rfl hl.1 rfl (Nat.le_of_ble_eq_true rfl) dX9_stack_8 ⟨Nat.zero_le _, Nat.zero_le _⟩ (fun H locs hW hS hm1 hE => ?_)
    have hf := Option.some.inj hf
    have hf := Sum.inr.inj hf
    rw [← hf]
    exact z_iret hx hb hr hlocks rfl hW hS hm trivial dX9_stack_11
abbrev rnX9_stack : Room := { frames := 7, cells := 1, slots := 6, locals := 103 }
set_option maxHeartbeats 4000000 in
set_option maxRecDepth 100000 in
theorem uX9_stack (l : Launch) (hl0 : l.stackTraces = false) (Γ : zG) (lo : zId → Nat) (S : zSt) (X : va_W) {i_1 : Int32} (v_z : zV S (10, 0, 0) = true) {ee : Nat × zSt} (hf : fX9_stack S i_1 = some (Sum.inl ee)) : vx_Met l yX9_stack wsX9_stack rnX9_stack (zP1 Γ lo S X [.ref (lo (10, 0, 0)), .int i_1]) zF (zT Γ lo S X ee) 1 6 (zA Γ) := by
  refine vx_ofW (cc := cX9_stack) (maxL := 2) (ret := (some .int)) (by decide) rfl ?_
  intro p e s m args below meth c s₁ B hml ht hv
  obtain ⟨rfl, hW, hKK, hKX⟩ := hv
  have hx := B.exec
  have hb := B.bytes
  have hr := B.returns
  have hts := atoms_spec (ws := wsX9_stack) B.pre
  have hown : s.vm.findClass RX9 = some m.cls := findClass_of_methodNamed B.named
  have hlocks := B.notSynchronized
  have hS : va_S (zA Γ) s.heap s.heap [] := va_S.rf
  have hm : ∀ c, zV S c = zV S c := fun _ => rfl
  have hl := lv_entry ([.ref (lo (10, 0, 0)), .int i_1]) (n := 2) (Nat.le_of_ble_eq_true rfl)
  rw [lg_entry_eq]
  generalize (lg_sl ([.ref (lo (10, 0, 0)), .int i_1]) ++ List.replicate (2 - (lg_sl ([.ref (lo (10, 0, 0)), .int i_1])).length) Slot.unset).toArray = ls at hl ⊢
  have hl : lv_has ls 2 [(0, .ref (lo (10, 0, 0))), (1, .int i_1)] := hl
  obtain ⟨H, hH0⟩ : ∃ H, H = s.heap := ⟨_, rfl⟩
  obtain ⟨locs, hlo0⟩ : ∃ L : List Loc, L = [] := ⟨_, rfl⟩
  have hS : va_S (zA Γ) s.heap H locs := by rw [hH0, hlo0]; exact hS
  have hW : Wd Γ lo S X H := by rw [hH0]; exact hW
  rw [← hH0, ← hlo0]
  unfold fX9_stack at hf
  refine lv_aload_n hx hb dX9_stack_0 rfl (lv_at hl 0 rfl) ?_
  refine lv_iload_n hx hb dX9_stack_1 rfl (lv_at hl 1 rfl) ?_
  rcases op_cx hf with ⟨ee3, hc2, hf⟩ | ⟨r1, hc2, hf⟩
  · have hf := congrArg some hf
    have hf := Option.some.inj hf
    have hf := Sum.inl.inj hf
    rw [← hf]
    exact zx_callV (As := [.int i_1]) (rest := []) ⟨hx, hb, hml, hown, hts⟩ (uX9_demandGame l hl0 Γ lo S X v_z hc2) (cwV 1 hts gX9_stack_X9_demandGame rfl rfl rfl (by decide +kernel) ⟨Nat.le_of_ble_eq_true rfl, Nat.le_of_ble_eq_true rfl⟩) (wd_1 hW v_z) rfl hKK hKX hW hS hm rfl hl.1 rfl (Nat.le_of_ble_eq_true rfl) dX9_stack_2 ⟨Nat.le_of_ble_eq_true rfl, Nat.le_of_ble_eq_true rfl⟩ ht hlocks
  · skip
    refine z_callV (As := [.int i_1]) (rest := []) ⟨hx, hb, hml, hown, hts⟩ (tX9_demandGame l Γ lo S X v_z hc2) (cwV 1 hts gX9_stack_X9_demandGame rfl rfl rfl (by decide +kernel) ⟨Nat.le_of_ble_eq_true rfl, Nat.le_of_ble_eq_true rfl⟩) (wd_1 hW v_z) rfl hKK hW hS rfl hl.1 rfl (Nat.le_of_ble_eq_true rfl) dX9_stack_2 ⟨Nat.zero_le _, Nat.zero_le _⟩ (fun H locs hW hS hm1 hE => ?_)
    have v4 : zV S (3, r1, 0) = true := hE
    refine va_get hx hb hts ni_X9_stack_X2 hown hKK.1 (wd_1 hW v4) 0 rfl rfl 2 (by decide) (hts (.fieldLink RX9 170 "TiltRoute$Game" "play" "LTiltRoute$Play;") (List.mem_of_getElem? (i := 1) rfl)) (fun _ h => h) rfl dX9_stack_5 ?_
    have v5 : zV S (6, 0, r1) = true := vf_3_2 hW v4
    obtain ⟨r6, hc7, hf⟩ := op_cl hf
    refine z_callV (As := []) (rest := []) ⟨hx, hb, hml, hown, hts⟩ (tX5_stackedModes l Γ lo S X v5 hc7) (cwV 0 hts gX9_stack_X5_stackedModes rfl rfl rfl (by decide +kernel) ⟨Nat.le_of_ble_eq_true rfl, Nat.le_of_ble_eq_true rfl⟩) (wd_1 hW v5) rfl hKK hW hS rfl hl.1 rfl (Nat.le_of_ble_eq_true rfl) dX9_stack_8 ⟨Nat.zero_le _, Nat.zero_le _⟩ (fun H locs hW hS hm1 hE => ?_)
    have hf := Option.some.inj hf
    cases hf

theorem ni_X9_score_X2 : ∀ w ∈ wsX20, w ∈ wsX9_score := by decide +kernel
theorem ni_X9_score_X5 : ∀ w ∈ wsX50, w ∈ wsX9_score := by decide +kernel
def fX9_score (S : zSt) (i_1 : Int32) : Option ((Nat × zSt) ⊕ Int32) :=
cx (fX9_demandGame S i_1) fun r1 =>
some (.inr (zI S (6, 0, r1) 3))
abbrev rmX9_score : Room := { frames := 4, cells := 0, slots := 0, locals := 85 }
set_option maxHeartbeats 4000000 in
set_option maxRecDepth 100000 in
theorem tX9_score (l : Launch) (Γ : zG) (lo : zId → Nat) (S : zSt) (X : va_W) {i_1 : Int32} (v_z : zV S (10, 0, 0) = true) {y : Int32} (hf : fX9_score S i_1 = some (Sum.inr y)) : Met l yX9_score wsX9_score rmX9_score (zP0 Γ lo S X [.ref (lo (10, 0, 0)), .int i_1]) (zQ0 Γ lo S S X (some (.int y)) True) 0 0 (zA Γ) := by
  refine Met.ofW (cc := cX9_score) (maxL := 2) (ret := (some .int)) (by decide) rfl ?_
  intro p e s m args below meth c s₁ B hml hv
  obtain ⟨rfl, hW, hKK⟩ := hv
  have hx := B.exec
  have hb := B.bytes
  have hr := B.returns
  have hts := atoms_spec (ws := wsX9_score) B.pre
  have hown : s.vm.findClass RX9 = some m.cls := findClass_of_methodNamed B.named
  have hlocks := B.notSynchronized
  have hS : va_S (zA Γ) s.heap s.heap [] := va_S.rf
  have hm : ∀ c, zV S c = zV S c := fun _ => rfl
  have hl := lv_entry ([.ref (lo (10, 0, 0)), .int i_1]) (n := 2) (Nat.le_of_ble_eq_true rfl)
  rw [lg_entry_eq]
  generalize (lg_sl ([.ref (lo (10, 0, 0)), .int i_1]) ++ List.replicate (2 - (lg_sl ([.ref (lo (10, 0, 0)), .int i_1])).length) Slot.unset).toArray = ls at hl ⊢
  have hl : lv_has ls 2 [(0, .ref (lo (10, 0, 0))), (1, .int i_1)] := hl
  obtain ⟨H, hH0⟩ : ∃ H, H = s.heap := ⟨_, rfl⟩
  obtain ⟨locs, hlo0⟩ : ∃ L : List Loc, L = [] := ⟨_, rfl⟩
  have hS : va_S (zA Γ) s.heap H locs := by rw [hH0, hlo0]; exact hS
  have hW : Wd Γ lo S X H := by rw [hH0]; exact hW
  rw [← hH0, ← hlo0]
  unfold fX9_score at hf
  refine lv_aload_n hx hb dX9_score_0 rfl (lv_at hl 0 rfl) ?_
  refine lv_iload_n hx hb dX9_score_1 rfl (lv_at hl 1 rfl) ?_
  rcases op_cx hf with ⟨ee3, hc2, hf⟩ | ⟨r1, hc2, hf⟩
  · have hf := congrArg some hf
    have hf := Option.some.inj hf
    cases hf
  · skip
    refine z_callV (As := [.int i_1]) (rest := []) ⟨hx, hb, hml, hown, hts⟩ (tX9_demandGame l Γ lo S X v_z hc2) (cwV 1 hts gX9_score_X9_demandGame rfl rfl rfl (by decide +kernel) ⟨Nat.le_of_ble_eq_true rfl, Nat.le_of_ble_eq_true rfl⟩) (wd_1 hW v_z) rfl hKK hW hS rfl hl.1 rfl (Nat.le_of_ble_eq_true rfl) dX9_score_2 ⟨Nat.zero_le _, Nat.zero_le _⟩ (fun H locs hW hS hm1 hE => ?_)
    have v4 : zV S (3, r1, 0) = true := hE
    refine va_get hx hb hts ni_X9_score_X2 hown hKK.1 (wd_1 hW v4) 0 rfl rfl 2 (by decide) (hts (.fieldLink RX9 170 "TiltRoute$Game" "play" "LTiltRoute$Play;") (List.mem_of_getElem? (i := 1) rfl)) (fun _ h => h) rfl dX9_score_5 ?_
    have v5 : zV S (6, 0, r1) = true := vf_3_2 hW v4
    refine va_get hx hb hts ni_X9_score_X5 hown hKK.1 (wd_1 hW v5) 0 rfl rfl 3 (by decide) (hts (.fieldLink RX9 173 "TiltRoute$Play" "score" "I") (List.mem_of_getElem? (i := 2) rfl)) (fun _ h => h) rfl dX9_score_8 ?_
    have hf := Option.some.inj hf
    have hf := Sum.inr.inj hf
    rw [← hf]
    exact z_iret hx hb hr hlocks rfl hW hS hm trivial dX9_score_11
abbrev rnX9_score : Room := { frames := 7, cells := 1, slots := 6, locals := 103 }
set_option maxHeartbeats 4000000 in
set_option maxRecDepth 100000 in
theorem uX9_score (l : Launch) (hl0 : l.stackTraces = false) (Γ : zG) (lo : zId → Nat) (S : zSt) (X : va_W) {i_1 : Int32} (v_z : zV S (10, 0, 0) = true) {ee : Nat × zSt} (hf : fX9_score S i_1 = some (Sum.inl ee)) : vx_Met l yX9_score wsX9_score rnX9_score (zP1 Γ lo S X [.ref (lo (10, 0, 0)), .int i_1]) zF (zT Γ lo S X ee) 1 6 (zA Γ) := by
  refine vx_ofW (cc := cX9_score) (maxL := 2) (ret := (some .int)) (by decide) rfl ?_
  intro p e s m args below meth c s₁ B hml ht hv
  obtain ⟨rfl, hW, hKK, hKX⟩ := hv
  have hx := B.exec
  have hb := B.bytes
  have hr := B.returns
  have hts := atoms_spec (ws := wsX9_score) B.pre
  have hown : s.vm.findClass RX9 = some m.cls := findClass_of_methodNamed B.named
  have hlocks := B.notSynchronized
  have hS : va_S (zA Γ) s.heap s.heap [] := va_S.rf
  have hm : ∀ c, zV S c = zV S c := fun _ => rfl
  have hl := lv_entry ([.ref (lo (10, 0, 0)), .int i_1]) (n := 2) (Nat.le_of_ble_eq_true rfl)
  rw [lg_entry_eq]
  generalize (lg_sl ([.ref (lo (10, 0, 0)), .int i_1]) ++ List.replicate (2 - (lg_sl ([.ref (lo (10, 0, 0)), .int i_1])).length) Slot.unset).toArray = ls at hl ⊢
  have hl : lv_has ls 2 [(0, .ref (lo (10, 0, 0))), (1, .int i_1)] := hl
  obtain ⟨H, hH0⟩ : ∃ H, H = s.heap := ⟨_, rfl⟩
  obtain ⟨locs, hlo0⟩ : ∃ L : List Loc, L = [] := ⟨_, rfl⟩
  have hS : va_S (zA Γ) s.heap H locs := by rw [hH0, hlo0]; exact hS
  have hW : Wd Γ lo S X H := by rw [hH0]; exact hW
  rw [← hH0, ← hlo0]
  unfold fX9_score at hf
  refine lv_aload_n hx hb dX9_score_0 rfl (lv_at hl 0 rfl) ?_
  refine lv_iload_n hx hb dX9_score_1 rfl (lv_at hl 1 rfl) ?_
  rcases op_cx hf with ⟨ee3, hc2, hf⟩ | ⟨r1, hc2, hf⟩
  · have hf := congrArg some hf
    have hf := Option.some.inj hf
    have hf := Sum.inl.inj hf
    rw [← hf]
    exact zx_callV (As := [.int i_1]) (rest := []) ⟨hx, hb, hml, hown, hts⟩ (uX9_demandGame l hl0 Γ lo S X v_z hc2) (cwV 1 hts gX9_score_X9_demandGame rfl rfl rfl (by decide +kernel) ⟨Nat.le_of_ble_eq_true rfl, Nat.le_of_ble_eq_true rfl⟩) (wd_1 hW v_z) rfl hKK hKX hW hS hm rfl hl.1 rfl (Nat.le_of_ble_eq_true rfl) dX9_score_2 ⟨Nat.le_of_ble_eq_true rfl, Nat.le_of_ble_eq_true rfl⟩ ht hlocks
  · skip
    refine z_callV (As := [.int i_1]) (rest := []) ⟨hx, hb, hml, hown, hts⟩ (tX9_demandGame l Γ lo S X v_z hc2) (cwV 1 hts gX9_score_X9_demandGame rfl rfl rfl (by decide +kernel) ⟨Nat.le_of_ble_eq_true rfl, Nat.le_of_ble_eq_true rfl⟩) (wd_1 hW v_z) rfl hKK hW hS rfl hl.1 rfl (Nat.le_of_ble_eq_true rfl) dX9_score_2 ⟨Nat.zero_le _, Nat.zero_le _⟩ (fun H locs hW hS hm1 hE => ?_)
    have v4 : zV S (3, r1, 0) = true := hE
    refine va_get hx hb hts ni_X9_score_X2 hown hKK.1 (wd_1 hW v4) 0 rfl rfl 2 (by decide) (hts (.fieldLink RX9 170 "TiltRoute$Game" "play" "LTiltRoute$Play;") (List.mem_of_getElem? (i := 1) rfl)) (fun _ h => h) rfl dX9_score_5 ?_
    have v5 : zV S (6, 0, r1) = true := vf_3_2 hW v4
    refine va_get hx hb hts ni_X9_score_X5 hown hKK.1 (wd_1 hW v5) 0 rfl rfl 3 (by decide) (hts (.fieldLink RX9 173 "TiltRoute$Play" "score" "I") (List.mem_of_getElem? (i := 2) rfl)) (fun _ h => h) rfl dX9_score_8 ?_
    have hf := Option.some.inj hf
    cases hf

def fX9_scoreByLog (S : zSt) (i_1 : Int32) : Option ((Nat × zSt) ⊕ (Int32 × zSt)) :=
cx (fX9_demandGame S i_1) fun r1 =>
cl2 (fX9_replayedScore S r1 (0 : Int32)) fun r5 S7 =>
some (.inr (r5, S7))
abbrev rmX9_scoreByLog : Room := { frames := 4, cells := 0, slots := 0, locals := 95 }
set_option maxHeartbeats 4000000 in
set_option maxRecDepth 100000 in
theorem tX9_scoreByLog (l : Launch) (Γ : zG) (lo : zId → Nat) (S : zSt) (X : va_W) {i_1 : Int32} (v_z : zV S (10, 0, 0) = true) {y : (Int32 × zSt)} (hf : fX9_scoreByLog S i_1 = some (Sum.inr y)) : Met l yX9_scoreByLog wsX9_scoreByLog rmX9_scoreByLog (zP0 Γ lo S X [.ref (lo (10, 0, 0)), .int i_1]) (zQ0 Γ lo S y.2 X (some (.int y.1)) True) 0 0 (zA Γ) := by
  refine Met.ofW (cc := cX9_scoreByLog) (maxL := 2) (ret := (some .int)) (by decide) rfl ?_
  intro p e s m args below meth c s₁ B hml hv
  obtain ⟨rfl, hW, hKK⟩ := hv
  have hx := B.exec
  have hb := B.bytes
  have hr := B.returns
  have hts := atoms_spec (ws := wsX9_scoreByLog) B.pre
  have hown : s.vm.findClass RX9 = some m.cls := findClass_of_methodNamed B.named
  have hlocks := B.notSynchronized
  have hS : va_S (zA Γ) s.heap s.heap [] := va_S.rf
  have hm : ∀ c, zV S c = zV S c := fun _ => rfl
  have hl := lv_entry ([.ref (lo (10, 0, 0)), .int i_1]) (n := 2) (Nat.le_of_ble_eq_true rfl)
  rw [lg_entry_eq]
  generalize (lg_sl ([.ref (lo (10, 0, 0)), .int i_1]) ++ List.replicate (2 - (lg_sl ([.ref (lo (10, 0, 0)), .int i_1])).length) Slot.unset).toArray = ls at hl ⊢
  have hl : lv_has ls 2 [(0, .ref (lo (10, 0, 0))), (1, .int i_1)] := hl
  obtain ⟨H, hH0⟩ : ∃ H, H = s.heap := ⟨_, rfl⟩
  obtain ⟨locs, hlo0⟩ : ∃ L : List Loc, L = [] := ⟨_, rfl⟩
  have hS : va_S (zA Γ) s.heap H locs := by rw [hH0, hlo0]; exact hS
  have hW : Wd Γ lo S X H := by rw [hH0]; exact hW
  rw [← hH0, ← hlo0]
  unfold fX9_scoreByLog at hf
  refine lv_aload_n hx hb dX9_scoreByLog_0 rfl (lv_at hl 0 rfl) ?_
  refine lv_aload_n hx hb dX9_scoreByLog_1 rfl (lv_at hl 0 rfl) ?_
  refine lv_iload_n hx hb dX9_scoreByLog_2 rfl (lv_at hl 1 rfl) ?_
  rcases op_cx hf with ⟨ee3, hc2, hf⟩ | ⟨r1, hc2, hf⟩
  · have hf := congrArg some hf
    have hf := Option.some.inj hf
    cases hf
  · skip
    refine z_callV (As := [.int i_1]) (rest := [.ref (lo (10, 0, 0))]) ⟨hx, hb, hml, hown, hts⟩ (tX9_demandGame l Γ lo S X v_z hc2) (cwV 1 hts gX9_scoreByLog_X9_demandGame rfl rfl rfl (by decide +kernel) ⟨Nat.le_of_ble_eq_true rfl, Nat.le_of_ble_eq_true rfl⟩) (wd_1 hW v_z) rfl hKK hW hS rfl hl.1 rfl (Nat.le_of_ble_eq_true rfl) dX9_scoreByLog_3 ⟨Nat.zero_le _, Nat.zero_le _⟩ (fun H locs hW hS hm1 hE => ?_)
    have v4 : zV S (3, r1, 0) = true := hE
    refine lv_iconst (v := (0)) hx hb dX9_scoreByLog_6 (by decide) ?_
    obtain ⟨r5, S7, hc6, hf⟩ := op_cl2 hf
    refine z_callV (As := [.ref (lo (3, r1, 0)), .int (0 : Int32)]) (rest := []) ⟨hx, hb, hml, hown, hts⟩ (tX9_replayedScore l Γ lo S X v_z v4 (Or.inl rfl) hc6) (cwV 2 hts gX9_scoreByLog_X9_replayedScore rfl rfl rfl (by decide +kernel) ⟨Nat.le_of_ble_eq_true rfl, Nat.le_of_ble_eq_true rfl⟩) (wd_1 hW v_z) rfl hKK hW hS rfl hl.1 rfl (Nat.le_of_ble_eq_true rfl) dX9_scoreByLog_7 ⟨Nat.zero_le _, Nat.zero_le _⟩ (fun H locs hW hS hm1 hE => ?_)
    have hm : ∀ c, zV S7 c = zV S c := hm1
    have hf := Option.some.inj hf
    have hf := Sum.inr.inj hf
    rw [← hf]
    exact z_iret hx hb hr hlocks rfl hW hS hm trivial dX9_scoreByLog_10
abbrev rnX9_scoreByLog : Room := { frames := 7, cells := 1, slots := 6, locals := 103 }
set_option maxHeartbeats 4000000 in
set_option maxRecDepth 100000 in
theorem uX9_scoreByLog (l : Launch) (hl0 : l.stackTraces = false) (Γ : zG) (lo : zId → Nat) (S : zSt) (X : va_W) {i_1 : Int32} (v_z : zV S (10, 0, 0) = true) {ee : Nat × zSt} (hf : fX9_scoreByLog S i_1 = some (Sum.inl ee)) : vx_Met l yX9_scoreByLog wsX9_scoreByLog rnX9_scoreByLog (zP1 Γ lo S X [.ref (lo (10, 0, 0)), .int i_1]) zF (zT Γ lo S X ee) 1 6 (zA Γ) := by
  refine vx_ofW (cc := cX9_scoreByLog) (maxL := 2) (ret := (some .int)) (by decide) rfl ?_
  intro p e s m args below meth c s₁ B hml ht hv
  obtain ⟨rfl, hW, hKK, hKX⟩ := hv
  have hx := B.exec
  have hb := B.bytes
  have hr := B.returns
  have hts := atoms_spec (ws := wsX9_scoreByLog) B.pre
  have hown : s.vm.findClass RX9 = some m.cls := findClass_of_methodNamed B.named
  have hlocks := B.notSynchronized
  have hS : va_S (zA Γ) s.heap s.heap [] := va_S.rf
  have hm : ∀ c, zV S c = zV S c := fun _ => rfl
  have hl := lv_entry ([.ref (lo (10, 0, 0)), .int i_1]) (n := 2) (Nat.le_of_ble_eq_true rfl)
  rw [lg_entry_eq]
  generalize (lg_sl ([.ref (lo (10, 0, 0)), .int i_1]) ++ List.replicate (2 - (lg_sl ([.ref (lo (10, 0, 0)), .int i_1])).length) Slot.unset).toArray = ls at hl ⊢
  have hl : lv_has ls 2 [(0, .ref (lo (10, 0, 0))), (1, .int i_1)] := hl
  obtain ⟨H, hH0⟩ : ∃ H, H = s.heap := ⟨_, rfl⟩
  obtain ⟨locs, hlo0⟩ : ∃ L : List Loc, L = [] := ⟨_, rfl⟩
  have hS : va_S (zA Γ) s.heap H locs := by rw [hH0, hlo0]; exact hS
  have hW : Wd Γ lo S X H := by rw [hH0]; exact hW
  rw [← hH0, ← hlo0]
  unfold fX9_scoreByLog at hf
  refine lv_aload_n hx hb dX9_scoreByLog_0 rfl (lv_at hl 0 rfl) ?_
  refine lv_aload_n hx hb dX9_scoreByLog_1 rfl (lv_at hl 0 rfl) ?_
  refine lv_iload_n hx hb dX9_scoreByLog_2 rfl (lv_at hl 1 rfl) ?_
  rcases op_cx hf with ⟨ee3, hc2, hf⟩ | ⟨r1, hc2, hf⟩
  · have hf := congrArg some hf
    have hf := Option.some.inj hf
    have hf := Sum.inl.inj hf
    rw [← hf]
    exact zx_callV (As := [.int i_1]) (rest := [.ref (lo (10, 0, 0))]) ⟨hx, hb, hml, hown, hts⟩ (uX9_demandGame l hl0 Γ lo S X v_z hc2) (cwV 1 hts gX9_scoreByLog_X9_demandGame rfl rfl rfl (by decide +kernel) ⟨Nat.le_of_ble_eq_true rfl, Nat.le_of_ble_eq_true rfl⟩) (wd_1 hW v_z) rfl hKK hKX hW hS hm rfl hl.1 rfl (Nat.le_of_ble_eq_true rfl) dX9_scoreByLog_3 ⟨Nat.le_of_ble_eq_true rfl, Nat.le_of_ble_eq_true rfl⟩ ht hlocks
  · skip
    refine z_callV (As := [.int i_1]) (rest := [.ref (lo (10, 0, 0))]) ⟨hx, hb, hml, hown, hts⟩ (tX9_demandGame l Γ lo S X v_z hc2) (cwV 1 hts gX9_scoreByLog_X9_demandGame rfl rfl rfl (by decide +kernel) ⟨Nat.le_of_ble_eq_true rfl, Nat.le_of_ble_eq_true rfl⟩) (wd_1 hW v_z) rfl hKK hW hS rfl hl.1 rfl (Nat.le_of_ble_eq_true rfl) dX9_scoreByLog_3 ⟨Nat.zero_le _, Nat.zero_le _⟩ (fun H locs hW hS hm1 hE => ?_)
    have v4 : zV S (3, r1, 0) = true := hE
    refine lv_iconst (v := (0)) hx hb dX9_scoreByLog_6 (by decide) ?_
    obtain ⟨r5, S7, hc6, hf⟩ := op_cl2 hf
    refine z_callV (As := [.ref (lo (3, r1, 0)), .int (0 : Int32)]) (rest := []) ⟨hx, hb, hml, hown, hts⟩ (tX9_replayedScore l Γ lo S X v_z v4 (Or.inl rfl) hc6) (cwV 2 hts gX9_scoreByLog_X9_replayedScore rfl rfl rfl (by decide +kernel) ⟨Nat.le_of_ble_eq_true rfl, Nat.le_of_ble_eq_true rfl⟩) (wd_1 hW v_z) rfl hKK hW hS rfl hl.1 rfl (Nat.le_of_ble_eq_true rfl) dX9_scoreByLog_7 ⟨Nat.zero_le _, Nat.zero_le _⟩ (fun H locs hW hS hm1 hE => ?_)
    have hm : ∀ c, zV S7 c = zV S c := hm1
    have hf := Option.some.inj hf
    cases hf

def fX9_valid (S : zSt) (i_1 : Int32) : Option ((Nat × zSt) ⊕ (Int32 × zSt)) :=
cx (fX9_demandGame S i_1) fun r1 =>
cl2 (fX9_replayedScore S r1 (1 : Int32)) fun r5 S7 =>
some (.inr (r5, S7))
abbrev rmX9_valid : Room := { frames := 4, cells := 0, slots := 0, locals := 95 }
set_option maxHeartbeats 4000000 in
set_option maxRecDepth 100000 in
theorem tX9_valid (l : Launch) (Γ : zG) (lo : zId → Nat) (S : zSt) (X : va_W) {i_1 : Int32} (v_z : zV S (10, 0, 0) = true) {y : (Int32 × zSt)} (hf : fX9_valid S i_1 = some (Sum.inr y)) : Met l yX9_valid wsX9_valid rmX9_valid (zP0 Γ lo S X [.ref (lo (10, 0, 0)), .int i_1]) (zQ0 Γ lo S y.2 X (some (.int y.1)) True) 0 0 (zA Γ) := by
  refine Met.ofW (cc := cX9_valid) (maxL := 2) (ret := (some .int)) (by decide) rfl ?_
  intro p e s m args below meth c s₁ B hml hv
  obtain ⟨rfl, hW, hKK⟩ := hv
  have hx := B.exec
  have hb := B.bytes
  have hr := B.returns
  have hts := atoms_spec (ws := wsX9_valid) B.pre
  have hown : s.vm.findClass RX9 = some m.cls := findClass_of_methodNamed B.named
  have hlocks := B.notSynchronized
  have hS : va_S (zA Γ) s.heap s.heap [] := va_S.rf
  have hm : ∀ c, zV S c = zV S c := fun _ => rfl
  have hl := lv_entry ([.ref (lo (10, 0, 0)), .int i_1]) (n := 2) (Nat.le_of_ble_eq_true rfl)
  rw [lg_entry_eq]
  generalize (lg_sl ([.ref (lo (10, 0, 0)), .int i_1]) ++ List.replicate (2 - (lg_sl ([.ref (lo (10, 0, 0)), .int i_1])).length) Slot.unset).toArray = ls at hl ⊢
  have hl : lv_has ls 2 [(0, .ref (lo (10, 0, 0))), (1, .int i_1)] := hl
  obtain ⟨H, hH0⟩ : ∃ H, H = s.heap := ⟨_, rfl⟩
  obtain ⟨locs, hlo0⟩ : ∃ L : List Loc, L = [] := ⟨_, rfl⟩
  have hS : va_S (zA Γ) s.heap H locs := by rw [hH0, hlo0]; exact hS
  have hW : Wd Γ lo S X H := by rw [hH0]; exact hW
  rw [← hH0, ← hlo0]
  unfold fX9_valid at hf
  refine lv_aload_n hx hb dX9_valid_0 rfl (lv_at hl 0 rfl) ?_
  refine lv_aload_n hx hb dX9_valid_1 rfl (lv_at hl 0 rfl) ?_
  refine lv_iload_n hx hb dX9_valid_2 rfl (lv_at hl 1 rfl) ?_
  rcases op_cx hf with ⟨ee3, hc2, hf⟩ | ⟨r1, hc2, hf⟩
  · have hf := congrArg some hf
    have hf := Option.some.inj hf
    cases hf
  · skip
    refine z_callV (As := [.int i_1]) (rest := [.ref (lo (10, 0, 0))]) ⟨hx, hb, hml, hown, hts⟩ (tX9_demandGame l Γ lo S X v_z hc2) (cwV 1 hts gX9_valid_X9_demandGame rfl rfl rfl (by decide +kernel) ⟨Nat.le_of_ble_eq_true rfl, Nat.le_of_ble_eq_true rfl⟩) (wd_1 hW v_z) rfl hKK hW hS rfl hl.1 rfl (Nat.le_of_ble_eq_true rfl) dX9_valid_3 ⟨Nat.zero_le _, Nat.zero_le _⟩ (fun H locs hW hS hm1 hE => ?_)
    have v4 : zV S (3, r1, 0) = true := hE
    refine lv_iconst (v := (1)) hx hb dX9_valid_6 (by decide) ?_
    obtain ⟨r5, S7, hc6, hf⟩ := op_cl2 hf
    refine z_callV (As := [.ref (lo (3, r1, 0)), .int (1 : Int32)]) (rest := []) ⟨hx, hb, hml, hown, hts⟩ (tX9_replayedScore l Γ lo S X v_z v4 (Or.inr rfl) hc6) (cwV 2 hts gX9_valid_X9_replayedScore rfl rfl rfl (by decide +kernel) ⟨Nat.le_of_ble_eq_true rfl, Nat.le_of_ble_eq_true rfl⟩) (wd_1 hW v_z) rfl hKK hW hS rfl hl.1 rfl (Nat.le_of_ble_eq_true rfl) dX9_valid_7 ⟨Nat.zero_le _, Nat.zero_le _⟩ (fun H locs hW hS hm1 hE => ?_)
    have hm : ∀ c, zV S7 c = zV S c := hm1
    have hf := Option.some.inj hf
    have hf := Sum.inr.inj hf
    rw [← hf]
    exact z_iret hx hb hr hlocks rfl hW hS hm trivial dX9_valid_10
abbrev rnX9_valid : Room := { frames := 7, cells := 1, slots := 6, locals := 103 }
set_option maxHeartbeats 4000000 in
set_option maxRecDepth 100000 in
theorem uX9_valid (l : Launch) (hl0 : l.stackTraces = false) (Γ : zG) (lo : zId → Nat) (S : zSt) (X : va_W) {i_1 : Int32} (v_z : zV S (10, 0, 0) = true) {ee : Nat × zSt} (hf : fX9_valid S i_1 = some (Sum.inl ee)) : vx_Met l yX9_valid wsX9_valid rnX9_valid (zP1 Γ lo S X [.ref (lo (10, 0, 0)), .int i_1]) zF (zT Γ lo S X ee) 1 6 (zA Γ) := by
  refine vx_ofW (cc := cX9_valid) (maxL := 2) (ret := (some .int)) (by decide) rfl ?_
  intro p e s m args below meth c s₁ B hml ht hv
  obtain ⟨rfl, hW, hKK, hKX⟩ := hv
  have hx := B.exec
  have hb := B.bytes
  have hr := B.returns
  have hts := atoms_spec (ws := wsX9_valid) B.pre
  have hown : s.vm.findClass RX9 = some m.cls := findClass_of_methodNamed B.named
  have hlocks := B.notSynchronized
  have hS : va_S (zA Γ) s.heap s.heap [] := va_S.rf
  have hm : ∀ c, zV S c = zV S c := fun _ => rfl
  have hl := lv_entry ([.ref (lo (10, 0, 0)), .int i_1]) (n := 2) (Nat.le_of_ble_eq_true rfl)
  rw [lg_entry_eq]
  generalize (lg_sl ([.ref (lo (10, 0, 0)), .int i_1]) ++ List.replicate (2 - (lg_sl ([.ref (lo (10, 0, 0)), .int i_1])).length) Slot.unset).toArray = ls at hl ⊢
  have hl : lv_has ls 2 [(0, .ref (lo (10, 0, 0))), (1, .int i_1)] := hl
  obtain ⟨H, hH0⟩ : ∃ H, H = s.heap := ⟨_, rfl⟩
  obtain ⟨locs, hlo0⟩ : ∃ L : List Loc, L = [] := ⟨_, rfl⟩
  have hS : va_S (zA Γ) s.heap H locs := by rw [hH0, hlo0]; exact hS
  have hW : Wd Γ lo S X H := by rw [hH0]; exact hW
  rw [← hH0, ← hlo0]
  unfold fX9_valid at hf
  refine lv_aload_n hx hb dX9_valid_0 rfl (lv_at hl 0 rfl) ?_
  refine lv_aload_n hx hb dX9_valid_1 rfl (lv_at hl 0 rfl) ?_
  refine lv_iload_n hx hb dX9_valid_2 rfl (lv_at hl 1 rfl) ?_
  rcases op_cx hf with ⟨ee3, hc2, hf⟩ | ⟨r1, hc2, hf⟩
  · have hf := congrArg some hf
    have hf := Option.some.inj hf
    have hf := Sum.inl.inj hf
    rw [← hf]
    exact zx_callV (As := [.int i_1]) (rest := [.ref (lo (10, 0, 0))]) ⟨hx, hb, hml, hown, hts⟩ (uX9_demandGame l hl0 Γ lo S X v_z hc2) (cwV 1 hts gX9_valid_X9_demandGame rfl rfl rfl (by decide +kernel) ⟨Nat.le_of_ble_eq_true rfl, Nat.le_of_ble_eq_true rfl⟩) (wd_1 hW v_z) rfl hKK hKX hW hS hm rfl hl.1 rfl (Nat.le_of_ble_eq_true rfl) dX9_valid_3 ⟨Nat.le_of_ble_eq_true rfl, Nat.le_of_ble_eq_true rfl⟩ ht hlocks
  · skip
    refine z_callV (As := [.int i_1]) (rest := [.ref (lo (10, 0, 0))]) ⟨hx, hb, hml, hown, hts⟩ (tX9_demandGame l Γ lo S X v_z hc2) (cwV 1 hts gX9_valid_X9_demandGame rfl rfl rfl (by decide +kernel) ⟨Nat.le_of_ble_eq_true rfl, Nat.le_of_ble_eq_true rfl⟩) (wd_1 hW v_z) rfl hKK hW hS rfl hl.1 rfl (Nat.le_of_ble_eq_true rfl) dX9_valid_3 ⟨Nat.zero_le _, Nat.zero_le _⟩ (fun H locs hW hS hm1 hE => ?_)
    have v4 : zV S (3, r1, 0) = true := hE
    refine lv_iconst (v := (1)) hx hb dX9_valid_6 (by decide) ?_
    obtain ⟨r5, S7, hc6, hf⟩ := op_cl2 hf
    refine z_callV (As := [.ref (lo (3, r1, 0)), .int (1 : Int32)]) (rest := []) ⟨hx, hb, hml, hown, hts⟩ (tX9_replayedScore l Γ lo S X v_z v4 (Or.inr rfl) hc6) (cwV 2 hts gX9_valid_X9_replayedScore rfl rfl rfl (by decide +kernel) ⟨Nat.le_of_ble_eq_true rfl, Nat.le_of_ble_eq_true rfl⟩) (wd_1 hW v_z) rfl hKK hW hS rfl hl.1 rfl (Nat.le_of_ble_eq_true rfl) dX9_valid_7 ⟨Nat.zero_le _, Nat.zero_le _⟩ (fun H locs hW hS hm1 hE => ?_)
    have hm : ∀ c, zV S7 c = zV S c := hm1
    have hf := Option.some.inj hf
    cases hf

theorem ni_X9_logged_X2 : ∀ w ∈ wsX20, w ∈ wsX9_logged := by decide +kernel
def fX9_logged (S : zSt) (i_1 : Int32) : Option ((Nat × zSt) ⊕ Int32) :=
cx (fX9_demandGame S i_1) fun r1 =>
some (.inr (zI S (3, r1, 0) 4))
abbrev rmX9_logged : Room := { frames := 4, cells := 0, slots := 0, locals := 85 }
set_option maxHeartbeats 4000000 in
set_option maxRecDepth 100000 in
theorem tX9_logged (l : Launch) (Γ : zG) (lo : zId → Nat) (S : zSt) (X : va_W) {i_1 : Int32} (v_z : zV S (10, 0, 0) = true) {y : Int32} (hf : fX9_logged S i_1 = some (Sum.inr y)) : Met l yX9_logged wsX9_logged rmX9_logged (zP0 Γ lo S X [.ref (lo (10, 0, 0)), .int i_1]) (zQ0 Γ lo S S X (some (.int y)) True) 0 0 (zA Γ) := by
  refine Met.ofW (cc := cX9_logged) (maxL := 2) (ret := (some .int)) (by decide) rfl ?_
  intro p e s m args below meth c s₁ B hml hv
  obtain ⟨rfl, hW, hKK⟩ := hv
  have hx := B.exec
  have hb := B.bytes
  have hr := B.returns
  have hts := atoms_spec (ws := wsX9_logged) B.pre
  have hown : s.vm.findClass RX9 = some m.cls := findClass_of_methodNamed B.named
  have hlocks := B.notSynchronized
  have hS : va_S (zA Γ) s.heap s.heap [] := va_S.rf
  have hm : ∀ c, zV S c = zV S c := fun _ => rfl
  have hl := lv_entry ([.ref (lo (10, 0, 0)), .int i_1]) (n := 2) (Nat.le_of_ble_eq_true rfl)
  rw [lg_entry_eq]
  generalize (lg_sl ([.ref (lo (10, 0, 0)), .int i_1]) ++ List.replicate (2 - (lg_sl ([.ref (lo (10, 0, 0)), .int i_1])).length) Slot.unset).toArray = ls at hl ⊢
  have hl : lv_has ls 2 [(0, .ref (lo (10, 0, 0))), (1, .int i_1)] := hl
  obtain ⟨H, hH0⟩ : ∃ H, H = s.heap := ⟨_, rfl⟩
  obtain ⟨locs, hlo0⟩ : ∃ L : List Loc, L = [] := ⟨_, rfl⟩
  have hS : va_S (zA Γ) s.heap H locs := by rw [hH0, hlo0]; exact hS
  have hW : Wd Γ lo S X H := by rw [hH0]; exact hW
  rw [← hH0, ← hlo0]
  unfold fX9_logged at hf
  refine lv_aload_n hx hb dX9_logged_0 rfl (lv_at hl 0 rfl) ?_
  refine lv_iload_n hx hb dX9_logged_1 rfl (lv_at hl 1 rfl) ?_
  rcases op_cx hf with ⟨ee3, hc2, hf⟩ | ⟨r1, hc2, hf⟩
  · have hf := congrArg some hf
    have hf := Option.some.inj hf
    cases hf
  · skip
    refine z_callV (As := [.int i_1]) (rest := []) ⟨hx, hb, hml, hown, hts⟩ (tX9_demandGame l Γ lo S X v_z hc2) (cwV 1 hts gX9_logged_X9_demandGame rfl rfl rfl (by decide +kernel) ⟨Nat.le_of_ble_eq_true rfl, Nat.le_of_ble_eq_true rfl⟩) (wd_1 hW v_z) rfl hKK hW hS rfl hl.1 rfl (Nat.le_of_ble_eq_true rfl) dX9_logged_2 ⟨Nat.zero_le _, Nat.zero_le _⟩ (fun H locs hW hS hm1 hE => ?_)
    have v4 : zV S (3, r1, 0) = true := hE
    refine va_get hx hb hts ni_X9_logged_X2 hown hKK.1 (wd_1 hW v4) 0 rfl rfl 4 (by decide) (hts (.fieldLink RX9 202 "TiltRoute$Game" "logged" "I") (List.mem_of_getElem? (i := 1) rfl)) (fun _ h => h) rfl dX9_logged_5 ?_
    have hf := Option.some.inj hf
    have hf := Sum.inr.inj hf
    rw [← hf]
    exact z_iret hx hb hr hlocks rfl hW hS hm trivial dX9_logged_8
abbrev rnX9_logged : Room := { frames := 7, cells := 1, slots := 6, locals := 103 }
set_option maxHeartbeats 4000000 in
set_option maxRecDepth 100000 in
theorem uX9_logged (l : Launch) (hl0 : l.stackTraces = false) (Γ : zG) (lo : zId → Nat) (S : zSt) (X : va_W) {i_1 : Int32} (v_z : zV S (10, 0, 0) = true) {ee : Nat × zSt} (hf : fX9_logged S i_1 = some (Sum.inl ee)) : vx_Met l yX9_logged wsX9_logged rnX9_logged (zP1 Γ lo S X [.ref (lo (10, 0, 0)), .int i_1]) zF (zT Γ lo S X ee) 1 6 (zA Γ) := by
  refine vx_ofW (cc := cX9_logged) (maxL := 2) (ret := (some .int)) (by decide) rfl ?_
  intro p e s m args below meth c s₁ B hml ht hv
  obtain ⟨rfl, hW, hKK, hKX⟩ := hv
  have hx := B.exec
  have hb := B.bytes
  have hr := B.returns
  have hts := atoms_spec (ws := wsX9_logged) B.pre
  have hown : s.vm.findClass RX9 = some m.cls := findClass_of_methodNamed B.named
  have hlocks := B.notSynchronized
  have hS : va_S (zA Γ) s.heap s.heap [] := va_S.rf
  have hm : ∀ c, zV S c = zV S c := fun _ => rfl
  have hl := lv_entry ([.ref (lo (10, 0, 0)), .int i_1]) (n := 2) (Nat.le_of_ble_eq_true rfl)
  rw [lg_entry_eq]
  generalize (lg_sl ([.ref (lo (10, 0, 0)), .int i_1]) ++ List.replicate (2 - (lg_sl ([.ref (lo (10, 0, 0)), .int i_1])).length) Slot.unset).toArray = ls at hl ⊢
  have hl : lv_has ls 2 [(0, .ref (lo (10, 0, 0))), (1, .int i_1)] := hl
  obtain ⟨H, hH0⟩ : ∃ H, H = s.heap := ⟨_, rfl⟩
  obtain ⟨locs, hlo0⟩ : ∃ L : List Loc, L = [] := ⟨_, rfl⟩
  have hS : va_S (zA Γ) s.heap H locs := by rw [hH0, hlo0]; exact hS
  have hW : Wd Γ lo S X H := by rw [hH0]; exact hW
  rw [← hH0, ← hlo0]
  unfold fX9_logged at hf
  refine lv_aload_n hx hb dX9_logged_0 rfl (lv_at hl 0 rfl) ?_
  refine lv_iload_n hx hb dX9_logged_1 rfl (lv_at hl 1 rfl) ?_
  rcases op_cx hf with ⟨ee3, hc2, hf⟩ | ⟨r1, hc2, hf⟩
  · have hf := congrArg some hf
    have hf := Option.some.inj hf
    have hf := Sum.inl.inj hf
    rw [← hf]
    exact zx_callV (As := [.int i_1]) (rest := []) ⟨hx, hb, hml, hown, hts⟩ (uX9_demandGame l hl0 Γ lo S X v_z hc2) (cwV 1 hts gX9_logged_X9_demandGame rfl rfl rfl (by decide +kernel) ⟨Nat.le_of_ble_eq_true rfl, Nat.le_of_ble_eq_true rfl⟩) (wd_1 hW v_z) rfl hKK hKX hW hS hm rfl hl.1 rfl (Nat.le_of_ble_eq_true rfl) dX9_logged_2 ⟨Nat.le_of_ble_eq_true rfl, Nat.le_of_ble_eq_true rfl⟩ ht hlocks
  · skip
    refine z_callV (As := [.int i_1]) (rest := []) ⟨hx, hb, hml, hown, hts⟩ (tX9_demandGame l Γ lo S X v_z hc2) (cwV 1 hts gX9_logged_X9_demandGame rfl rfl rfl (by decide +kernel) ⟨Nat.le_of_ble_eq_true rfl, Nat.le_of_ble_eq_true rfl⟩) (wd_1 hW v_z) rfl hKK hW hS rfl hl.1 rfl (Nat.le_of_ble_eq_true rfl) dX9_logged_2 ⟨Nat.zero_le _, Nat.zero_le _⟩ (fun H locs hW hS hm1 hE => ?_)
    have v4 : zV S (3, r1, 0) = true := hE
    refine va_get hx hb hts ni_X9_logged_X2 hown hKK.1 (wd_1 hW v4) 0 rfl rfl 4 (by decide) (hts (.fieldLink RX9 202 "TiltRoute$Game" "logged" "I") (List.mem_of_getElem? (i := 1) rfl)) (fun _ h => h) rfl dX9_logged_5 ?_
    have hf := Option.some.inj hf
    cases hf

