section ZK
variable {p : Program} {l : Launch} {e : Env} {R : Room} {s : State} {m : MethodId} {args : Array Value} {below : List Frame} {meth : Method} {c : Code} {H : Heap} {locs : List Loc} {cells slots : Nat} {Q : State → Prop}
variable {cc : ByteArray} {pc : Nat} {ls : Array Slot} {rest : List Value} {Γ : zG} {lo : zId → Nat} {S S0 : zSt} {X : va_W} {H0 : Heap}
theorem z_callI {Ts ws : List Cond} {bytes : ByteArray} {nL maxL index n mc ms : Nat} {own : String} {y : MethodName} {rm : Room} {X1 : va_W} {lo1 : zId → Nat} {S0 S1 : zSt} {E : Prop} {v : Option Value} {b : Addr} {As : List Value}
    (F : CallFix p m c cc nL s args Ts own) (hM : Met l y ws rm (zP0 Γ lo S X (.ref b :: As)) (zQ0 Γ lo1 S0 S1 X1 v E) mc ms (zA Γ)) (cw : CallB R s args own index y bytes maxL none ws rm mc ms n ∧ y.name = "<init>" ∧ (Cond.instanceMethod y).before args s = true) (hKK : KK Γ s) (hW : Wd Γ lo S X H) (hS : va_S (zA Γ) s.heap H locs)
    (hn : As.length = n) (hsize : ls.size = nL) {st0 : List Value} (hst : st0 = As.reverse ++ .ref b :: rest) (hR : (rest.map fun v => v.category).sum ≤ 8) (hdg : decode cc pc = .ok (.invokespecial index, 3)) (hf : cells + mc ≤ R.cells ∧ slots + ms ≤ R.slots)
    (kk : ∀ (H1 : Heap) (locs1 : List Loc), Wd Γ lo1 S1 X1 H1 → va_S (zA Γ) s.heap H1 locs1 → (∀ c, zV S1 c = zV S0 c) → E → W p l e R s m args below meth c H1 locs1 (cells + mc) (slots + ms) Q (F0 m (pc + 3) ls (v.toList ++ rest))) : W p l e R s m args below meth c H locs cells slots Q (F0 m pc ls st0) :=
  z_go (va_runI F hM cw ⟨fun _ _ _ _ q => q, fun _ hU hW1 => ⟨rfl, by rw [hU]; exact hW, hKK.go hS hU hW1⟩⟩ rfl hn hsize hst (lv_room hR) hdg hf) hS kk
/-- a raw field by the class that declares it -/
theorem x_putD (hexec : p.tables.exec = Jvm.exec) (hb : c.code = cc) {own C : String} {T : u_T} {N ci index : Nat} {Ts : List Cond} (hts : ∀ w ∈ Ts, w.before args s = true) (hin : ∀ w ∈ u_ws C T N, w ∈ Ts) (ty0 : Nat → FieldType) (hty : ∀ k, k < N → parseFieldDescriptor (T k).2.2.1 = some (ty0 k)) (hnm : ∀ a, a < N → ∀ b, b < N → a ≠ b → (T a).2.1 ≠ (T b).2.1)
    (hown : s.vm.findClass own = some m.cls) (hK : va_K Γ.1 vwCl (zTy Γ) s) (hW : Wd Γ lo S X H) (hS0 : va_S (zA Γ) H0 H locs) (pl : Nat) {a : Nat} {fs : List Value} (hX : X[pl]? = some (a, .inr (ci, fs))) (hc : vwCl[ci]? = some (C, T, N)) (k : Nat) (hk : k < N)
    (hlink : (Cond.fieldLink own index (T k).1 (T k).2.1 (T k).2.2.1).before args s = true) (hfin : (T k).2.2.2 = false) {v : Value} {ty : FieldType} (hd : parseFieldDescriptor (T k).2.2.1 = some ty) (hn : narrow ty v = v) (hfit : fits ty v = true) (hl : k < fs.length) (hdg : decode cc pc = .ok (.putfield index, 3))
    (kk : ∀ (H1 : Heap) (locs1 : List Loc), Wd Γ lo S (X.set pl (a, .inr (ci, fs.set k v))) H1 → va_S (zA Γ) H0 H1 locs1 → W p l e R s m args below meth c H1 locs1 cells slots Q (F0 m (pc + 3) ls rest)) : W p l e R s m args below meth c H locs cells slots Q (F0 m pc ls (v :: .ref a :: rest)) := by
  obtain ⟨ws, hq, hP, hD, hback⟩ := wd_xset hW hX (.inr (ci, fs.set k v))
  exact va_put hexec hb hts hin ty0 hty hnm hown hK hP hD hS0 pl hq hc k hk hlink (fun x h => h) hfin hd hn hfit hl hdg (fun H1 locs1 hP1 hD1 hS1 => kk H1 locs1 (hback H1 hP1 hD1) hS1)
end ZK
theorem ni_Jxc12de_init : ∀ w ∈ wsJx4a65c0, w ∈ wsJxc12de_init_da8c8 := by decide +kernel
theorem ni_Jx4a65c_init : ∀ w ∈ wsJx4a65c0, w ∈ wsJx4a65c_init_da8c8 := by decide +kernel
abbrev rmJi0 : Room := { frames := 1, cells := 0, slots := 0, locals := 20 }
abbrev rmJi1 : Room := { frames := 2, cells := 0, slots := 0, locals := 40 }
abbrev rmJi2 : Room := { frames := 3, cells := 0, slots := 0, locals := 60 }
set_option maxHeartbeats 4000000 in
set_option maxRecDepth 100000 in
theorem tJ_ac (l : Launch) (Γ : zG) (lo : zId → Nat) (S : zSt) (X : va_W) (q : Nat) : Met l yJxa1e45_init_da8c8 wsJxa1e45_init_da8c8 rmJi0 (zP0 Γ lo S X [.ref q]) (zQ0 Γ lo S S X none True) 0 0 (zA Γ) := by
  refine Met.ofW (cc := cJxa1e45_init_da8c8) (maxL := 1) (ret := none) (by decide) rfl ?_
  intro p e s m args below meth c s₁ B hml hv
  obtain ⟨rfl, hW, hKK⟩ := hv
  have hx := B.exec
  have hb := B.bytes
  have hr := B.returns
  have hts := atoms_spec (ws := wsJxa1e45_init_da8c8) B.pre
  have hown : s.vm.findClass RJxa1e45 = some m.cls := findClass_of_methodNamed B.named
  have hlocks := B.notSynchronized
  have hS : va_S (zA Γ) s.heap s.heap [] := va_S.rf
  have hB0 : Γ.2.2.1 ≤ s.heap.size := hW.1
  have hm : ∀ c, zV S c = zV S c := fun _ => rfl
  have hl := lv_entry ([.ref q]) (n := 1) (Nat.le_of_ble_eq_true rfl)
  rw [lg_entry_eq]
  generalize (lg_sl ([.ref q]) ++ List.replicate (1 - (lg_sl ([.ref q])).length) Slot.unset).toArray = ls at hl ⊢
  have hl : lv_has ls 1 [(0, .ref q)] := hl
  generalize ([.ref q] : List Value).toArray = args at hts ⊢
  obtain ⟨H, hH0⟩ : ∃ H, H = s.heap := ⟨_, rfl⟩
  obtain ⟨locs, hlo0⟩ : ∃ L : List Loc, L = [] := ⟨_, rfl⟩
  have hS : va_S (zA Γ) s.heap H locs := by rw [hH0, hlo0]; exact hS
  have hW : Wd Γ lo S (X) H := by rw [hH0]; exact hW
  rw [← hH0, ← hlo0]
  refine lv_aload_n hx hb dJxa1e45_init_da8c8_0 rfl (lv_at hl 0 rfl) ?_
  refine W.objInit hx hb hown (hts (.methodLink RJxa1e45 1 objectInit) (List.mem_of_getElem? (i := 1) rfl)) (hts (.instanceMethod objectInit) (List.mem_of_getElem? (i := 2) rfl)) (hts (.code objectInit ⟨#[0xb1]⟩ 1 none) (List.mem_of_getElem? (i := 3) rfl)) rfl (hl.1.trans hml.symm) rfl dJxa1e45_init_da8c8_1 (Nat.le_of_ble_eq_true rfl) (Nat.le_of_ble_eq_true rfl) ?_
  refine W.eq (g2 := F0 m 4 ls []) rfl ?_
  exact z_vret hx hb hr hlocks hW hS hm trivial dJxa1e45_init_da8c8_4
set_option maxHeartbeats 4000000 in
set_option maxRecDepth 100000 in
theorem tJ_al (l : Launch) (Γ : zG) (lo : zId → Nat) (S : zSt) (X : va_W) (q : Nat) : Met l yJxc12de_init_da8c8 wsJxc12de_init_da8c8 rmJi1 (zP0 Γ lo S ((q, .inr (0, [.int 0, .null, .int 0])) :: X) [.ref q]) (zQ0 Γ lo S S ((q, .inr (0, [.int 0, .null, .int 0])) :: X) none True) 0 0 (zA Γ) := by
  refine Met.ofW (cc := cJxc12de_init_da8c8) (maxL := 1) (ret := none) (by decide) rfl ?_
  intro p e s m args below meth c s₁ B hml hv
  obtain ⟨rfl, hW, hKK⟩ := hv
  have hx := B.exec
  have hb := B.bytes
  have hr := B.returns
  have hts := atoms_spec (ws := wsJxc12de_init_da8c8) B.pre
  have hown : s.vm.findClass RJxc12de = some m.cls := findClass_of_methodNamed B.named
  have hlocks := B.notSynchronized
  have hS : va_S (zA Γ) s.heap s.heap [] := va_S.rf
  have hB0 : Γ.2.2.1 ≤ s.heap.size := hW.1
  have hm : ∀ c, zV S c = zV S c := fun _ => rfl
  have hl := lv_entry ([.ref q]) (n := 1) (Nat.le_of_ble_eq_true rfl)
  rw [lg_entry_eq]
  generalize (lg_sl ([.ref q]) ++ List.replicate (1 - (lg_sl ([.ref q])).length) Slot.unset).toArray = ls at hl ⊢
  have hl : lv_has ls 1 [(0, .ref q)] := hl
  generalize ([.ref q] : List Value).toArray = args at hts ⊢
  obtain ⟨H, hH0⟩ : ∃ H, H = s.heap := ⟨_, rfl⟩
  obtain ⟨locs, hlo0⟩ : ∃ L : List Loc, L = [] := ⟨_, rfl⟩
  have hS : va_S (zA Γ) s.heap H locs := by rw [hH0, hlo0]; exact hS
  have hW : Wd Γ lo S ((q, .inr (0, [.int 0, .null, .int 0])) :: X) H := by rw [hH0]; exact hW
  rw [← hH0, ← hlo0]
  refine lv_aload_n hx hb dJxc12de_init_da8c8_0 rfl (lv_at hl 0 rfl) ?_
  refine z_callI (As := []) (rest := []) ⟨hx, hb, hml, hown, hts⟩ (tJ_ac l Γ lo S ((q, .inr (0, [.int 0, .null, .int 0])) :: X) q) (cwI 0 hts gJxc12de_init_da8c8_Jxa1e45_init_da8c8 rfl rfl rfl (hts (.initialized RJxa1e45) (List.mem_of_getElem? (i := 4) rfl)) (hts (.methodLink RJxc12de 1 yJxa1e45_init_da8c8) (List.mem_of_getElem? (i := 2) rfl)) (hts (.instanceMethod yJxa1e45_init_da8c8) (List.mem_of_getElem? (i := 3) rfl)) rfl (by decide +kernel) ⟨Nat.le_of_ble_eq_true rfl, Nat.le_of_ble_eq_true rfl⟩) hKK hW hS rfl hl.1 rfl (Nat.le_of_ble_eq_true rfl) dJxc12de_init_da8c8_1 ⟨Nat.le_of_ble_eq_true rfl, Nat.le_of_ble_eq_true rfl⟩ (fun H locs hW hS _ _ => ?_)
  refine lv_aload_n hx hb dJxc12de_init_da8c8_4 rfl (lv_at hl 0 rfl) ?_
  refine lv_iconst (v := (0)) hx hb dJxc12de_init_da8c8_5 (by decide) ?_
  refine x_putD hx hb hts ni_Jxc12de_init tyJx4a65c tyJx4a65c_ok nmJx4a65c hown hKK.1 hW hS 0 rfl rfl 0 (by decide) (hts (.fieldLink RJxc12de 7 "java/util/AbstractList" "modCount" "I") (List.mem_of_getElem? (i := 1) rfl)) rfl rfl rfl rfl (show 0 < 3 by decide) dJxc12de_init_da8c8_6 (fun H locs hW hS => ?_)
  have hW : Wd Γ lo S ((q, .inr (0, [.int 0, .null, .int 0])) :: X) H := hW
  exact z_vret hx hb hr hlocks hW hS hm trivial dJxc12de_init_da8c8_9
def fJ_init (S : zSt) (g_a : Nat) : Option zSt := gd (zV S (0, g_a, 0) = false) (some (nw S (0, g_a, 0) (fun _ => 0) (fun _ => 0) (fun _ => none) (fun _ => 0)))
set_option maxHeartbeats 4000000 in
set_option maxRecDepth 100000 in
theorem tJ_init (l : Launch) (Γ : zG) (lo : zId → Nat) (S : zSt) (X : va_W) (q : Nat) {g_a : Nat} {y : zSt} (hf : fJ_init S g_a = some y) : Met l yJx4a65c_init_da8c8 wsJx4a65c_init_da8c8 rmJi2 (zP2 Γ lo S ((q, .inr (0, [.int 0, .null, .int 0])) :: X) [.ref q]) (zQn Γ lo S y X (fun _ => none) (fun lo1 => lo1 (0, g_a, 0) = q ∧ zV y (0, g_a, 0) = true)) 0 0 (zA Γ) := by
  obtain ⟨h3, hf⟩ := op_gd hf
  have hf := Option.some.inj hf
  rw [← hf]
  refine Met.ofW (cc := cJx4a65c_init_da8c8) (maxL := 1) (ret := none) (by decide) rfl ?_
  intro p e s m args below meth c s₁ B hml hv
  obtain ⟨rfl, hW, hKK, hKY⟩ := hv
  have hx := B.exec
  have hb := B.bytes
  have hr := B.returns
  have hts := atoms_spec (ws := wsJx4a65c_init_da8c8) B.pre
  have hown : s.vm.findClass RJx4a65c = some m.cls := findClass_of_methodNamed B.named
  have hlocks := B.notSynchronized
  have hS : va_S (zA Γ) s.heap s.heap [] := va_S.rf
  have hB0 : Γ.2.2.1 ≤ s.heap.size := hW.1
  have hm : ∀ c, zV S c = zV S c := fun _ => rfl
  have hl := lv_entry ([.ref q]) (n := 1) (Nat.le_of_ble_eq_true rfl)
  rw [lg_entry_eq]
  generalize (lg_sl ([.ref q]) ++ List.replicate (1 - (lg_sl ([.ref q])).length) Slot.unset).toArray = ls at hl ⊢
  have hl : lv_has ls 1 [(0, .ref q)] := hl
  generalize ([.ref q] : List Value).toArray = args at hts ⊢
  obtain ⟨H, hH0⟩ : ∃ H, H = s.heap := ⟨_, rfl⟩
  obtain ⟨locs, hlo0⟩ : ∃ L : List Loc, L = [] := ⟨_, rfl⟩
  have hS : va_S (zA Γ) s.heap H locs := by rw [hH0, hlo0]; exact hS
  have hW : Wd Γ lo S ((q, .inr (0, [.int 0, .null, .int 0])) :: X) H := by rw [hH0]; exact hW
  rw [← hH0, ← hlo0]
  refine lv_aload_n hx hb dJx4a65c_init_da8c8_0 rfl (lv_at hl 0 rfl) ?_
  refine z_callI (As := []) (rest := []) ⟨hx, hb, hml, hown, hts⟩ (tJ_al l Γ lo S X q) (cwI 0 hts gJx4a65c_init_da8c8_Jxc12de_init_da8c8 rfl rfl rfl (hts (.initialized RJxc12de) (List.mem_of_getElem? (i := 5) rfl)) (hts (.methodLink RJx4a65c 1 yJxc12de_init_da8c8) (List.mem_of_getElem? (i := 3) rfl)) (hts (.instanceMethod yJxc12de_init_da8c8) (List.mem_of_getElem? (i := 4) rfl)) rfl (by decide +kernel) ⟨Nat.le_of_ble_eq_true rfl, Nat.le_of_ble_eq_true rfl⟩) hKK hW hS rfl hl.1 rfl (Nat.le_of_ble_eq_true rfl) dJx4a65c_init_da8c8_1 ⟨Nat.le_of_ble_eq_true rfl, Nat.le_of_ble_eq_true rfl⟩ (fun H locs hW hS _ _ => ?_)
  refine lv_aload_n hx hb dJx4a65c_init_da8c8_4 rfl (lv_at hl 0 rfl) ?_
  refine va_gets hx hb hKK.2.1 hS hown (hts (.fieldLink RJx4a65c 39 "java/util/ArrayList" "DEFAULTCAPACITY_EMPTY_ELEMENTDATA" "[Ljava/lang/Object;") (List.mem_of_getElem? (i := 1) rfl)) (fun _ h => h) dJx4a65c_init_da8c8_5 ?_
  refine x_put hx hb hts ni_Jx4a65c_init tyJx4a65c tyJx4a65c_ok nmJx4a65c hown hKK.1 hW hS 0 rfl rfl 1 (by decide) (hts (.fieldLink RJx4a65c 9 "java/util/ArrayList" "elementData" "[Ljava/lang/Object;") (List.mem_of_getElem? (i := 2) rfl)) rfl rfl rfl rfl rfl (show 1 < 3 by decide) dJx4a65c_init_da8c8_8 (fun H locs hW hS => ?_)
  have hW : Wd Γ lo S ((q, .inr (0, [.int 0, .ref Γ.2.2.2, .int 0])) :: X) H := hW
  have hne : ∀ d, zV S d = true → d ≠ (0, g_a, 0) := fun d hd e => by rw [e, h3] at hd; cases hd
  have hW := wd_name hW (0, g_a, 0) h3 (fun _ => 0) (fun _ => 0) (fun _ => none) (fun _ => 0) rfl (fun d hd => absurd (by rw [zN_nw, if_pos rfl]) hd.1)
  exact n_vret hx hb hr hlocks (Nat.le_refl _) (Nat.le_refl _) rfl hW hS (fun d hd => lu_n lo q (hne d hd)) (zV_nwm S (0, g_a, 0) _ _ _ _) ⟨lu_s lo _ _, zV_nws _ _ _ _ _ _⟩ dJx4a65c_init_da8c8_11

