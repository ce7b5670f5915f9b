/-! ArrayList: size, get, as methods over the named heap -/
section ZJ
variable {p : Program} {l : Launch} {e : Env} {R : Room} {s : State} {m : MethodId} {args : Array Value} {below : List Frame} {meth : Method} {c : Code} {H : Heap} {locs : List Loc} {cells slots : Nat} {Q : State → Prop}
variable {cc : ByteArray} {pc : Nat} {ls : Array Slot} {rest : List Value} {Γ : zG} {lo : zId → Nat} {S : zSt} {X : va_W} {H0 : Heap}
theorem z_aldr (hexec : p.tables.exec = Jvm.exec) (hb : c.code = cc) (hK : va_K Γ.1 vwCl (zTy Γ) s) (hW : Wd Γ lo S X H) {a g : Nat} (hv : zV S (23, a, g) = true) {i : Int32} (hin : vp_in i (zN S (23, a, g) 0)) (hc : i.toNatClampNeg < zN S (23, a, g) 1) (hdg : decode cc pc = .ok (.aaload, 1))
    (kk : W p l e R s m args below meth c H locs cells slots Q (F0 m (pc + 1) ls (.ref (lo (zEl a i.toNatClampNeg)) :: rest))) : W p l e R s m args below meth c H locs cells slots Q (F0 m pc ls (.int i :: .ref (lo (23, a, g)) :: rest)) := by
  refine va_aldq hexec hb hK (wd_1 hW hv) 0 4 (C := "java/lang/Object") rfl rfl hin hdg ?_
  show W p l e R s m args below meth c H locs cells slots Q (F0 m (pc + 1) ls (va_rf (zRf lo (zN S (23, a, g)) a i.toNatClampNeg) :: rest))
  rw [show zRf lo (zN S (23, a, g)) a i.toNatClampNeg = some (lo (zEl a i.toNatClampNeg)) from if_pos hc]
  exact kk
theorem wd_mem (hW : Wd Γ lo S X H) : ∃ ws : va_W, va_P Γ.1 vwCl (X ++ ws) H ∧ va_D (zA Γ) (X ++ ws) ∧ ∀ c : zId, zV S c = true → ∃ k, (X ++ ws)[X.length + k]? = some (lo c, ct Γ lo S c) := by
  obtain ⟨-, -, -, ws, hP, hD, hn⟩ := hW
  refine ⟨ws, hP, hD, fun c hc => ?_⟩
  obtain ⟨k, hk⟩ := List.mem_iff_getElem?.mp (hn c hc)
  exact ⟨k, by rw [List.getElem?_append_right (by omega), Nat.add_sub_cancel_left]; exact hk⟩
theorem zQ_up (lo : zId → Nat) (Q : Nat → Option Nat) (k : Nat) (o : Option Nat) : va_up (fun j => (Q j).map (fun n => lo (4, n, 0))) k (o.map (fun n => lo (4, n, 0))) = fun j => (va_up Q k o j).map (fun n => lo (4, n, 0)) := by
  funext j
  unfold va_up
  by_cases h : j = k
  · rw [if_pos h, if_pos h]
  · rw [if_neg h, if_neg h]
theorem cl_pQ (hC : zCl S) {a b k : Nat} {o : Option Nat} (ho : ∀ n, o = some n → zV S (4, n, 0) = true) : zCl (pQ S (13, a, b) k o) := by
  intro c d hc ht
  rw [zV_pQ] at hc ⊢
  by_cases h : c = (13, a, b)
  · subst h
    obtain ⟨j, n, hq, rfl⟩ := ht
    rw [zQ_pQs] at hq
    unfold va_up at hq
    by_cases hjk : j = k
    · rw [if_pos hjk] at hq; exact ho n hq
    · rw [if_neg hjk] at hq; exact hC (13, a, b) _ hc ⟨j, n, hq, rfl⟩
  · refine hC c d hc ?_
    unfold zTg at ht ⊢
    rw [zQ_pQn S h, zN_pQ] at ht
    exact ht
theorem g_astq (hexec : p.tables.exec = Jvm.exec) (hb : c.code = cc) (hK : va_K Γ.1 vwCl (zTy Γ) s) (hW : Wd Γ lo S X H) (hS : va_S (zA Γ) H0 H locs) {a b n : Nat} (hv : zV S (13, a, b) = true) (hv2 : zV S (4, n, 0) = true) {i : Int32} (hin : vp_in i 4) (hdg : decode cc pc = .ok (.aastore, 1)) {S1 : zSt} (h1 : S1 = pQ S (13, a, b) i.toNatClampNeg (some n))
    (kk : ∀ (H1 : Heap) (locs1 : List Loc), Wd Γ lo S1 X H1 → va_S (zA Γ) H0 H1 locs1 → W p l e R s m args below meth c H1 locs1 cells slots Q (F0 m (pc + 1) ls rest)) : W p l e R s m args below meth c H locs cells slots Q (F0 m pc ls (.ref (lo (4, n, 0)) :: .int i :: .ref (lo (13, a, b)) :: rest)) := by
  obtain ⟨w2, hP2, hD2, hn2⟩ := wd_mem hW
  obtain ⟨b1, b2, b3, ws, hP, hD, hn⟩ := hW
  obtain ⟨k, hk⟩ := List.mem_iff_getElem?.mp (hn _ hv)
  obtain ⟨k2, hk2⟩ := List.mem_iff_getElem?.mp (hn _ hv2)
  have hl : k < ws.length := (List.getElem?_eq_some_iff.mp hk).1
  have ha : (X ++ ws)[X.length + k]? = some (lo (13, a, b), ct Γ lo S (13, a, b)) := by rw [List.getElem?_append_right (by omega), Nat.add_sub_cancel_left]; exact hk
  have ha2 : (X ++ ws)[X.length + k2]? = some (lo (4, n, 0), ct Γ lo S (4, n, 0)) := by rw [List.getElem?_append_right (by omega), Nat.add_sub_cancel_left]; exact hk2
  refine va_astq hexec hb hK hP hD hS (X.length + k) 3 (X.length + k2) 4 (r := (RX3, TX3, 5)) ha rfl ha2 rfl hin hdg (fun H1 locs1 hP1 hD1 hS1 => ?_)
  have e : (X ++ ws).set (X.length + k) (lo (13, a, b), ct Γ lo S1 (13, a, b)) = X ++ ws.set k (lo (13, a, b), ct Γ lo S1 (13, a, b)) := by
    rw [List.set_append_right _ _ (by omega), Nat.add_sub_cancel_left]
  have ec : (.inl (Γ.2.1 3, 4, .inr (.inr (.inr (.inr (va_up (fun j => (zQ S (13, a, b) j).map (fun n => lo (4, n, 0))) i.toNatClampNeg (some (lo (4, n, 0)))))))) : va_E) = ct Γ lo S1 (13, a, b) := by
    rw [h1, ct_pQs]
    exact congrArg (fun f => (.inl (Γ.2.1 3, 4, .inr (.inr (.inr (.inr f)))) : va_E)) (zQ_up lo (zQ S (13, a, b)) i.toNatClampNeg (some n))
  have hP1 : va_P Γ.1 vwCl ((X ++ ws).set (X.length + k) (lo (13, a, b), ct Γ lo S1 (13, a, b))) H1 := by rw [← ec]; exact hP1
  have hD1 : va_D (zA Γ) ((X ++ ws).set (X.length + k) (lo (13, a, b), ct Γ lo S1 (13, a, b))) := by rw [← ec]; exact hD1
  rw [e] at hP1 hD1
  have hV : ∀ d, zV S1 d = zV S d := fun d => by rw [h1]; rfl
  have hat : (X ++ ws.set k (lo (13, a, b), ct Γ lo S1 (13, a, b)))[X.length + k]? = some (lo (13, a, b), ct Γ lo S1 (13, a, b)) := by
    rw [List.getElem?_append_right (by omega), Nat.add_sub_cancel_left, List.getElem?_set_self hl]
  refine kk H1 locs1 ⟨Nat.le_of_lt (Nat.lt_of_le_of_lt (hD1.2 _ _ hat) (hP1 _ _ hat).lt), by rw [h1]; exact cl_pQ b2 (fun z hz => by cases hz; exact hv2), fun x y hx hy => b3 x y (by rw [← hV]; exact hx) (by rw [← hV]; exact hy), ws.set k (lo (13, a, b), ct Γ lo S1 (13, a, b)), hP1, hD1, fun d hd => ?_⟩ hS1
  rw [hV] at hd
  by_cases hdc : d = (13, a, b)
  · subst hdc
    exact List.mem_of_getElem? (i := k) (by rw [List.getElem?_set_self hl])
  · rw [show ct Γ lo S1 d = ct Γ lo S d by rw [h1]; exact ct_pQn Γ lo S hdc _ _]
    obtain ⟨j, hj⟩ := List.mem_iff_getElem?.mp (hn d hd)
    have hjk : k ≠ j := by
      intro e2
      subst e2
      rw [hk] at hj
      exact hdc (b3 d (13, a, b) hd hv (congrArg Prod.fst (Option.some.inj hj)).symm)
    exact List.mem_of_getElem? (i := j) (by rw [List.getElem?_set_ne hjk]; exact hj)
theorem g_astN (hexec : p.tables.exec = Jvm.exec) (hb : c.code = cc) (hK : va_K Γ.1 vwCl (zTy Γ) s) (hW : Wd Γ lo S X H) (hS : va_S (zA Γ) H0 H locs) {a b : Nat} (hv : zV S (13, a, b) = true) {i : Int32} (hin : vp_in i 4) (hdg : decode cc pc = .ok (.aastore, 1)) {S1 : zSt} (h1 : S1 = pQ S (13, a, b) i.toNatClampNeg none)
    (kk : ∀ (H1 : Heap) (locs1 : List Loc), Wd Γ lo S1 X H1 → va_S (zA Γ) H0 H1 locs1 → W p l e R s m args below meth c H1 locs1 cells slots Q (F0 m (pc + 1) ls rest)) : W p l e R s m args below meth c H locs cells slots Q (F0 m pc ls (.null :: .int i :: .ref (lo (13, a, b)) :: rest)) := by
  obtain ⟨ws, q0, hq, hP, hD, hback⟩ := wd_set (S1 := S1) hW hv (fun d => by rw [h1]; rfl) (by rw [h1]; exact cl_pQ hW.2.1 (fun _ h => nomatch h)) (fun d hd => by rw [h1]; exact ct_pQn Γ lo S hd _ _)
  refine va_astqN hexec hb hK hP hD hS q0 3 (C := "TiltRoute$Mode") hq rfl hin hdg (fun H1 locs1 hP1 hD1 hS1 => ?_)
  have ec : (.inl (Γ.2.1 3, 4, .inr (.inr (.inr (.inr (va_up (fun j => (zQ S (13, a, b) j).map (fun n => lo (4, n, 0))) i.toNatClampNeg none))))) : va_E) = ct Γ lo S1 (13, a, b) := by
    rw [h1, ct_pQs]
    exact congrArg (fun f => (.inl (Γ.2.1 3, 4, .inr (.inr (.inr (.inr f)))) : va_E)) (zQ_up lo (zQ S (13, a, b)) i.toNatClampNeg none)
  exact kk H1 locs1 (hback H1 (by rw [← ec]; exact hP1) (by rw [← ec]; exact hD1)) hS1
end ZJ
theorem ni_Jx4a65c_size_8abf5 : ∀ w ∈ wsJx4a65c0, w ∈ wsJx4a65c_size_8abf5 := by decide +kernel
theorem ni_Jx4a65c_el : ∀ w ∈ wsJx4a65c0, w ∈ wsJx4a65c_elementData_915e3 := by decide +kernel
theorem ni_Jx4a65c_get : ∀ w ∈ wsJx4a65c0, w ∈ wsJx4a65c_get_915e3 := by decide +kernel
def fJ_size (S : zSt) (a : Nat) : Option Int32 := some (zI S (0, a, 0) 2)
def fJ_get (S : zSt) (a : Nat) (i : Int32) : Option Nat := gd (zN S (0, a, 0) 0 ≠ 0 ∧ ¬ i < 0 ∧ i < zI S (0, a, 0) 2 ∧ i.toNatClampNeg < zN S (23, a, zN S (0, a, 0) 0) 1 ∧ i.toNatClampNeg < zN S (23, a, zN S (0, a, 0) 0) 0) (some i.toNatClampNeg)
abbrev rmJ0 : Room := { frames := 0, cells := 0, slots := 0, locals := 0 }
abbrev rmJ1 : Room := { frames := 1, cells := 0, slots := 0, locals := 22 }
abbrev rmJ2 : Room := { frames := 2, cells := 0, slots := 0, locals := 43 }
set_option maxHeartbeats 4000000 in
set_option maxRecDepth 100000 in
theorem tJ_size (l : Launch) (Γ : zG) (lo : zId → Nat) (S : zSt) (X : va_W) {a : Nat} (v_z : zV S (0, a, 0) = true) {y : Int32} (hf : fJ_size S a = some y) : Met l yJx4a65c_size_8abf5 wsJx4a65c_size_8abf5 rmJ0 (zP0 Γ lo S X [.ref (lo (0, a, 0))]) (zQ0 Γ lo S S X (some (.int y)) True) 0 0 (zA Γ) := by
  refine Met.ofW (cc := cJx4a65c_size_8abf5) (maxL := 1) (ret := (some .int)) (by decide) rfl ?_
  intro p e s m args below meth c s₁ B hml hv
  obtain ⟨rfl, hW, hKK⟩ := hv
  have hx := B.exec
  have hb := B.bytes
  have hr := B.returns
  have hts := atoms_spec (ws := wsJx4a65c_size_8abf5) B.pre
  have hown : s.vm.findClass RJx4a65c = some m.cls := findClass_of_methodNamed B.named
  have hlocks := B.notSynchronized
  have hS : va_S (zA Γ) s.heap s.heap [] := va_S.rf
  have hm : ∀ c, zV S c = zV S c := fun _ => rfl
  have hl := lv_entry ([.ref (lo (0, a, 0))]) (n := 1) (Nat.le_of_ble_eq_true rfl)
  rw [lg_entry_eq]
  generalize (lg_sl ([.ref (lo (0, a, 0))]) ++ List.replicate (1 - (lg_sl ([.ref (lo (0, a, 0))])).length) Slot.unset).toArray = ls at hl ⊢
  have hl : lv_has ls 1 [(0, .ref (lo (0, a, 0)))] := hl
  obtain ⟨H, hH0⟩ : ∃ H, H = s.heap := ⟨_, rfl⟩
  obtain ⟨locs, hlo0⟩ : ∃ L : List Loc, L = [] := ⟨_, rfl⟩
  have hS : va_S (zA Γ) s.heap H locs := by rw [hH0, hlo0]; exact hS
  have hW : Wd Γ lo S X H := by rw [hH0]; exact hW
  rw [← hH0, ← hlo0]
  unfold fJ_size at hf
  refine lv_aload_n hx hb dJx4a65c_size_8abf5_0 rfl (lv_at hl 0 rfl) ?_
  refine va_get hx hb hts ni_Jx4a65c_size_8abf5 hown hKK.1 (wd_1 hW v_z) 0 rfl rfl 2 (by decide) (hts (.fieldLink RJx4a65c 48 "java/util/ArrayList" "size" "I") (List.mem_of_getElem? (i := 1) rfl)) (fun _ h => h) rfl dJx4a65c_size_8abf5_1 ?_
  have hf := Option.some.inj hf
  rw [← hf]
  exact z_iret hx hb hr hlocks rfl hW hS hm trivial dJx4a65c_size_8abf5_4
set_option maxHeartbeats 4000000 in
set_option maxRecDepth 100000 in
theorem tJ_chk3 (l : Launch) (Γ : zG) (lo : zId → Nat) (S : zSt) (X : va_W) {i n : Int32} (h0 : ¬ i < 0) (h1 : i < n) : Met l yJ3_checkIndex_8e157 wsJ3_checkIndex_8e157 rmJ0 (zP0 Γ lo S X [.int i, .int n, .null]) (zQ0 Γ lo S S X (some (.int i)) True) 0 0 (zA Γ) := by
  refine Met.ofW (cc := cJ3_checkIndex_8e157) (maxL := 3) (ret := (some .int)) (by decide) rfl ?_
  intro p e s m args below meth c s₁ B hml hv
  obtain ⟨rfl, hW, hKK⟩ := hv
  have hx := B.exec
  have hb := B.bytes
  have hr := B.returns
  have hts := atoms_spec (ws := wsJ3_checkIndex_8e157) B.pre
  have hown : s.vm.findClass RJ3 = some m.cls := findClass_of_methodNamed B.named
  have hlocks := B.notSynchronized
  have hS : va_S (zA Γ) s.heap s.heap [] := va_S.rf
  have hm : ∀ c, zV S c = zV S c := fun _ => rfl
  have hl := lv_entry ([.int i, .int n, .null]) (n := 3) (Nat.le_of_ble_eq_true rfl)
  rw [lg_entry_eq]
  generalize (lg_sl ([.int i, .int n, .null]) ++ List.replicate (3 - (lg_sl ([.int i, .int n, .null])).length) Slot.unset).toArray = ls at hl ⊢
  have hl : lv_has ls 3 [(0, .int i), (1, .int n), (2, .null)] := hl
  obtain ⟨H, hH0⟩ : ∃ H, H = s.heap := ⟨_, rfl⟩
  obtain ⟨locs, hlo0⟩ : ∃ L : List Loc, L = [] := ⟨_, rfl⟩
  have hS : va_S (zA Γ) s.heap H locs := by rw [hH0, hlo0]; exact hS
  have hW : Wd Γ lo S X H := by rw [hH0]; exact hW
  rw [← hH0, ← hlo0]
  refine lv_iload_n hx hb dJ3_checkIndex_8e157_0 rfl (lv_at hl 0 rfl) ?_
  refine lv_if_lt (tgt := 9) hx hb dJ3_checkIndex_8e157_1 (by decide) (fun k => absurd k h0) (fun _ => ?_)
  refine lv_iload_n hx hb dJ3_checkIndex_8e157_4 rfl (lv_at hl 0 rfl) ?_
  refine lv_iload_n hx hb dJ3_checkIndex_8e157_5 rfl (lv_at hl 1 rfl) ?_
  refine lv_icmp_lt (tgt := 16) hx hb dJ3_checkIndex_8e157_6 (by decide) (fun _ => ?_) (fun k => absurd h1 k)
  refine lv_iload_n hx hb dJ3_checkIndex_8e157_16 rfl (lv_at hl 0 rfl) ?_
  exact z_iret hx hb hr hlocks rfl hW hS hm trivial dJ3_checkIndex_8e157_17
set_option maxHeartbeats 4000000 in
set_option maxRecDepth 100000 in
theorem tJ_chk (l : Launch) (Γ : zG) (lo : zId → Nat) (S : zSt) (X : va_W) {i n : Int32} (h0 : ¬ i < 0) (h1 : i < n) : Met l yJ15_checkIndex_7cf53 wsJ15_checkIndex_7cf53 rmJ1 (zP0 Γ lo S X [.int i, .int n]) (zQ0 Γ lo S S X (some (.int i)) True) 0 0 (zA Γ) := by
  refine Met.ofW (cc := cJ15_checkIndex_7cf53) (maxL := 2) (ret := (some .int)) (by decide) rfl ?_
  intro p e s m args below meth c s₁ B hml hv
  obtain ⟨rfl, hW, hKK⟩ := hv
  have hx := B.exec
  have hb := B.bytes
  have hr := B.returns
  have hts := atoms_spec (ws := wsJ15_checkIndex_7cf53) B.pre
  have hown : s.vm.findClass RJ15 = some m.cls := findClass_of_methodNamed B.named
  have hlocks := B.notSynchronized
  have hS : va_S (zA Γ) s.heap s.heap [] := va_S.rf
  have hm : ∀ c, zV S c = zV S c := fun _ => rfl
  have hl := lv_entry ([.int i, .int n]) (n := 2) (Nat.le_of_ble_eq_true rfl)
  rw [lg_entry_eq]
  generalize (lg_sl ([.int i, .int n]) ++ List.replicate (2 - (lg_sl ([.int i, .int n])).length) Slot.unset).toArray = ls at hl ⊢
  have hl : lv_has ls 2 [(0, .int i), (1, .int n)] := hl
  obtain ⟨H, hH0⟩ : ∃ H, H = s.heap := ⟨_, rfl⟩
  obtain ⟨locs, hlo0⟩ : ∃ L : List Loc, L = [] := ⟨_, rfl⟩
  have hS : va_S (zA Γ) s.heap H locs := by rw [hH0, hlo0]; exact hS
  have hW : Wd Γ lo S X H := by rw [hH0]; exact hW
  rw [← hH0, ← hlo0]
  refine lv_iload_n hx hb dJ15_checkIndex_7cf53_0 rfl (lv_at hl 0 rfl) ?_
  refine lv_iload_n hx hb dJ15_checkIndex_7cf53_1 rfl (lv_at hl 1 rfl) ?_
  refine lv_null hx hb dJ15_checkIndex_7cf53_2 ?_
  refine z_callS (As := [.int i, .int n, .null]) (rest := []) ⟨hx, hb, hml, hown, hts⟩ (tJ_chk3 l Γ lo S X h0 h1) (va_cwS 3 hts gJ15_checkIndex_7cf53_J3_checkIndex_8e157 rfl rfl rfl (by decide +kernel) ⟨Nat.le_of_ble_eq_true rfl, Nat.le_of_ble_eq_true rfl⟩) hKK hW hS rfl hl.1 rfl (Nat.le_of_ble_eq_true rfl) dJ15_checkIndex_7cf53_3 ⟨Nat.zero_le _, Nat.zero_le _⟩ (fun H locs hW hS hm1 hE => ?_)
  exact z_iret hx hb hr hlocks rfl hW hS hm trivial dJ15_checkIndex_7cf53_6
set_option maxHeartbeats 4000000 in
set_option maxRecDepth 100000 in
theorem tJ_el (l : Launch) (Γ : zG) (lo : zId → Nat) (S : zSt) (X : va_W) {a : Nat} {i : Int32} (v_z : zV S (0, a, 0) = true) (hg : zN S (0, a, 0) 0 ≠ 0) (h0 : ¬ i < 0) (hc : i.toNatClampNeg < zN S (23, a, zN S (0, a, 0) 0) 1) (hd : i.toNatClampNeg < zN S (23, a, zN S (0, a, 0) 0) 0) : Met l yJx4a65c_elementData_915e3 wsJx4a65c_elementData_915e3 rmJ0 (zP0 Γ lo S X [.ref (lo (0, a, 0)), .int i]) (zQ0 Γ lo S S X (some (.ref (lo (zEl a i.toNatClampNeg)))) (zV S (zEl a i.toNatClampNeg) = true)) 0 0 (zA Γ) := by
  refine Met.ofW (cc := cJx4a65c_elementData_915e3) (maxL := 2) (ret := (some (.object "java/lang/Object"))) (by decide) rfl ?_
  intro p e s m args below meth c s₁ B hml hv
  obtain ⟨rfl, hW, hKK⟩ := hv
  have hx := B.exec
  have hb := B.bytes
  have hr := B.returns
  have hts := atoms_spec (ws := wsJx4a65c_elementData_915e3) B.pre
  have hown : s.vm.findClass RJx4a65c = some m.cls := findClass_of_methodNamed B.named
  have hlocks := B.notSynchronized
  have hS : va_S (zA Γ) s.heap s.heap [] := va_S.rf
  have hm : ∀ c, zV S c = zV S c := fun _ => rfl
  have hl := lv_entry ([.ref (lo (0, a, 0)), .int i]) (n := 2) (Nat.le_of_ble_eq_true rfl)
  rw [lg_entry_eq]
  generalize (lg_sl ([.ref (lo (0, a, 0)), .int i]) ++ List.replicate (2 - (lg_sl ([.ref (lo (0, a, 0)), .int i])).length) Slot.unset).toArray = ls at hl ⊢
  have hl : lv_has ls 2 [(0, .ref (lo (0, a, 0))), (1, .int i)] := hl
  obtain ⟨H, hH0⟩ : ∃ H, H = s.heap := ⟨_, rfl⟩
  obtain ⟨locs, hlo0⟩ : ∃ L : List Loc, L = [] := ⟨_, rfl⟩
  have hS : va_S (zA Γ) s.heap H locs := by rw [hH0, hlo0]; exact hS
  have hW : Wd Γ lo S X H := by rw [hH0]; exact hW
  rw [← hH0, ← hlo0]
  have v1 : zV S (23, a, zN S (0, a, 0) 0) = true := hW.2.1 _ _ v_z ⟨hg, rfl⟩
  have v2 : zV S (zEl a i.toNatClampNeg) = true := hW.2.1 _ _ v1 ⟨_, hc, rfl⟩
  refine lv_aload_n hx hb dJx4a65c_elementData_915e3_0 rfl (lv_at hl 0 rfl) ?_
  refine va_get hx hb hts ni_Jx4a65c_el hown hKK.1 (wd_1 hW v_z) 0 rfl rfl 1 (by decide) (hts (.fieldLink RJx4a65c 9 "java/util/ArrayList" "elementData" "[Ljava/lang/Object;") (List.mem_of_getElem? (i := 1) rfl)) (fun _ h => h) (v := .ref (lo (23, a, zN S (0, a, 0) 0))) (by show some (zE Γ lo a (zN S (0, a, 0) 0)) = _; rw [zE, if_neg hg]) dJx4a65c_elementData_915e3_1 ?_
  refine lv_iload_n hx hb dJx4a65c_elementData_915e3_4 rfl (lv_at hl 1 rfl) ?_
  refine z_aldr hx hb hKK.1 hW v1 (fun q => q.elim h0 (fun q => absurd hd (Nat.not_lt.mpr q))) hc dJx4a65c_elementData_915e3_5 ?_
  exact z_aret2 hx hb hr hlocks hW hS hm v2 dJx4a65c_elementData_915e3_6
set_option maxHeartbeats 4000000 in
set_option maxRecDepth 100000 in
theorem tJ_get (l : Launch) (Γ : zG) (lo : zId → Nat) (S : zSt) (X : va_W) {a : Nat} {i : Int32} (v_z : zV S (0, a, 0) = true) {y : Nat} (hf : fJ_get S a i = some y) : Met l yJx4a65c_get_915e3 wsJx4a65c_get_915e3 rmJ2 (zP0 Γ lo S X [.ref (lo (0, a, 0)), .int i]) (zQ0 Γ lo S S X (some (.ref (lo (zEl a y)))) (zV S (zEl a y) = true)) 0 0 (zA Γ) := by
  obtain ⟨⟨hg, h0, h1, hc, hd⟩, hf⟩ := op_gd hf
  have hf := Option.some.inj hf
  rw [← hf]
  refine Met.ofW (cc := cJx4a65c_get_915e3) (maxL := 2) (ret := (some (.object "java/lang/Object"))) (by decide) rfl ?_
  intro p e s m args below meth c s₁ B hml hv
  obtain ⟨rfl, hW, hKK⟩ := hv
  have hx := B.exec
  have hb := B.bytes
  have hr := B.returns
  have hts := atoms_spec (ws := wsJx4a65c_get_915e3) B.pre
  have hown : s.vm.findClass RJx4a65c = some m.cls := findClass_of_methodNamed B.named
  have hlocks := B.notSynchronized
  have hS : va_S (zA Γ) s.heap s.heap [] := va_S.rf
  have hm : ∀ c, zV S c = zV S c := fun _ => rfl
  have hl := lv_entry ([.ref (lo (0, a, 0)), .int i]) (n := 2) (Nat.le_of_ble_eq_true rfl)
  rw [lg_entry_eq]
  generalize (lg_sl ([.ref (lo (0, a, 0)), .int i]) ++ List.replicate (2 - (lg_sl ([.ref (lo (0, a, 0)), .int i])).length) Slot.unset).toArray = ls at hl ⊢
  have hl : lv_has ls 2 [(0, .ref (lo (0, a, 0))), (1, .int i)] := hl
  obtain ⟨H, hH0⟩ : ∃ H, H = s.heap := ⟨_, rfl⟩
  obtain ⟨locs, hlo0⟩ : ∃ L : List Loc, L = [] := ⟨_, rfl⟩
  have hS : va_S (zA Γ) s.heap H locs := by rw [hH0, hlo0]; exact hS
  have hW : Wd Γ lo S X H := by rw [hH0]; exact hW
  rw [← hH0, ← hlo0]
  refine lv_iload_n hx hb dJx4a65c_get_915e3_0 rfl (lv_at hl 1 rfl) ?_
  refine lv_aload_n hx hb dJx4a65c_get_915e3_1 rfl (lv_at hl 0 rfl) ?_
  refine va_get hx hb hts ni_Jx4a65c_get hown hKK.1 (wd_1 hW v_z) 0 rfl rfl 2 (by decide) (hts (.fieldLink RJx4a65c 48 "java/util/ArrayList" "size" "I") (List.mem_of_getElem? (i := 1) rfl)) (fun _ h => h) rfl dJx4a65c_get_915e3_2 ?_
  refine z_callS (As := [.int i, .int (zI S (0, a, 0) 2)]) (rest := []) ⟨hx, hb, hml, hown, hts⟩ (tJ_chk l Γ lo S X h0 h1) (va_cwS 2 hts gJx4a65c_get_915e3_J15_checkIndex_7cf53 rfl rfl rfl (by decide +kernel) ⟨Nat.le_of_ble_eq_true rfl, Nat.le_of_ble_eq_true rfl⟩) hKK hW hS rfl hl.1 rfl (Nat.le_of_ble_eq_true rfl) dJx4a65c_get_915e3_5 ⟨Nat.zero_le _, Nat.zero_le _⟩ (fun H locs hW hS hm1 hE => ?_)
  refine lv_pop hx hb dJx4a65c_get_915e3_8 rfl ?_
  refine lv_aload_n hx hb dJx4a65c_get_915e3_9 rfl (lv_at hl 0 rfl) ?_
  refine lv_iload_n hx hb dJx4a65c_get_915e3_10 rfl (lv_at hl 1 rfl) ?_
  refine z_callV (As := [.int i]) (rest := []) ⟨hx, hb, hml, hown, hts⟩ (tJ_el l Γ lo S X v_z hg h0 hc hd) (cwV 1 hts gJx4a65c_get_915e3_Jx4a65c_elementData_915e3 rfl rfl rfl (by decide +kernel) ⟨Nat.le_of_ble_eq_true rfl, Nat.le_of_ble_eq_true rfl⟩) (wd_1 hW v_z) rfl hKK hW hS rfl hl.1 rfl (Nat.le_of_ble_eq_true rfl) dJx4a65c_get_915e3_11 ⟨Nat.zero_le _, Nat.zero_le _⟩ (fun H locs hW hS hm1 hE => ?_)
  exact z_aret2 hx hb hr hlocks hW hS hm hE dJx4a65c_get_915e3_14

