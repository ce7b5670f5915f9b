/-! drawn, what the law stores, and the law's own body -/
def drw (L : Nat) (xs : Nat → Int32) (i : Int32) : Int32 := (if nI L ≤ i then ((15525919 : Int32) * (i + (3 : Int32))) + (14087 : Int32) else xs i.toNatClampNeg) &&& (2147483647 : Int32)
theorem and_n (x : Int32) : ∃ n, n < 2 ^ 31 ∧ x &&& (2147483647 : Int32) = nI n := by
  have h : ¬ (x &&& (2147483647 : Int32)) < 0 := by
    rw [Int32.lt_iff_toInt_lt]
    have h0 : (0 : Int32).toInt = 0 := by decide
    have h1 : (x &&& (2147483647 : Int32)).toBitVec.toNat = x.toBitVec.toNat &&& (2147483647 : Int32).toBitVec.toNat := by
      rw [Int32.toBitVec_and, BitVec.toNat_and]
    have h2 : (2147483647 : Int32).toBitVec.toNat = 2147483647 := by decide
    have h3 : x.toBitVec.toNat &&& 2147483647 ≤ 2147483647 := Nat.and_le_right
    rw [h2] at h1
    have h4 : (x &&& (2147483647 : Int32)).toInt = (x &&& (2147483647 : Int32)).toBitVec.toInt := rfl
    rw [h0, h4, BitVec.toInt_eq_toNat_of_lt (by omega)]
    omega
  obtain ⟨n, hn, e⟩ := nI_of h
  exact ⟨n, hn, e⟩
theorem drw_n (L : Nat) (xs : Nat → Int32) (i : Int32) : ∃ n, n < 2 ^ 31 ∧ drw L xs i = nI n := and_n _
def DP (Γ : zG) (P : Heap → Prop) (b L : Nat) (xs : Nat → Int32) (av : List Value) : Array Value → State → Prop := fun v U => v = av.toArray ∧ P U.heap ∧ va_X b L xs U U.heap ∧ b < U.heap.size ∧ ¬ zA Γ b
abbrev rmL_drawn : Room := { frames := 0, cells := 0, slots := 0, locals := 0 }
set_option maxHeartbeats 4000000 in
set_option maxRecDepth 100000 in
theorem cL_drawn_ok (l : Launch) (Γ : zG) (P : Heap → Prop) (b L : Nat) (xs : Nat → Int32) (i : Int32) (h0 : ¬ i < 0) : Met l yL_drawn wsL_drawn rmL_drawn (DP Γ P b L xs [.ref b, .int i]) (GQ Γ P (some (.int (drw L xs i)))) 0 0 (zA Γ) := by
  refine Met.ofW (cc := cL_drawn) (maxL := 2) (ret := (some .int)) (by decide) rfl ?_
  intro p e s m args below meth c s₁ B hml hv
  obtain ⟨rfl, hW, hX, hbl, hbA⟩ := hv
  have hx := B.exec
  have hb := B.bytes
  have hr := B.returns
  have hts := atoms_spec (ws := wsL_drawn) B.pre
  have hown : s.vm.findClass RL = some m.cls := findClass_of_methodNamed B.named
  have hlocks := B.notSynchronized
  have hS : va_S (zA Γ) s.heap s.heap [] := va_S.rf
  have hl := lv_entry ([.ref b, .int i]) (n := 2) (Nat.le_of_ble_eq_true rfl)
  rw [lg_entry_eq]
  generalize (lg_sl ([.ref b, .int i]) ++ List.replicate (2 - (lg_sl ([.ref b, .int i])).length) Slot.unset).toArray = ls at hl ⊢
  have hl : lv_has ls 2 [(0, .ref b), (1, .int i)] := hl
  generalize ([.ref b, .int i] : List Value).toArray = args at hts ⊢
  have j22 : ∀ y : Int32, drw L xs i = y &&& (2147483647 : Int32) → W p l e (headSpec wsL_drawn rmL_drawn).room s m args below meth c s.heap [] 0 0 (MQ below (GQ Γ P (some (.int (drw L xs i)))) args s 0 0 (zA Γ)) (F0 m 22 ls [.int y]) := by
    intro y hy
    refine lv_ldc hx hb hown (hts (.constant RL 116 (2147483647)) (List.mem_of_getElem? (i := 2) rfl)) dL_drawn_22 ?_
    refine lv_iand hx hb dL_drawn_24 ?_
    rw [← hy]
    exact g_iret hx hb hr hlocks (by omega) (by omega) rfl hW hS dL_drawn_25
  refine lv_iload_n hx hb dL_drawn_0 rfl (lv_at hl 1 rfl) ?_
  refine lv_aload_n hx hb dL_drawn_1 rfl (lv_at hl 0 rfl) ?_
  refine va_slen hx hb hX hbl hbA hS dL_drawn_2 ?_
  refine lv_icmp_ge (tgt := 12) hx hb dL_drawn_3 (by decide) (fun k3 => ?_) (fun k3 => ?_)
  · refine lv_ldc hx hb hown (hts (.constant RL 115 (15525919)) (List.mem_of_getElem? (i := 1) rfl)) dL_drawn_12 ?_
    refine lv_iload_n hx hb dL_drawn_14 rfl (lv_at hl 1 rfl) ?_
    refine lv_iconst (v := (3)) hx hb dL_drawn_15 (by decide) ?_
    refine lv_iadd hx hb dL_drawn_16 ?_
    refine lv_imul hx hb dL_drawn_17 ?_
    refine lv_sipush (v := (14087)) hx hb dL_drawn_18 (by decide) ?_
    refine lv_iadd hx hb dL_drawn_21 ?_
    refine j22 _ ?_
    unfold drw
    rw [if_pos (show nI L ≤ i from k3)]
  · have hin : vp_in i L := fun q => q.elim h0 (fun q => k3 (by
      obtain ⟨n, hn, rfl⟩ := nI_of h0
      rw [nI_clamp hn] at q
      exact nI_le q hn))
    refine lv_aload_n hx hb dL_drawn_6 rfl (lv_at hl 0 rfl) ?_
    refine lv_iload_n hx hb dL_drawn_7 rfl (lv_at hl 1 rfl) ?_
    refine va_sld hx hb hX hbl hbA hS hin dL_drawn_8 ?_
    refine lv_goto (tgt := 22) hx hb dL_drawn_9 (by decide) ?_
    refine j22 _ ?_
    unfold drw
    rw [if_neg (show ¬ nI L ≤ i from k3)]
section ZWK
variable {p : Program} {l : Launch} {e : Env} {R : Room} {s : State} {m : MethodId} {args : Array Value} {below : List Frame} {meth : Method} {c : Code} {cc : ByteArray} {H : Heap} {locs : List Loc} {cells slots : Nat} {Q : State → Prop}
variable {pc : Nat} {ls : Array Slot} {rest : List Value} {Γ : zG} {P : Heap → Prop} {a a1 q : Nat} {M N : zMs} {I : Nat → Int32} {X : va_W}
theorem g_drw {Ts ws : List Cond} {bytes : ByteArray} {nL maxL index n mc ms b L : Nat} {xs : Nat → Int32} {own : String} {y : MethodName} {ret : Option FieldType} {rm : Room} {As : List Value} {v : Option Value}
    (F : CallFix p m c cc nL s args Ts own) (hM : Met l y ws rm (DP Γ P b L xs As) (GQ Γ P v) mc ms (zA Γ)) (cw : CallB R s args own index y bytes maxL ret ws rm mc ms n ∧ (Cond.static y).before args s = true) (hX : va_X b L xs s s.heap) (hbl : b < s.heap.size) (hbA : ¬ zA Γ b) (hP : P H) (hS : va_S (zA Γ) s.heap H locs)
    (hn : As.length = n) (hsize : ls.size = nL) {st0 : List Value} (hst : st0 = As.reverse ++ rest) (hR : (rest.map fun v => v.category).sum ≤ 8) (hdg : decode cc pc = .ok (.invokestatic index, 3)) (hf : cells + mc ≤ R.cells ∧ slots + ms ≤ R.slots)
    (kk : ∀ (H1 : Heap) (locs1 : List Loc), P H1 → va_S (zA Γ) s.heap H1 locs1 → W p l e R s m args below meth c H1 locs1 (cells + mc) (slots + ms) Q (F0 m (pc + 3) ls (v.toList ++ rest))) : W p l e R s m args below meth c H locs cells slots Q (F0 m pc ls st0) :=
  g_go (va_runS F hM cw ⟨fun _ _ _ _ q => q, fun _ hU hW1 => ⟨rfl, by rw [hU]; exact hP, by rw [hU]; exact (hX.kept (hS.2.1 b hbl hbA)).moved hW1.alike, by rw [hU]; exact Nat.lt_of_lt_of_le hbl hS.1, hbA⟩⟩ rfl hn hsize hst (lv_room hR) hdg hf) hS kk
theorem g_nst (hexec : p.tables.exec = Jvm.exec) (hb : c.code = cc) (hKK : KK Γ s) (hW : W2 Γ a a1 M N (nC Γ q I :: X) H) (hS : va_S (zA Γ) s.heap H locs) {i x : Int32} (hin : vp_in i 14) (hdg : decode cc pc = .ok (.iastore, 1))
    (kk : ∀ (H1 : Heap) (locs1 : List Loc), W2 Γ a a1 M N (nC Γ q (upd I i.toNatClampNeg x) :: X) H1 → va_S (zA Γ) s.heap H1 locs1 → W p l e R s m args below meth c H1 locs1 cells slots Q (F0 m (pc + 1) ls rest)) : W p l e R s m args below meth c H locs cells slots Q (F0 m pc ls (.int x :: .int i :: .ref q :: rest)) := by
  obtain ⟨Z, ⟨lo, S, ha, hT, hW⟩, hO⟩ := hW
  obtain ⟨ws, h0, hP, hD, hback⟩ := wd_xset hW (k := 0) (a := q) (e0 := .inl (Γ.2.1 0, 14, .inl I)) rfl (.inl (Γ.2.1 0, 14, .inl (upd I i.toNatClampNeg x)))
  exact va_iast hexec hb hKK.1 hP hD hS 0 0 h0 rfl hin hdg (fun H1 locs1 hP1 hD1 hS1 => kk H1 locs1 ⟨Z, ⟨lo, S, ha, hT, hback H1 hP1 hD1⟩, hO⟩ hS1)
end ZWK
/-- what the numbers' array holds -/
def IA (M : zMs) (I : Nat → Int32) : Prop := (∀ t, t < 6 → I t = nI (nB M t)) ∧ I 6 = nI (nS M) ∧ ∀ t, t < nT M → I (8 + t) = M 2 t
theorem ia_s {M M1 : zMs} {I : Nat → Int32} (h : IA M I) (hS : Sm M M1) : IA M1 I := by
  obtain ⟨eT, eB, eS⟩ := Sm_n hS
  exact ⟨fun t ht => by rw [eB]; exact h.1 t ht, by rw [eS]; exact h.2.1, fun t ht => by rw [hS.2.1]; exact h.2.2 t (by rw [← eT]; exact ht)⟩
theorem upd_s (f : Nat → Int32) (i : Nat) (x : Int32) : upd f i x i = x := by unfold upd; exact if_pos rfl
theorem upd_n (f : Nat → Int32) {i j : Nat} (h : j ≠ i) (x : Int32) : upd f i x j = f j := by unfold upd; exact if_neg h
theorem upd_i (f : Nat → Int32) (i : Nat) : upd f i (f i) = f := by
  funext j
  by_cases e : j = i
  · rw [e, upd_s]
  · rw [upd_n f e]
/-- what the law writes behind an act -/
def nI1 (I : Nat → Int32) (K s : Nat) (d : Int32) : Nat → Int32 := if K = 0 ∧ ¬ d < 0 then upd I ((8 : Int32) + d).toNatClampNeg (nI s) else I
def nI2 (I : Nat → Int32) (K T : Nat) (d : Int32) : Nat → Int32 := if 0 < K ∧ K < 5 ∧ ¬ d < 0 then upd I T (I T + 1) else I
def nI3 (I : Nat → Int32) (K : Nat) (d : Int32) : Nat → Int32 := if 8 < K ∧ K < 12 ∧ ¬ d < 0 then upd I 6 (I 6 + 1) else I
theorem ia_act {M M1 : zMs} {I : Nat → Int32} {K T s : Nat} {d : Int32} (hW : WM M) (hW1 : WM M1) (h : IA M I) (hp : acP M M1 K T s d) (hT : T < 6) : IA M1 (nI3 (nI2 (nI1 I K s d) K T d) K d) := by
  have hT6 := nT6 hW
  obtain ⟨h1, h2, h3⟩ := h
  unfold acP at hp
  by_cases k0 : K = 0
  · rw [if_pos k0] at hp
    have e3 : ∀ I, nI3 I K d = I := fun I => if_neg (by omega)
    have e2 : ∀ I, nI2 I K T d = I := fun I => if_neg (by omega)
    rw [e3, e2]
    unfold nI1
    rcases hp with ⟨hd, rfl⟩ | ⟨h6, rfl, eT, e2', e8, e22⟩
    · rw [if_neg (fun q => q.2 hd)]
      exact ⟨h1, h2, h3⟩
    · have c8 : (8 : Int32) + nI (nT M) = nI (8 + nT M) := by rw [show (8 : Int32) = nI 8 by decide, nI_add]
      rw [if_pos ⟨k0, nI_pos (by omega)⟩, c8, nI_clamp (by omega)]
      refine ⟨fun t ht => ?_, ?_, fun t ht => ?_⟩
      · rw [upd_n _ (by omega)]
        unfold nB
        rw [e8]
        exact h1 t ht
      · rw [upd_n _ (by omega)]
        unfold nS
        rw [e22]
        exact h2
      · rw [e2']
        by_cases e : t = nT M
        · rw [e, upd_s]
          unfold up1
          rw [if_pos rfl]
        · rw [upd_n _ (by omega), h3 t (by omega)]
          unfold up1
          rw [if_neg e]
  · rw [if_neg k0] at hp
    have e1 : nI1 I K s d = I := if_neg (fun q => k0 q.1)
    rw [e1]
    by_cases k5 : K < 5
    · rw [if_pos k5] at hp
      have e3 : ∀ I, nI3 I K d = I := fun I => if_neg (by omega)
      rw [e3]
      unfold nI2
      rcases hp with ⟨hd, rfl⟩ | ⟨hTn, rfl, h8, a1, a2, a22, aB, aN⟩
      · rw [if_neg (fun q => q.2.2 hd)]
        exact ⟨h1, h2, h3⟩
      · rw [if_pos ⟨by omega, k5, nI_pos (by omega)⟩]
        have eT : nT M1 = nT M := by unfold nT; rw [a1]
        refine ⟨fun t ht => ?_, ?_, fun t ht => ?_⟩
        · by_cases e : t = T
          · rw [e, upd_s, aB, h1 T hT, nI_1]
          · rw [upd_n _ e, aN t e]; exact h1 t ht
        · rw [upd_n _ (by omega)]
          unfold nS
          rw [a22]
          exact h2
        · rw [upd_n _ (by omega), a2]
          exact h3 t (by omega)
    · rw [if_neg k5] at hp
      have e2 : ∀ I, nI2 I K T d = I := fun I => if_neg (by omega)
      rw [e2]
      unfold nI3
      by_cases k8 : 8 < K ∧ K < 12
      · rw [if_pos k8] at hp
        rcases hp with ⟨hd, rfl⟩ | ⟨rfl, h60, aS, a1, a2, a8⟩
        · rw [if_neg (fun q => q.2.2 hd)]
          exact ⟨h1, h2, h3⟩
        · rw [if_pos ⟨k8.1, k8.2, nI_pos (by omega)⟩]
          have eT : nT M1 = nT M := by unfold nT; rw [a1]
          refine ⟨fun t ht => ?_, ?_, fun t ht => ?_⟩
          · rw [upd_n _ (by omega)]
            unfold nB
            rw [a8]
            exact h1 t ht
          · rw [upd_s, h2, aS, nI_1]
          · rw [upd_n _ (by omega), a2]
            exact h3 t (by omega)
      · rw [if_neg k8] at hp
        rw [if_neg (fun q => k8 ⟨q.1, q.2.1⟩)]
        exact ia_s ⟨h1, h2, h3⟩ hp
theorem inv_0 : INV (fiA (fiA zM0 16 48) 17 24) := by
  obtain ⟨S9, e9, z9⟩ := first9
  have m (k i : Nat) (h1 : k ≠ 16) (h2 : k ≠ 17) : fiA (fiA zM0 16 48) 17 24 k i = 0 := by rw [fiA_o _ h2 24, fiA_o _ h1 48]; rfl
  have eG : nG (fiA (fiA zM0 16 48) 17 24) = 0 := by unfold nG; rw [m 24 0 (by decide) (by decide)]; rfl
  have eT : nT (fiA (fiA zM0 16 48) 17 24) = 0 := by unfold nT; rw [m 1 0 (by decide) (by decide)]; rfl
  exact ⟨⟨S9, first_tie z9⟩, fun g hg => by rw [eG] at hg; omega, fun g b k hg => by rw [eG] at hg; omega, fun t ht => by rw [eT] at ht; omega⟩
theorem ia_0 : IA (fiA (fiA zM0 16 48) 17 24) (fun _ => 0) := by
  have m (k i : Nat) (h1 : k ≠ 16) (h2 : k ≠ 17) : fiA (fiA zM0 16 48) 17 24 k i = 0 := by rw [fiA_o _ h2 24, fiA_o _ h1 48]; rfl
  have eT : nT (fiA (fiA zM0 16 48) 17 24) = 0 := by unfold nT; rw [m 1 0 (by decide) (by decide)]; rfl
  exact ⟨fun t ht => by unfold nB; rw [m 8 t (by decide) (by decide)]; rfl, by unfold nS; rw [m 22 0 (by decide) (by decide)]; rfl, fun t ht => by rw [eT] at ht; omega⟩
