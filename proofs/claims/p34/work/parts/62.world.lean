/-! THE LAW'S WORLDS: an object that is tied to rows M; the cells of the other object and of the law are raw -/
def TW (Γ : zG) (a : Nat) (M : zMs) (X : va_W) (H : Heap) : Prop := ∃ (lo : zId → Nat) (S : zSt), lo (10, 0, 0) = a ∧ Tie S M ∧ Wd Γ lo S X H
abbrev nC (Γ : zG) (q : Nat) (I : Nat → Int32) : Nat × va_E := (q, .inl (Γ.2.1 0, 14, .inl I))
def HO (Γ : zG) (b : Nat) (N : zMs) (Z : va_W) : Prop := ∃ (lo : zId → Nat) (S : zSt), lo (10, 0, 0) = b ∧ Tie S N ∧ zCl S ∧ (∀ c d : zId, zV S c = true → zV S d = true → lo c = lo d → c = d) ∧ ∀ c : zId, zV S c = true → (lo c, ct Γ lo S c) ∈ Z
def W2 (Γ : zG) (a b : Nat) (M N : zMs) (X : va_W) (H : Heap) : Prop := ∃ Z : va_W, TW Γ a M (X ++ Z) H ∧ HO Γ b N Z
def GP (Γ : zG) (P : Heap → Prop) (av : List Value) : Array Value → State → Prop := fun v U => v = av.toArray ∧ P U.heap ∧ KK Γ U ∧ KX U ∧ KY U ∧ KN U
def GQ (Γ : zG) (P : Heap → Prop) (v : Option Value) : Array Value → State → Outcome → State → Prop := fun _ st oc t => oc = .returned v ∧ P t.heap ∧ va_F (zA Γ) st t
theorem pd_perm {D : va_G} {A : Nat → Prop} {X X1 : va_W} {H : Heap} (hp : X.Perm X1) (hP : va_P D vwCl X H) (hD : va_D A X) : va_P D vwCl X1 H ∧ va_D A X1 := by
  have mem : ∀ (k : Nat) (q : Nat × va_E), X1[k]? = some q → ∃ j, X[j]? = some q := fun k q hk => List.mem_iff_getElem?.mp (hp.mem_iff.mpr (List.mem_of_getElem? hk))
  have nd : (X.map Prod.fst).Nodup := by
    rw [List.nodup_iff_pairwise_ne, List.pairwise_iff_getElem]
    intro i j hi hj hij e
    simp only [List.getElem_map, List.length_map] at hi hj e
    have := hD.1 i j _ _ (List.getElem?_eq_getElem hi) (List.getElem?_eq_getElem hj) e
    omega
  have nd1 : (X1.map Prod.fst).Nodup := (hp.map Prod.fst).nodup_iff.mp nd
  refine ⟨fun k q hk => ?_, ⟨fun i j a b hi hj e => ?_, fun k q hk => ?_⟩⟩
  · obtain ⟨j, hj⟩ := mem k q hk
    exact hP j q hj
  · rw [List.nodup_iff_pairwise_ne, List.pairwise_iff_getElem] at nd1
    obtain ⟨li, ei⟩ := List.getElem?_eq_some_iff.mp hi
    obtain ⟨lj, ej⟩ := List.getElem?_eq_some_iff.mp hj
    rcases Nat.lt_trichotomy i j with h | h | h
    · have z := nd1 i j (by simpa using li) (by simpa using lj) h
      rw [List.getElem_map, List.getElem_map, ei, ej] at z
      exact absurd e z
    · exact h
    · have z := nd1 j i (by simpa using lj) (by simpa using li) h
      rw [List.getElem_map, List.getElem_map, ei, ej] at z
      exact absurd e.symm z
  · obtain ⟨j, hj⟩ := mem k q hk
    exact hD.2 j q hj
theorem w2_swap {Γ : zG} {a b : Nat} {M N : zMs} {X : va_W} {H : Heap} (h : W2 Γ a b M N X H) : W2 Γ b a N M X H := by
  obtain ⟨Z, ⟨lo, S, ha, hT, h1, h2, h3, ws, hP, hD, hn⟩, lo2, S2, hb, hT2, hc2, hi2, hn2⟩ := h
  have hp : ((X ++ Z) ++ ws).Perm ((X ++ ws) ++ Z) := by
    rw [List.append_assoc, List.append_assoc]
    exact List.Perm.append_left X List.perm_append_comm
  obtain ⟨hP1, hD1⟩ := pd_perm hp hP hD
  exact ⟨ws, ⟨lo2, S2, hb, hT2, h1, hc2, hi2, Z, hP1, hD1, hn2⟩, lo, S, ha, hT, h2, h3, hn⟩
theorem met_ex {l : Launch} {y : MethodName} {ws : List Cond} {rm : Room} {Pc : Array Value → State → Prop} {Qc : Array Value → State → Outcome → State → Prop} {mc ms : Nat} {free : Addr → Prop}
    (h : ∀ (a : Array Value) (s : State), Pc a s → ∃ (P1 : Array Value → State → Prop) (Q1 : Array Value → State → Outcome → State → Prop), Met l y ws rm P1 Q1 mc ms free ∧ P1 a s ∧ ∀ (o : Outcome) (t : State), Q1 a s o t → Qc a s o t) : Met l y ws rm Pc Qc mc ms free := by
  intro p e h1 h2 h3 s m args below hf ha hP hK
  obtain ⟨P1, Q1, hM, hP1, hQ⟩ := h args s hP
  obtain ⟨n, o, a, b, c, d1, d2⟩ := hM p e h1 h2 h3 s m args below hf ha hP1 hK
  exact ⟨n, o, a, b, c, hQ _ _ d1, d2⟩
theorem tw_met {l : Launch} {Γ : zG} {a : Nat} {M M1 : zMs} {X : va_W} {y : MethodName} {ws : List Cond} {rm : Room} {mc ms : Nat} {As : List Value} {v : Value}
    (h : ∀ (lo : zId → Nat) (S : zSt), Tie S M → ∃ S1 S2 : zSt, Tie S2 M1 ∧ (∀ (lo1 : zId → Nat) (H : Heap), Wd Γ lo1 S1 X H → Wd Γ lo1 S2 X H) ∧ Met l y ws rm (zPL Γ lo S X (.ref (lo (10, 0, 0)) :: As)) (zQn Γ lo S S1 X (fun _ => some v) (fun _ => True)) mc ms (zA Γ)) :
    Met l y ws rm (GP Γ (TW Γ a M X) (.ref a :: As)) (GQ Γ (TW Γ a M1 X) (some v)) mc ms (zA Γ) := by
  refine met_ex (fun ar s hP => ?_)
  obtain ⟨hv, ⟨lo, S, ha, hT, hW⟩, hKK, hKX, hKY, hKN⟩ := hP
  obtain ⟨S1, S2, hT2, hadj, hM⟩ := h lo S hT
  refine ⟨_, _, hM, ⟨by rw [ha]; exact hv, hW, hKK, hKX, hKY, hKN⟩, fun o t hq => ?_⟩
  obtain ⟨lo1, ho, hW1, ⟨h1, h2, -⟩, hF⟩ := hq
  exact ⟨ho, ⟨lo1, S2, (h1 _ (zsteps_tie.1 _ _ hT)).trans ha, hT2, hadj _ _ hW1⟩, hF⟩
theorem g2l {l : Launch} {Γ : zG} {a b : Nat} {M M1 N : zMs} {X : va_W} {y : MethodName} {ws : List Cond} {rm : Room} {mc ms : Nat} {av : List Value} {v : Option Value}
    (h : ∀ X : va_W, Met l y ws rm (GP Γ (TW Γ a M X) av) (GQ Γ (TW Γ a M1 X) v) mc ms (zA Γ)) : Met l y ws rm (GP Γ (W2 Γ a b M N X) av) (GQ Γ (W2 Γ a b M1 N X) v) mc ms (zA Γ) := by
  refine met_ex (fun ar s hP => ?_)
  obtain ⟨hv, ⟨Z, hT, hO⟩, hK⟩ := hP
  exact ⟨_, _, h (X ++ Z), ⟨hv, hT, hK⟩, fun o t hq => ⟨hq.1, ⟨Z, hq.2.1, hO⟩, hq.2.2⟩⟩
theorem g2r {l : Launch} {Γ : zG} {a b : Nat} {M N N1 : zMs} {X : va_W} {y : MethodName} {ws : List Cond} {rm : Room} {mc ms : Nat} {av : List Value} {v : Option Value}
    (h : ∀ X : va_W, Met l y ws rm (GP Γ (TW Γ b N X) av) (GQ Γ (TW Γ b N1 X) v) mc ms (zA Γ)) : Met l y ws rm (GP Γ (W2 Γ a b M N X) av) (GQ Γ (W2 Γ a b M N1 X) v) mc ms (zA Γ) := by
  refine met_ex (fun ar s hP => ?_)
  obtain ⟨hv, hW, hK⟩ := hP
  obtain ⟨Z, hT, hO⟩ := w2_swap hW
  exact ⟨_, _, h (X ++ Z), ⟨hv, hT, hK⟩, fun o t hq => ⟨hq.1, w2_swap ⟨Z, hq.2.1, hO⟩, hq.2.2⟩⟩
theorem tw_r {Γ : zG} {a : Nat} {M : zMs} {X : va_W} {H : Heap} (h : TW Γ a M X H) : ∃ fs : List Value, va_P Γ.1 vwCl [(a, .inr (10, fs))] H := by
  obtain ⟨lo, S, ha, hT, hW⟩ := h
  have h1 := wd_1 hW (zsteps_tie.1 _ _ hT)
  rw [ha] at h1
  exact ⟨_, h1⟩
theorem w2_rl {Γ : zG} {a b : Nat} {M N : zMs} {X : va_W} {H : Heap} (h : W2 Γ a b M N X H) : ∃ fs : List Value, va_P Γ.1 vwCl [(a, .inr (10, fs))] H := by
  obtain ⟨Z, hT, -⟩ := h
  exact tw_r hT
theorem w2_rr {Γ : zG} {a b : Nat} {M N : zMs} {X : va_W} {H : Heap} (h : W2 Γ a b M N X H) : ∃ fs : List Value, va_P Γ.1 vwCl [(b, .inr (10, fs))] H := w2_rl (w2_swap h)
theorem tw_n {Γ : zG} {a q : Nat} {M : zMs} {I : Nat → Int32} {X : va_W} {H : Heap} (h : TW Γ a M (nC Γ q I :: X) H) : va_P Γ.1 vwCl [nC Γ q I] H := by
  obtain ⟨lo, S, -, -, hW⟩ := h
  exact wd_x hW (k := 0) rfl
theorem w2_n {Γ : zG} {a b q : Nat} {M N : zMs} {I : Nat → Int32} {X : va_W} {H : Heap} (h : W2 Γ a b M N (nC Γ q I :: X) H) : va_P Γ.1 vwCl [nC Γ q I] H := by
  obtain ⟨Z, hT, -⟩ := h
  exact tw_n hT
theorem tb_out {v : Int32} {n : Int32} (h : v < 0 ∨ n < v) : v.toInt < 0 ∨ n.toInt < v.toInt := by
  rcases h with h | h
  · exact Or.inl (Int32.lt_iff_toInt_lt.mp h)
  · exact Or.inr (Int32.lt_iff_toInt_lt.mp h)
section ZG
variable {p : Program} {l : Launch} {e : Env} {R : Room} {s : State} {m : MethodId} {args : Array Value} {below : List Frame} {meth : Method} {c : Code} {H : Heap} {locs : List Loc} {cells slots : Nat} {Q : State → Prop}
variable {cc : ByteArray} {pc : Nat} {ls : Array Slot} {rest : List Value} {Γ : zG} {P P1 : Heap → Prop} {v : Option Value}
theorem g_go {mc ms : Nat} {a : Array Value} {st0 : List Value} (hr : va_Run p l e R s m args below meth c H locs cells slots mc ms (F0 m pc ls st0) rest (GQ Γ P1 v a) (zA Γ)) (hS : va_S (zA Γ) s.heap H locs)
    (kk : ∀ (H1 : Heap) (locs1 : List Loc), P1 H1 → va_S (zA Γ) s.heap H1 locs1 → W p l e R s m args below meth c H1 locs1 (cells + mc) (slots + ms) Q (F0 m (pc + 3) ls (v.toList ++ rest))) : W p l e R s m args below meth c H locs cells slots Q (F0 m pc ls st0) := by
  intro T hT Xs
  obtain ⟨v1, st₀, t, T', L, h0, X', hL, e1, e2, ⟨hv, hw, hz, hk⟩, hst⟩ := hr T hT Xs
  cases hv
  rw [h0] at hz hk
  obtain ⟨t2, a1, b1⟩ := kk T'.heap (locs ++ L) (by rw [e1]; exact hw)
    ⟨Nat.le_trans hS.1 (by rw [e1]; exact hz), fun q h1 h2 => by rw [e1, hk q (Nat.lt_of_lt_of_le h1 hS.1) h2]; exact hS.2.1 q h1 h2, fun q hq => by
      rcases List.mem_append.mp hq with h | h
      · exact hS.2.2 q h
      · exact hL q h⟩ T' rfl X'
  exact ⟨t2, hst t2 a1, b1⟩
theorem g_callW {Ts ws : List Cond} {bytes : ByteArray} {nL maxL index n mc ms : Nat} {hh : List (Nat × Nat × Nat × Nat)} {own : String} {y : MethodName} {ret : Option FieldType} {rm : Room} {As : List Value}
    (F : CallFix p m c cc nL s args Ts own) (hM : Met l y ws rm (GP Γ P As) (GQ Γ P1 v) mc ms (zA Γ)) (cw : vx_CSW R s args own index y bytes maxL ret hh ws rm mc ms n) (hKK : KK Γ s) (hKX : KX s) (hKY : KY s) (hKN : KN s) (hP : P H) (hS : va_S (zA Γ) s.heap H locs)
    (hn : As.length = n) (hsize : ls.size = nL) {st0 : List Value} (hst : st0 = As.reverse ++ rest) (hR : (rest.map fun v => v.category).sum ≤ 8) (hdg : decode cc pc = .ok (.invokestatic index, 3)) (hf : cells + mc ≤ R.cells ∧ slots + ms ≤ R.slots)
    (kk : ∀ (H1 : Heap) (locs1 : List Loc), P1 H1 → va_S (zA Γ) s.heap H1 locs1 → W p l e R s m args below meth c H1 locs1 (cells + mc) (slots + ms) Q (F0 m (pc + 3) ls (v.toList ++ rest))) : W p l e R s m args below meth c H locs cells slots Q (F0 m pc ls st0) :=
  g_go (vx_runSW F hM cw ⟨fun _ _ _ _ q => q, fun _ hU hW1 => ⟨rfl, by rw [hU]; exact hP, hKK.go hS hU hW1, hKX.go hW1, hKY.go hW1, hKN.go hW1⟩⟩ rfl hn hsize hst (lv_room hR) hdg hf) hS kk
theorem g_callS {Ts ws : List Cond} {bytes : ByteArray} {nL maxL index n mc ms : Nat} {own : String} {y : MethodName} {ret : Option FieldType} {rm : Room} {As : List Value}
    (F : CallFix p m c cc nL s args Ts own) (hM : Met l y ws rm (GP Γ P As) (GQ Γ P1 v) mc ms (zA Γ)) (cw : CallB R s args own index y bytes maxL ret ws rm mc ms n ∧ (Cond.static y).before args s = true) (hKK : KK Γ s) (hKX : KX s) (hKY : KY s) (hKN : KN s) (hP : P H) (hS : va_S (zA Γ) s.heap H locs)
    (hn : As.length = n) (hsize : ls.size = nL) {st0 : List Value} (hst : st0 = As.reverse ++ rest) (hR : (rest.map fun v => v.category).sum ≤ 8) (hdg : decode cc pc = .ok (.invokestatic index, 3)) (hf : cells + mc ≤ R.cells ∧ slots + ms ≤ R.slots)
    (kk : ∀ (H1 : Heap) (locs1 : List Loc), P1 H1 → va_S (zA Γ) s.heap H1 locs1 → W p l e R s m args below meth c H1 locs1 (cells + mc) (slots + ms) Q (F0 m (pc + 3) ls (v.toList ++ rest))) : W p l e R s m args below meth c H locs cells slots Q (F0 m pc ls st0) :=
  g_go (va_runS F hM cw ⟨fun _ _ _ _ q => q, fun _ hU hW1 => ⟨rfl, by rw [hU]; exact hP, hKK.go hS hU hW1, hKX.go hW1, hKY.go hW1, hKN.go hW1⟩⟩ rfl hn hsize hst (lv_room hR) hdg hf) hS kk
theorem g_callV {Ts ws : List Cond} {bytes : ByteArray} {nL maxL index n mc ms : Nat} {own C : String} {y : MethodName} {ret : Option FieldType} {rm : Room} {b : Addr} {As : List Value} {ci : Nat} {fs : List Value} {T : u_T} {NN : Nat}
    (F : CallFix p m c cc nL s args Ts own) (hM : Met l y ws rm (GP Γ P (.ref b :: As)) (GQ Γ P1 v) mc ms (zA Γ)) (cw : CallW R s args own C index y bytes maxL ret ws rm mc ms n) (hPc : va_P Γ.1 vwCl [(b, .inr (ci, fs))] H) (hc : vwCl[ci]? = some (C, T, NN)) (hKK : KK Γ s) (hKX : KX s) (hKY : KY s) (hKN : KN s) (hP : P H) (hS : va_S (zA Γ) s.heap H locs)
    (hn : As.length = n) (hsize : ls.size = nL) {st0 : List Value} (hst : st0 = As.reverse ++ .ref b :: rest) (hR : (rest.map fun v => v.category).sum ≤ 8) (hdg : decode cc pc = .ok (.invokevirtual index, 3)) (hf : cells + mc ≤ R.cells ∧ slots + ms ≤ R.slots)
    (kk : ∀ (H1 : Heap) (locs1 : List Loc), P1 H1 → va_S (zA Γ) s.heap H1 locs1 → W p l e R s m args below meth c H1 locs1 (cells + mc) (slots + ms) Q (F0 m (pc + 3) ls (v.toList ++ rest))) : W p l e R s m args below meth c H locs cells slots Q (F0 m pc ls st0) :=
  g_go (va_runV F hM cw ⟨fun _ _ _ _ q => q, va_recv (q0 := 0) hKK.1 hPc hc rfl, fun _ hU hW1 => ⟨rfl, by rw [hU]; exact hP, hKK.go hS hU hW1, hKX.go hW1, hKY.go hW1, hKN.go hW1⟩⟩ rfl hn hsize hst (lv_room hR) hdg hf) hS kk
theorem g_iret (hexec : p.tables.exec = Jvm.exec) (hb : c.code = cc) {ty : FieldType} (hr : meth.sig.returnType = some ty) (hlocks : meth.locks = false) {mc ms : Nat} (hc : cells ≤ mc) (hs : slots ≤ ms) {x : Int32} (hn : narrow ty (.int x) = .int x) (hP : P1 H) (hS : va_S (zA Γ) s.heap H locs) (hdg : decode cc pc = .ok (.ireturn, 1)) :
    W p l e R s m args below meth c H locs cells slots (MQ below (GQ Γ P1 (some (.int x))) args s mc ms (zA Γ)) (F0 m pc ls [.int x]) :=
  W.widen hc hs (W.zret hexec hb hr hn (fun t ht _ => ⟨rfl, by rw [ht]; exact hP, hS.F ht⟩) hS.2.2 hdg hlocks)
end ZG
theorem tg_ball (S : zSt) (d : zId) : ¬ zTg S d (1, 0, 0) := by
  obtain ⟨k, i, j⟩ := d
  intro h
  match k, h with
  | 0, h => cases congrArg Prod.fst h.2
  | 3, h => rcases h with h | h | h <;> cases congrArg Prod.fst h
  | 5, h => rcases h with h | h | h <;> cases congrArg Prod.fst h
  | 6, h => rcases h with h | h <;> cases congrArg Prod.fst h
  | 7, h => rcases h with h | h <;> cases congrArg Prod.fst h
  | 8, h => rcases h with h | h <;> cases congrArg Prod.fst h
  | 9, h => cases congrArg Prod.fst h
  | 10, h => rcases h with h | h | h | h | h | h | h | h <;> cases congrArg Prod.fst h
  | 13, h => obtain ⟨_, _, _, h⟩ := h; cases congrArg Prod.fst h
  | 23, h =>
    obtain ⟨z, _, h⟩ := h
    match i, h with
    | 0, h => cases congrArg Prod.fst h
    | 1, h => cases congrArg Prod.fst h
    | t + 2, h => cases congrArg Prod.fst h
theorem wd_cnt {Γ : zG} {lo : zId → Nat} {S : zSt} {X : va_W} {H : Heap} (h : Wd Γ lo S X H) (n : Nat) : Wd Γ lo (pN S (10, 0, 0) 0 n) X H := by
  obtain ⟨h1, h2, h3, ws, hP, hD, hn⟩ := h
  have e : ∀ c : zId, ct Γ lo (pN S (10, 0, 0) 0 n) c = ct Γ lo S c := by
    intro c
    by_cases hc : c = (10, 0, 0)
    · subst hc; rfl
    · exact ct_pNn Γ lo S hc 0 n
  refine ⟨h1, ?_, h3, ws, hP, hD, fun c hc => by rw [e]; exact hn c hc⟩
  intro c d hc ht
  refine h2 c d hc ?_
  by_cases hc2 : c = (10, 0, 0)
  · subst hc2; exact ht
  · unfold zTg at ht ⊢
    rw [zN_pN, if_neg hc2] at ht
    exact ht

