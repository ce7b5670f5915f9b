theorem mask31 (x : Int32) : ∃ k, k < 32 ∧ x &&& 31 = nI k := by
  refine ⟨x.toBitVec.toNat % 32, Nat.mod_lt _ (by decide), ?_⟩
  apply Int32.toBitVec_inj.mp
  apply BitVec.eq_of_toNat_eq
  have e1 : (x &&& 31).toBitVec = x.toBitVec &&& 31#32 := rfl
  have e2 : (nI (x.toBitVec.toNat % 32)).toBitVec = BitVec.ofNat 32 (x.toBitVec.toNat % 32) := rfl
  rw [e1, e2, BitVec.toNat_and]
  have e4 : (BitVec.ofNat 32 (x.toBitVec.toNat % 32)).toNat = x.toBitVec.toNat % 32 := by
    rw [BitVec.toNat_ofNat]; omega
  have e3 : x.toBitVec.toNat &&& 31 = x.toBitVec.toNat % 32 := Nat.and_two_pow_sub_one_eq_mod x.toBitVec.toNat 5
  rw [e4]
  exact e3
theorem lw_len {L i : Nat} (hL : L ≤ 3072) (hi : i ≤ 4000) : (Int32.ofNat L - 6 < nI i) ↔ L < i + 6 := by
  have e : (nI L - nI 6).toInt = (L : Int) - (6 : Nat) := pk_sub_toInt (by omega) (by omega)
  have e2 : (nI i).toInt = (i : Int) := nI_toInt (by omega)
  have e3 : Int32.ofNat L - 6 = nI L - nI 6 := rfl
  rw [e3, Int32.lt_iff_toInt_lt, e, e2]
  omega
set_option maxHeartbeats 4000000 in
set_option maxRecDepth 100000 in
theorem lw_loop {p : Program} {e : Env} {s : State} {m : MethodId} {below : List Frame} {meth : Method} {c : Code} {Q : State → Prop} (l : Launch) (hl0 : l.stackTraces = false) {Γ : zG} {T : zSt → zMs → Prop} (hT : zSteps T) {b L : Nat} {xs : Nat → Int32} (C0 : lwC p s m meth c Γ b L xs) (hL : L ≤ 3072) (hend : ∀ (H : Heap) (locs : List Loc) (ls : Array Slot) (cells slots : Nat), va_S (zA Γ) s.heap H locs → cells ≤ 601024 → slots ≤ 7293034 → W p l e room_1 s m #[Value.ref b] below meth c H locs cells slots Q (F0 m 2137 ls [])) : ∀ (d i : Nat) (lo : zId → Nat) (S : zSt) (q : Nat → Nat) (M : zMs) (qo : Nat) (O : Nat → Int64) (cells slots : Nat) (H : Heap) (locs : List Loc) (ls : Array Slot), L ≤ i + 6 * d → i ≤ L + 6 → T S M → Wd Γ lo S (mcl Γ q M ++ [zOut Γ qo O]) H → va_S (zA Γ) s.heap H locs → lv_has ls 8 (lwLv lo (q 0) qo b (nI i)) → cells + 12 * d ≤ 601024 → slots + 2700 * d ≤ 7293034 → W p l e room_1 s m #[Value.ref b] below meth c H locs cells slots Q (F0 m 23 ls []) := by
  have C1 := C0
  obtain ⟨hx, hb, hml, hown, hts, hX, hbl, hbA, hB0, hKK, hKX, hKY, hKN⟩ := C0
  intro d
  induction d with
  | zero =>
    intro i lo S q M qo O cells slots H locs ls hLi hi hTT hW hS hl hc hs
    have hl : lv_has ls 8 [(4, .int (nI i)), (3, .ref qo), (2, .ref (q 0)), (1, .ref (lo (10, 0, 0))), (0, .ref b)] := hl
    refine lv_iload hx hb dL_law_23 (lv_at hl 0 rfl) ?_
    refine lv_aload_n hx hb dL_law_25 rfl (lv_at hl 4 rfl) ?_
    refine va_slen hx hb hX hbl hbA hS dL_law_26 ?_
    refine lv_bipush (v := (6)) hx hb dL_law_27 (by decide) ?_
    refine lv_isub hx hb dL_law_29 ?_
    refine lv_icmp_gt (tgt := 2137) hx hb dL_law_30 (by decide) (fun _ => hend H locs ls cells slots hS (by omega) (by omega)) (fun k => absurd ((lw_len hL (by omega)).mpr (by omega)) k)
  | succ d ih =>
    intro i lo S q M qo O cells slots H locs ls hLi hi hTT hW hS hl hc hs
    have hl0' := hl
    have hl : lv_has ls 8 [(4, .int (nI i)), (3, .ref qo), (2, .ref (q 0)), (1, .ref (lo (10, 0, 0))), (0, .ref b)] := hl
    refine lv_iload hx hb dL_law_23 (lv_at hl 0 rfl) ?_
    refine lv_aload_n hx hb dL_law_25 rfl (lv_at hl 4 rfl) ?_
    refine va_slen hx hb hX hbl hbA hS dL_law_26 ?_
    refine lv_bipush (v := (6)) hx hb dL_law_27 (by decide) ?_
    refine lv_isub hx hb dL_law_29 ?_
    refine lv_icmp_gt (tgt := 2137) hx hb dL_law_30 (by decide) (fun _ => hend H locs ls cells slots hS (by omega) (by omega)) (fun k => ?_)
    have hlen : i + 6 ≤ L := Nat.not_lt.mp (fun q => k ((lw_len hL (by omega)).mpr q))
    refine lv_aload_n hx hb dL_law_33 rfl (lv_at hl 4 rfl) ?_
    refine lv_iload hx hb dL_law_34 (lv_at hl 0 rfl) ?_
    refine va_sld hx hb hX hbl hbA hS (vp_in_nI (by omega) (by omega)) dL_law_36 ?_
    refine lv_bipush (v := (31)) hx hb dL_law_37 (by decide) ?_
    refine lv_iand hx hb dL_law_39 ?_
    have hin : ∀ k : Int32, 0 ≤ k → k ≤ 5 → vp_in (nI i + k) L := by
      intro k h0 h5
      obtain ⟨j, hj, rfl⟩ := nI_of (Int32.not_lt.mpr h0)
      rw [show (5 : Int32) = nI 5 by decide, nI_leI hj (by omega)] at h5
      rw [nI_add]
      exact vp_in_nI (by omega) (by omega)
    have kk : ∀ (lo1 : zId → Nat) (S1 : zSt) (M1 : zMs) (O1 : Nat → Int64) (H1 : Heap) (locs1 : List Loc) (ls1 : Array Slot), T S1 M1 → Wd Γ lo1 S1 (mcl Γ q M1 ++ [zOut Γ qo O1]) H1 → va_S (zA Γ) s.heap H1 locs1 → lv_has ls1 8 (lwLv lo1 (q 0) qo b (nI i)) → W p l e room_1 s m #[Value.ref b] below meth c H1 locs1 (cells + 12) (slots + 2700) Q (F0 m 2131 ls1 []) := by
      intro lo1 S1 M1 O1 H1 locs1 ls1 hT1 hW1 hS1 hl1
      have hl1 : lv_has ls1 8 [(4, .int (nI i)), (3, .ref qo), (2, .ref (q 0)), (1, .ref (lo1 (10, 0, 0))), (0, .ref b)] := hl1
      refine lv_iinc (v := nI (i + 6)) (lv' := [(4, .int (nI (i + 6))), (3, .ref qo), (2, .ref (q 0)), (1, .ref (lo1 (10, 0, 0))), (0, .ref b)]) hx hb dL_law_2131 hl1 (k := 0) rfl (by rw [← nI_add]; rfl) (by decide) rfl (fun ls hl => ?_)
      refine lv_goto (tgt := 23) hx hb dL_law_2134 (by decide) ?_
      exact ih (i + 6) lo1 S1 q M1 qo O1 _ _ H1 locs1 ls (by omega) (by omega) hT1 hW1 hS1 hl (by omega) (by omega)
    obtain ⟨z, hz, ez⟩ := mask31 (xs (nI i).toNatClampNeg)
    rw [ez]
    match z, hz with
    | 0, _ =>
      refine lv_tableIn (tgt := 180) hx hb dL_law_40 (by decide) (by decide) rfl (by decide) ?_
      exact lw_c0 l hl0 hT C1 hTT hW hS hl0' hin (by omega) (by omega) kk
    | 1, _ =>
      refine lv_tableIn (tgt := 248) hx hb dL_law_40 (by decide) (by decide) rfl (by decide) ?_
      exact lw_c1 l hl0 hT C1 hTT hW hS hl0' hin (by omega) (by omega) kk
    | 2, _ =>
      refine lv_tableIn (tgt := 352) hx hb dL_law_40 (by decide) (by decide) rfl (by decide) ?_
      exact lw_c2 l hl0 hT C1 hTT hW hS hl0' hin (by omega) (by omega) kk
    | 3, _ =>
      refine lv_tableIn (tgt := 432) hx hb dL_law_40 (by decide) (by decide) rfl (by decide) ?_
      exact lw_c3 l hl0 hT C1 hTT hW hS hl0' hin (by omega) (by omega) kk
    | 4, _ =>
      refine lv_tableIn (tgt := 543) hx hb dL_law_40 (by decide) (by decide) rfl (by decide) ?_
      exact lw_c4 l hl0 hT C1 hTT hW hS hl0' hin (by omega) (by omega) kk
    | 5, _ =>
      refine lv_tableIn (tgt := 556) hx hb dL_law_40 (by decide) (by decide) rfl (by decide) ?_
      exact lw_c5 l hl0 hT C1 hTT hW hS hl0' hin (by omega) (by omega) kk
    | 6, _ =>
      refine lv_tableIn (tgt := 624) hx hb dL_law_40 (by decide) (by decide) rfl (by decide) ?_
      exact lw_c6 l hl0 hT C1 hTT hW hS hl0' hin (by omega) (by omega) kk
    | 7, _ =>
      refine lv_tableIn (tgt := 699) hx hb dL_law_40 (by decide) (by decide) rfl (by decide) ?_
      exact lw_c7 l hl0 hT C1 hTT hW hS hl0' hin (by omega) (by omega) kk
    | 8, _ =>
      refine lv_tableIn (tgt := 767) hx hb dL_law_40 (by decide) (by decide) rfl (by decide) ?_
      exact lw_c8 l hl0 hT C1 hTT hW hS hl0' hin (by omega) (by omega) kk
    | 9, _ =>
      refine lv_tableIn (tgt := 823) hx hb dL_law_40 (by decide) (by decide) rfl (by decide) ?_
      exact lw_c9 l hl0 hT C1 hTT hW hS hl0' hin (by omega) (by omega) kk
    | 10, _ =>
      refine lv_tableIn (tgt := 915) hx hb dL_law_40 (by decide) (by decide) rfl (by decide) ?_
      exact lw_c10 l hl0 hT C1 hTT hW hS hl0' hin (by omega) (by omega) kk
    | 11, _ =>
      refine lv_tableIn (tgt := 971) hx hb dL_law_40 (by decide) (by decide) rfl (by decide) ?_
      exact lw_c11 l hl0 hT C1 hTT hW hS hl0' hin (by omega) (by omega) kk
    | 12, _ =>
      refine lv_tableIn (tgt := 984) hx hb dL_law_40 (by decide) (by decide) rfl (by decide) ?_
      exact lw_c12 l hl0 hT C1 hTT hW hS hl0' hin (by omega) (by omega) kk
    | 13, _ =>
      refine lv_tableIn (tgt := 1040) hx hb dL_law_40 (by decide) (by decide) rfl (by decide) ?_
      exact lw_c13 l hl0 hT C1 hTT hW hS hl0' hin (by omega) (by omega) kk
    | 14, _ =>
      refine lv_tableIn (tgt := 1096) hx hb dL_law_40 (by decide) (by decide) rfl (by decide) ?_
      exact lw_c14 l hl0 hT C1 hTT hW hS hl0' hin (by omega) (by omega) kk
    | 15, _ =>
      refine lv_tableIn (tgt := 1152) hx hb dL_law_40 (by decide) (by decide) rfl (by decide) ?_
      exact lw_c15 l hl0 hT C1 hTT hW hS hl0' hin (by omega) (by omega) kk
    | 16, _ =>
      refine lv_tableIn (tgt := 1208) hx hb dL_law_40 (by decide) (by decide) rfl (by decide) ?_
      exact lw_c16 l hl0 hT C1 hTT hW hS hl0' hin (by omega) (by omega) kk
    | 17, _ =>
      refine lv_tableIn (tgt := 1264) hx hb dL_law_40 (by decide) (by decide) rfl (by decide) ?_
      exact lw_c17 l hl0 hT C1 hTT hW hS hl0' hin (by omega) (by omega) kk
    | 18, _ =>
      refine lv_tableIn (tgt := 1320) hx hb dL_law_40 (by decide) (by decide) rfl (by decide) ?_
      exact lw_c18 l hl0 hT C1 hTT hW hS hl0' hin (by omega) (by omega) kk
    | 19, _ =>
      refine lv_tableIn (tgt := 1387) hx hb dL_law_40 (by decide) (by decide) rfl (by decide) ?_
      exact lw_c19 l hl0 hT C1 hTT hW hS hl0' hin (by omega) (by omega) kk
    | 20, _ =>
      refine lv_tableIn (tgt := 1443) hx hb dL_law_40 (by decide) (by decide) rfl (by decide) ?_
      exact lw_c20 l hl0 hT C1 hTT hW hS hl0' hin (by omega) (by omega) kk
    | 21, _ =>
      refine lv_tableIn (tgt := 1511) hx hb dL_law_40 (by decide) (by decide) rfl (by decide) ?_
      exact lw_c21 l hl0 hT C1 hTT hW hS hl0' hin (by omega) (by omega) kk
    | 22, _ =>
      refine lv_tableIn (tgt := 1579) hx hb dL_law_40 (by decide) (by decide) rfl (by decide) ?_
      exact lw_c22 l hl0 hT C1 hTT hW hS hl0' hin (by omega) (by omega) kk
    | 23, _ =>
      refine lv_tableIn (tgt := 1635) hx hb dL_law_40 (by decide) (by decide) rfl (by decide) ?_
      exact lw_c23 l hl0 hT C1 hTT hW hS hl0' hin (by omega) (by omega) kk
    | 24, _ =>
      refine lv_tableIn (tgt := 1691) hx hb dL_law_40 (by decide) (by decide) rfl (by decide) ?_
      exact lw_c24 l hl0 hT C1 hTT hW hS hl0' hin (by omega) (by omega) kk
    | 25, _ =>
      refine lv_tableIn (tgt := 1771) hx hb dL_law_40 (by decide) (by decide) rfl (by decide) ?_
      exact lw_c25 l hl0 hT C1 hTT hW hS hl0' hin (by omega) (by omega) kk
    | 26, _ =>
      refine lv_tableIn (tgt := 1839) hx hb dL_law_40 (by decide) (by decide) rfl (by decide) ?_
      exact lw_c26 l hl0 hT C1 hTT hW hS hl0' hin (by omega) (by omega) kk
    | 27, _ =>
      refine lv_tableIn (tgt := 1895) hx hb dL_law_40 (by decide) (by decide) rfl (by decide) ?_
      exact lw_c27 l hl0 hT C1 hTT hW hS hl0' hin (by omega) (by omega) kk
    | 28, _ =>
      refine lv_tableIn (tgt := 1951) hx hb dL_law_40 (by decide) (by decide) rfl (by decide) ?_
      exact lw_c28 l hl0 hT C1 hTT hW hS hl0' hin (by omega) (by omega) kk
    | 29, _ =>
      refine lv_tableIn (tgt := 2019) hx hb dL_law_40 (by decide) (by decide) rfl (by decide) ?_
      exact lw_c29 l hl0 hT C1 hTT hW hS hl0' hin (by omega) (by omega) kk
    | 30, _ =>
      refine lv_tableIn (tgt := 2075) hx hb dL_law_40 (by decide) (by decide) rfl (by decide) ?_
      exact lw_c30 l hl0 hT C1 hTT hW hS hl0' hin (by omega) (by omega) kk
    | 31, _ =>
      refine lv_tableOut (tgt := 2131) hx hb dL_law_40 (by decide) (by decide) ?_
      refine W.widen (k := cells + 12) (n := slots + 2700) (by omega) (by omega) ?_
      exact kk lo S M O H locs ls hTT hW hS hl0'
    | z + 32, h => exact absurd h (by omega)

