/-! what the start gives: the tables' words, the classes, the arrays, the strings -/
section ZFC
variable {s : State} {b : Nat}
theorem z_arrI (h : (Cond.arrayClass .int).before #[Value.ref b] s = true) : ∃ cA, ArrOfT s cA .int ∧ va_RA s cA .int := by
  obtain ⟨cA, k, comp, f1, f2, f3⟩ := Cond.arrayClass_spec h
  exact ⟨cA, fun N z => ⟨(fun k h => by cases h), k, f2, comp, f3⟩, f1⟩
theorem z_arrL (h : (Cond.arrayClass .long).before #[Value.ref b] s = true) : ∃ cA, ArrOfT s cA .long ∧ va_RA s cA .long := by
  obtain ⟨cA, k, comp, f1, f2, f3⟩ := Cond.arrayClass_spec h
  exact ⟨cA, fun N z => ⟨(fun k h => by cases h), k, f2, comp, f3⟩, f1⟩
theorem z_arrZ (h : (Cond.arrayClass .boolean).before #[Value.ref b] s = true) : ∃ cA, ArrOfT s cA .boolean ∧ va_RA s cA .boolean := by
  obtain ⟨cA, k, comp, f1, f2, f3⟩ := Cond.arrayClass_spec h
  exact ⟨cA, fun N z => ⟨(fun k h => by cases h), k, f2, comp, f3⟩, f1⟩
theorem z_arrO {C : String} (h : (Cond.arrayOver (.object C)).before #[Value.ref b] s = true) : ∃ cA, ArrOfT s cA (.object C) ∧ va_RA s cA (.object C) := by
  obtain ⟨comp, cA, kA, f1, -, f2, f3, f4⟩ := Cond.arrayOver_spec h
  exact ⟨cA, fun N z => ⟨(fun k h => by cases h), kA, f2, comp, f3⟩, kA, comp, f2, f3, f1, f4⟩
theorem z_eqi {args : Array Value} {tm : Term} {z : Int32} (h : (Cond.eq tm (.int z)).before args s = true) : tm.eval args s none [] s = some (.int z) := by
  cases hv : tm.eval args s none [] s with
  | none => simp [Cond.before, Cond.holds, Cond.value, hv] at h
  | some w =>
    have hz : (Term.int z).eval args s none [] s = some (.int z) := rfl
    simp only [Cond.before, Cond.holds, Cond.value, hv, hz] at h
    cases w <;> simp_all
set_option maxRecDepth 20000 in
theorem z_known (hts : ∀ w ∈ lw_tbl, w.before #[Value.ref b] s = true) : ∃ (dC : Nat → ClassId) (dI : Nat → Nat → Nat), ∀ (k : Nat) (q : vw_C), vwCl[k]? = some q → u_Kn s q.1 q.2.1 q.2.2 (dC k) (dI k) := by
  have h : ∀ k : Nat, ∃ (a : ClassId) (i : Nat → Nat), ∀ q : vw_C, vwCl[k]? = some q → u_Kn s q.1 q.2.1 q.2.2 a i := by
    intro k
    match k with
    | 0 =>
      obtain ⟨a, i, h⟩ := u_known (C := RJx4a65c) (T := TJx4a65c) (N := 3) (n := 3) hts in_uJx4a65c (hts (.instantiable RJx4a65c 3) (by decide +kernel))
      exact ⟨a, i, fun q hq => by cases hq; exact h⟩
    | 1 =>
      obtain ⟨a, i, h⟩ := u_known (C := RX0) (T := TX0) (N := 4) (n := 4) hts in_uX0 (hts (.instantiable RX0 4) (by decide +kernel))
      exact ⟨a, i, fun q hq => by cases hq; exact h⟩
    | 2 =>
      obtain ⟨a, i, h⟩ := u_known (C := RX1) (T := TX1) (N := 7) (n := 7) hts in_uX1 (hts (.instantiable RX1 7) (by decide +kernel))
      exact ⟨a, i, fun q hq => by cases hq; exact h⟩
    | 3 =>
      obtain ⟨a, i, h⟩ := u_known (C := RX2) (T := TX2) (N := 6) (n := 6) hts in_uX2 (hts (.instantiable RX2 6) (by decide +kernel))
      exact ⟨a, i, fun q hq => by cases hq; exact h⟩
    | 4 =>
      obtain ⟨a, i, h⟩ := u_known (C := RX3) (T := TX3) (N := 5) (n := 5) hts in_uX3 (hts (.instantiable RX3 5) (by decide +kernel))
      exact ⟨a, i, fun q hq => by cases hq; exact h⟩
    | 5 =>
      obtain ⟨a, i, h⟩ := u_known (C := RX4) (T := TX4) (N := 5) (n := 5) hts in_uX4 (hts (.instantiable RX4 5) (by decide +kernel))
      exact ⟨a, i, fun q hq => by cases hq; exact h⟩
    | 6 =>
      obtain ⟨a, i, h⟩ := u_known (C := RX5) (T := TX5) (N := 4) (n := 4) hts in_uX5 (hts (.instantiable RX5 4) (by decide +kernel))
      exact ⟨a, i, fun q hq => by cases hq; exact h⟩
    | 7 =>
      obtain ⟨a, i, h⟩ := u_known (C := RX6) (T := TX6) (N := 2) (n := 2) hts in_uX6 (hts (.instantiable RX6 2) (by decide +kernel))
      exact ⟨a, i, fun q hq => by cases hq; exact h⟩
    | 8 =>
      obtain ⟨a, i, h⟩ := u_known (C := RX7) (T := TX7) (N := 8) (n := 8) hts in_uX7 (hts (.instantiable RX7 8) (by decide +kernel))
      exact ⟨a, i, fun q hq => by cases hq; exact h⟩
    | 9 =>
      obtain ⟨a, i, h⟩ := u_known (C := RX8) (T := TX8) (N := 2) (n := 2) hts in_uX8 (hts (.instantiable RX8 2) (by decide +kernel))
      exact ⟨a, i, fun q hq => by cases hq; exact h⟩
    | 10 =>
      obtain ⟨a, i, h⟩ := u_known (C := RX9) (T := TX9) (N := 9) (n := 9) hts in_uX9 (hts (.instantiable RX9 9) (by decide +kernel))
      exact ⟨a, i, fun q hq => by cases hq; exact h⟩
    | k + 11 => exact ⟨0, fun _ => 0, fun q hq => by cases hq⟩
  exact ⟨fun k => Classical.choose (h k), fun k => Classical.choose (Classical.choose_spec (h k)), fun k => Classical.choose_spec (Classical.choose_spec (h k))⟩
set_option maxRecDepth 20000 in
theorem z_KX (hts : ∀ w ∈ lw_tbl, w.before #[Value.ref b] s = true) : KX s := by
  obtain ⟨cur, hcur⟩ : ∃ cur, s.vm.findClass "TiltRoute" = some cur := by
    obtain ⟨cC, kC, hfc, -⟩ := Cond.instantiable_spec (hts (.instantiable RX9 9) (by decide +kernel))
    exact ⟨cC, hfc⟩
  have str : ∀ (k : Nat) (tx : String), (Cond.stringRef "TiltRoute" k tx) ∈ lw_tbl → ∃ a, vk_R "TiltRoute" k tx a s := by
    intro k tx hm
    obtain ⟨_, _, _, a, _, _, _, _, _, h2⟩ := Cond.stringRef_spec hcur (hts _ hm)
    exact ⟨a, vk_R.of (hts _ hm) h2⟩
  refine ⟨?_, ?_, fun n => ?_⟩
  · have all : ∀ z ∈ zStr, (Cond.stringRef "TiltRoute" z.1 z.2) ∈ lw_tbl := by decide +kernel
    exact fun z hz => str z.1 z.2 (all z hz)
  · have all : ∀ X ∈ (["java/lang/RuntimeException", "java/lang/Exception", Bundle.tN] : List String), (Cond.declares (Bundle.initS X)) ∈ lw_tbl := by decide +kernel
    exact fun X hX => va_Nw.of rfl (hts _ (all X hX))
  · have all : ∀ X ∈ (["java/lang/IndexOutOfBoundsException", "java/lang/IllegalArgumentException", "java/lang/IllegalStateException"] : List String), (Cond.castable X X) ∈ lw_tbl := by decide +kernel
    refine va_Nw.of rfl (hts _ (all _ ?_))
    unfold zEx
    by_cases h1 : n = 1
    · rw [if_pos h1]; simp
    · by_cases h2 : n = 2
      · rw [if_neg h1, if_pos h2]; simp
      · rw [if_neg h1, if_neg h2]; simp
set_option maxRecDepth 20000 in
theorem z_KY (hts : ∀ w ∈ lw_tbl, w.before #[Value.ref b] s = true) : KY s := by
  refine ⟨va_AO.of (hts (.arrayOver (.object "TiltRoute$Mode")) (by decide +kernel)), ⟨va_AO.of (hts (.arrayOver (.object "java/lang/Object")) (by decide +kernel)), ?_⟩, ?_⟩
  · have all : ∀ C ∈ (["TiltRoute$Bumper", "TiltRoute$Game", "TiltRoute$Table"] : List String), (Cond.castable C "java/lang/Object") ∈ lw_tbl := by decide +kernel
    exact fun C hC => va_Nw.of rfl (hts _ (all C hC))
  · have all : ∀ z ∈ zNest, (Cond.methodLinkNest z.1 z.2.1 z.2.2 "TiltRoute") ∈ lw_tbl := by decide +kernel
    exact fun z hz => va_Nw.of rfl (hts _ (all z hz))
set_option maxRecDepth 20000 in
theorem z_KN (hgv : (Jvm.Cond.and given_1 narrow_1).before #[Value.ref b] s = true) : KN s := by
  have all : ∀ z ∈ zNcs, (Cond.not (.castable z.1 z.2)) ∈ flatC (Jvm.Cond.and given_1 narrow_1) := by decide +kernel
  exact fun z hz => va_Nc.of (flat_of_before _ hgv _ (all z hz))
abbrev zDc : Term := .static "java/util/ArrayList" "DEFAULTCAPACITY_EMPTY_ELEMENTDATA" "[Ljava/lang/Object;"
set_option maxRecDepth 20000 in
theorem z_KK (hts : ∀ w ∈ lw_tbl, w.before #[Value.ref b] s = true) (hgv : (Jvm.Cond.and given_1 narrow_1).before #[Value.ref b] s = true) : ∃ Γ : zG, Γ.2.2.1 = s.heap.size ∧ KK Γ s := by
  have hg := flat_of_before _ hgv
  obtain ⟨dC, dI, hKc⟩ := z_known hts
  obtain ⟨c0, a0, r0⟩ := z_arrI (hts (.arrayClass .int) (by decide +kernel))
  obtain ⟨c1, a1, r1⟩ := z_arrL (hts (.arrayClass .long) (by decide +kernel))
  obtain ⟨c2, a2, r2⟩ := z_arrZ (hts (.arrayClass .boolean) (by decide +kernel))
  obtain ⟨c3, a3, r3⟩ := z_arrO (hts (.arrayOver (.object "TiltRoute$Mode")) (by decide +kernel))
  obtain ⟨c4, a4, r4⟩ := z_arrO (hts (.arrayOver (.object "java/lang/Object")) (by decide +kernel))
  have hA : ∀ a : Nat, a < s.heap.size → ¬ s.heap.size ≤ a := fun a h => by omega
  obtain ⟨t, ht, hT⟩ := va_Tof (args := #[Value.ref b]) (s := s) (tm := zDc) (ty := .object "java/lang/Object") (N := 0) (f := fun _ => .null) (A := fun q => s.heap.size ≤ q) (by decide) (hg (.arrayOf zDc (.object "java/lang/Object")) (by decide +kernel)) (z_eqi (hg (.eq (.length zDc) (.int 0)) (by decide +kernel))) (fun j hj => by omega) hA
  refine ⟨((dC, dI), (fun k => if k = 0 then c0 else if k = 1 then c1 else if k = 2 then c2 else if k = 3 then c3 else c4), s.heap.size, t), rfl, ⟨hKc, fun k q hq => ?_⟩, va_Zref (hts (.laysStatic "java/util/ArrayList" "DEFAULTCAPACITY_EMPTY_ELEMENTDATA" "[Ljava/lang/Object;") (by decide +kernel)) (hts (.initialized "java/util/ArrayList") (by decide +kernel)) ht hA, hT,
    vx_Zqof (hts (.laysStatic Bundle.tN "UNASSIGNED_STACK" Bundle.steD) (by decide +kernel)) (hts (.initialized Bundle.tN) (by decide +kernel)) (hg (.isRef (.static Bundle.tN "UNASSIGNED_STACK" Bundle.steD)) (by decide +kernel)) hA,
    vx_Zqof (hts (.laysStatic Bundle.tN "SUPPRESSED_SENTINEL" Bundle.listD) (by decide +kernel)) (hts (.initialized Bundle.tN) (by decide +kernel)) (hg (.isRef (.static Bundle.tN "SUPPRESSED_SENTINEL" Bundle.listD)) (by decide +kernel)) hA,
    va_Mi.of (hg (.isRef (.mirror "[Ljava/lang/Object;")) (by decide +kernel)), va_Dc.of (hts _ (by decide +kernel))⟩
  match k, hq with
  | 0, hq => cases hq; exact ⟨a0, r0⟩
  | 1, hq => cases hq; exact ⟨a1, r1⟩
  | 2, hq => cases hq; exact ⟨a2, r2⟩
  | 3, hq => cases hq; exact ⟨a3, r3⟩
  | 4, hq => cases hq; exact ⟨a4, r4⟩
  | k + 5, hq => cases hq
end ZFC
