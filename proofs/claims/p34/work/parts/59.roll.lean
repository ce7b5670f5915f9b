/-! a ball from its shot to its end -/
def bRun9 (a_1 : Nat) (a_2 : Nat) : (Int32 × zSt) → Option ((Int32 × zSt) ⊕ zSt) := fun (q2 : (Int32 × zSt)) =>
if (300 : Int32) < q2.1 then
some (.inr (q2.2))
else
cl (fX0_isOut q2.2) fun r8 =>
if r8 = 0 then
cl (fX0_fall q2.2) fun S13 =>
cl2 (fX0_moveAcross S13 a_1) fun r14 S16 =>
st r14 fun x17 =>
cl2 (fX0_moveDownwards S16 a_1) fun r18 S20 =>
st r18 fun x21 =>
cl (fX9_hitBumper S20 a_1 a_2 x17 q2.1) fun S24 =>
cl (fX9_hitBumper S24 a_1 a_2 x21 q2.1) fun S27 =>
st (fun (S28 : zSt) => (st (q2.1 + (1 : Int32)) fun x30 =>
some (.inl (x30, S28)) : Option ((Int32 × zSt) ⊕ zSt))) fun j29 =>
if (q2.1 - q2.1 / (10 : Int32) * (10 : Int32)) = 0 then
cl (fX9_closeSticking S27 a_1 a_2 q2.1) fun S33 =>
j29 S33
else
j29 S27
else
some (.inr (q2.2))
abbrev rlT : Type := Int32 × Int32 × Int32 × Int32 × Int32 × Int32 × zMs
def blA {β : Type} (sy : Int32) (kk : Int32 → Option β) : Option β := st (fun (y16 : Int32) => (st y16 fun x18 => kk x18 : Option β)) fun j17 => if (sy + (2 : Int32)) ≤ (30 : Int32) then j17 (sy + (2 : Int32)) else j17 (30 : Int32)
def blB {β : Type} (x20 sx : Int32) (kk : Int32 → Int32 → Option β) : Option β := st (fun (y21 : Int32) (y22 : Int32) => (kk y21 y22 : Option β)) fun j23 => st (fun (u_ : Unit) => (st (fun (y80 : Int32) => (st y80 fun x82 => st (-sx) fun x83 => j23 x82 x83 : Option β)) fun j81 => if 0 ≤ x20 then j81 ((318 : Int32) - x20) else j81 (-x20) : Option β)) fun j79 => if x20 < 0 then j79 () else if x20 ≤ (159 : Int32) then j23 x20 sx else j79 ()
def blC {β : Type} (M : zMs) (i_1 x26 x19 y21 y22 : Int32) (kk : Int32 → Int32 → Option β) : Option β := st (fun (y27 : Int32) (y28 : Int32) => (kk y27 y28 : Option β)) fun j29 => if x26 = (-1 : Int32) then j29 y21 y22 else st x19 fun x75 => cl (fX10_kicked M i_1 x26 y22) fun r76 => st r76 fun x78 => j29 x75 x78
def blD {β : Type} (x32 : Int32) (kk : Int32 → Option β) : Option β := st (fun (y33 : Int32) => (st y33 fun x36 => kk x36 : Option β)) fun j35 => if x32 ≤ (239 : Int32) then j35 (0 : Int32) else j35 (1 : Int32)
def blE {β : Type} (M : zMs) (i_1 y27 x36 x32 x18 x30 x31 : Int32) (kk : Int32 → Int32 → Int32 → Option β) : Option β := st (fun (y37 : Int32) (y38 : Int32) (y39 : Int32) => (kk y37 y38 y39 : Option β)) fun j40 => if x36 = 0 then st (fun (y63 : Int32) (y64 : Int32) => (cl (fX10_bumperAt M i_1 y27 y63) fun r66 => st r66 fun x68 => if x68 = (-1 : Int32) then j40 y63 y64 x68 else st x30 fun x69 => cl (fX10_kicked M i_1 x68 y64) fun r70 => st r70 fun x72 => j40 x69 x72 x68 : Option β)) fun j65 => if 0 ≤ x32 then j65 x32 x18 else st (-x32) fun x73 => st (-x18) fun x74 => j65 x73 x74 else j40 x32 x18 x31
def blF (M : zMs) (i_1 i_2 x15 x26 y39 : Int32) (tp : zMs → rlT) : Option (rlT ⊕ zMs) := cl2 (fX10_strike M i_1 x26) fun r41 M43 => st r41 fun x44 => cl2 (fX10_strike M43 i_1 y39) fun r45 M47 => gd (¬ (((((300 : Int32) * i_2) + x15) - (1 : Int32)) < 0 ∨ 36000 ≤ ((((300 : Int32) * i_2) + x15) - (1 : Int32)).toNatClampNeg)) (st (pM M47 38 ((((300 : Int32) * i_2) + x15) - (1 : Int32)).toNatClampNeg (x44 + ((9 : Int32) * r45))) fun M48 => st (0 : Int32) fun x49 => lp (bRs i_2 x15 (fun S : zMs => (.inl (tp S) : rlT ⊕ zMs))) 40000 (x49, M48))
def blG (i_2 : Int32) (q7 : rlT) : Option (rlT ⊕ zMs) := gd (¬ (i_2 < 0 ∨ 120 ≤ i_2.toNatClampNeg)) (st (pM q7.2.2.2.2.2.2 37 i_2.toNatClampNeg q7.2.2.2.2.2.1) fun M14 => some (.inr (M14)))
def bRoll (i_1 i_2 : Int32) : rlT → Option (rlT ⊕ zMs) := fun q7 => st (fun (u_ : Unit) => (blG i_2 q7 : Option (rlT ⊕ zMs))) fun j13 =>
if q7.2.2.2.2.1 = 0 then
if (300 : Int32) ≤ q7.2.2.2.2.2.1 then
j13 ()
else
st (q7.2.2.2.2.2.1 + (1 : Int32)) fun x15 => blA q7.2.2.2.1 fun x18 => st q7.1 fun x19 => st (q7.1 + q7.2.2.1) fun x20 => blB x20 q7.2.2.1 fun y21 y22 =>
cl (fX10_bumperAt q7.2.2.2.2.2.2 i_1 y21 q7.2.1) fun r24 => st r24 fun x26 => blC q7.2.2.2.2.2.2 i_1 x26 x19 y21 y22 fun y27 y28 =>
st q7.2.1 fun x30 => st (-1 : Int32) fun x31 => st (q7.2.1 + x18) fun x32 => blD x32 fun x36 => blE q7.2.2.2.2.2.2 i_1 y27 x36 x32 x18 x30 x31 fun y37 y38 y39 =>
blF q7.2.2.2.2.2.2 i_1 i_2 x15 x26 y39 (fun S => (y27, y37, y28, y38, x36, x15, S))
else
j13 ()
section PRO
variable {S S1 S2 Sb : zSt} {M M1 Mb : zMs} {t g n bi k s : Nat} {ee : List Nat} {x y sx sy : Int32}
theorem PT_R2 {a b d : Nat} (hp : PT S a b M g d) (r : ∀ k, k = 29 ∨ (40 ≤ k ∧ k ≤ 44) → M1 k = M k) : PT S a b M1 g d := by
  have : PT S a b M1 g d = PT S a b M g d := by
    unfold PT
    simp only [r 40 (by omega), r 41 (by omega), r 42 (by omega), r 43 (by omega), r 44 (by omega), r 29 (by omega)]
  rw [this]
  exact hp
theorem PT_R' {d : Nat} {i : Nat} {v : Int32} (hp : PT S 0 g M g d) : PT S 0 g (pM M 38 i v) g d := PT_R2 hp (fun q hq => pMn (by omega) i v)
theorem RU_R' {i : Nat} {v : Int32} (h : RU S M g) : RU S (pM M 38 i v) g := by
  have r : ∀ k, k ≠ 38 → pM M 38 i v k = M k := fun k hk => pMn hk i v
  have : RU S (pM M 38 i v) g = RU S M g := by
    unfold RU
    simp only [r 28 (by omega), r 29 (by omega), r 30 (by omega), r 31 (by omega), r 32 (by omega), r 33 (by omega)]
  rw [this]
  exact h
theorem lp_n {σ β : Type} (body : σ → Option (σ ⊕ β)) (n : Nat) {s : σ} (h : body s = none) : lp body (n + 1) s = none := by
  show (match body s with | none => none | some (.inl s1) => lp body n s1 | some (.inr b) => some b) = _
  rw [h]
/-- the loop over switches that stick does the same, whatever comes behind it -/
theorem stk_u {β : Type} {ball x15 : Int32} (fV : zMs → β) : ∀ {fuel : Nat} {q : Int32 × zMs} {M1 : zMs}, lp (bRs ball x15 (fun S : zMs => (Sum.inr S : rlT ⊕ zMs))) fuel q = some (.inr M1) → lp (bRs ball x15 fV) fuel q = some (fV M1) := by
  intro fuel
  induction fuel with
  | zero => intro q M1 h; cases h
  | succ f ih =>
    intro q M1 h
    have fin : (∀ (γ : Type) (fW : zMs → γ), bRs ball x15 fW q = some (.inr (fW q.2))) → lp (bRs ball x15 fV) (f + 1) q = some (fV M1) := by
      intro e
      rw [lp_e _ f (e _ _)] at h
      rw [lp_e _ f (e _ _)]
      cases h
      rfl
    have non : (∀ (γ : Type) (fW : zMs → γ), bRs ball x15 fW q = none) → lp (bRs ball x15 fV) (f + 1) q = some (fV M1) := by
      intro e
      rw [lp_n _ f (e _ _)] at h
      cases h
    have stp1 : ∀ q1, (∀ (γ : Type) (fW : zMs → γ), bRs ball x15 fW q = some (.inl q1)) → lp (bRs ball x15 fV) (f + 1) q = some (fV M1) := by
      intro q1 e
      rw [lp_s _ f (e _ _)] at h
      rw [lp_s _ f (e _ _)]
      exact ih h
    by_cases h8 : (8 : Int32) ≤ q.1
    · exact fin (fun γ fW => by unfold bRs; rw [st_s, if_pos h8])
    · by_cases h10 : (x15 - x15 / (10 : Int32) * (10 : Int32)) = 0
      · by_cases hgd : ¬ ((((8 : Int32) * ball) + q.1) < 0 ∨ 960 ≤ (((8 : Int32) * ball) + q.1).toNatClampNeg)
        · by_cases h39 : (q.2 39 (((8 : Int32) * ball) + q.1).toNatClampNeg) ≤ 0
          · refine stp1 (q.1 + 1, q.2) (fun γ fW => ?_)
            unfold bRs
            rw [st_s, if_neg h8, if_pos h10, gd_t hgd, st_s, if_pos h39]
            show st (q.1 + 1) _ = _
            rw [st_s]
          · cases hc : fX10_close q.2 q.1 with
            | none =>
              refine non (fun γ fW => ?_)
              unfold bRs
              rw [st_s, if_neg h8, if_pos h10, gd_t hgd, st_s, if_neg h39, hc]
              rfl
            | some M9 =>
              refine stp1 (q.1 + 1, M9) (fun γ fW => ?_)
              unfold bRs
              rw [st_s, if_neg h8, if_pos h10, gd_t hgd, st_s, if_neg h39, hc, cl_s]
              show st (q.1 + 1) _ = _
              rw [st_s]
        · refine non (fun γ fW => ?_)
          unfold bRs
          rw [st_s, if_neg h8, if_pos h10]
          exact if_neg hgd
      · exact fin (fun γ fW => by unfold bRs; rw [st_s, if_neg h8, if_neg h10])
theorem roll_eq (M : zMs) (i1 i2 i3 i4 i5 : Int32) : fX10_roll M i1 i2 i3 i4 i5 = lp (bRoll i1 i2) 40000 (i3, 0, i4, i5, 0, 0, M) := by
  unfold fX10_roll
  rw [st_s, st_s, st_s, st_s, st_s, st_s]
  rfl
theorem blA_e {β : Type} (kk : Int32 → Option β) : blA sy kk = kk (if sy + 2 ≤ 30 then sy + 2 else 30) := by
  unfold blA
  by_cases a : sy + 2 ≤ 30
  · simp only [st_q, a, if_true]
  · simp only [st_q, a, if_false]
theorem blB_e {β : Type} (kk : Int32 → Int32 → Option β) : blB x sx kk = kk (crV x sx).1 (crV x sx).2 := by
  unfold blB crV
  by_cases a : x < 0
  · simp only [st_q, a, if_true, Int32.not_le.mpr a, if_false]
  · by_cases a2 : x ≤ 159
    · simp only [st_q, a, if_false, a2, if_true]
    · simp only [st_q, a, if_false, a2, Int32.not_lt.mp a, if_true]
theorem blC_e {β : Type} (hU : BU S M t n) (f : Nat → Bool) (x19 y21 y22 : Int32) (kk : Int32 → Int32 → Option β) : blC M (nI t) (fst f 0 n) x19 y21 y22 kk = kk (boV M t (fst f 0 n) y21 y22 x19 y22).1 (boV M t (fst f 0 n) y21 y22 x19 y22).2 := by
  have hn := hU.1
  unfold blC boV
  rcases fst_c f n 0 with q | ⟨b, -, hb, q⟩
  · rw [q]
    simp only [st_q, if_true]
  · rw [q]
    have ne : ¬ nI b = -1 := of_eq_false (nI_m (by omega))
    simp only [st_q, ne, if_false, kick10 hU.2.1 (show b < 8 by omega), cl_q, nI_clamp (show b < 2 ^ 31 by omega)]
theorem blD_e {β : Type} (kk : Int32 → Option β) : blD x kk = kk (if x ≤ 239 then 0 else 1) := by
  unfold blD
  by_cases a : x ≤ 239
  · simp only [st_q, a, if_true]
  · simp only [st_q, a, if_false]
theorem blE_o {β : Type} (x31 x30 x18 y27 : Int32) (kk : Int32 → Int32 → Int32 → Option β) : blE M (nI t) y27 1 x x18 x30 x31 kk = kk x x18 x31 := by
  unfold blE
  simp only [st_q, i10, if_false]
theorem blE_i {β : Type} (hU : BU S M t n) (x31 x30 x18 y27 : Int32) (kk : Int32 → Int32 → Int32 → Option β) : blE M (nI t) y27 0 x x18 x30 x31 kk = kk (boV M t (fst (inBx M t y27 (dnV x x18).1) 0 n) (dnV x x18).1 (dnV x x18).2 x30 (dnV x x18).2).1 (boV M t (fst (inBx M t y27 (dnV x x18).1) 0 n) (dnV x x18).1 (dnV x x18).2 x30 (dnV x x18).2).2 (fst (inBx M t y27 (dnV x x18).1) 0 n) := by
  have hn := hU.1
  have main : ∀ v w : Int32, (cl (fX10_bumperAt M (nI t) y27 v) fun r66 => st r66 fun x68 => if x68 = (-1 : Int32) then kk v w x68 else st x30 fun x69 => cl (fX10_kicked M (nI t) x68 w) fun r70 => st r70 fun x72 => kk x69 x72 x68) = kk (boV M t (fst (inBx M t y27 v) 0 n) v w x30 w).1 (boV M t (fst (inBx M t y27 v) 0 n) v w x30 w).2 (fst (inBx M t y27 v) 0 n) := by
    intro v w
    unfold boV
    rw [over10 hU, cl_s, st_s]
    rcases fst_c (inBx M t y27 v) n 0 with q | ⟨b, -, hb, q⟩
    · rw [q]
      simp only [if_true]
    · rw [q]
      have ne : ¬ nI b = -1 := of_eq_false (nI_m (by omega))
      simp only [st_q, ne, if_false, kick10 hU.2.1 (show b < 8 by omega), cl_q, nI_clamp (show b < 2 ^ 31 by omega)]
  unfold blE dnV
  by_cases a : 0 ≤ x
  · rw [st_s, if_pos rfl, st_s, if_pos a, if_pos a]
    exact main x x18
  · rw [st_s, if_pos rfl, st_s, if_neg a, if_neg a, st_s, st_s]
    exact main (-x) (-x18)
theorem qW2_c {ball : Nat} (q39 : M1 39 = M 39) (st0 : Nat) : qW M1 ball bi st0 2 = qW M ball bi st0 2 := by
  have : ∀ d w, 2 ≤ w → (List.filterMap (fun w => if pt M1 ball st0 w = 0 then none else some (ptE bi st0 (pt M1 ball st0 w))) (List.range' w d)) = (List.filterMap (fun w => if pt M ball st0 w = 0 then none else some (ptE bi st0 (pt M ball st0 w))) (List.range' w d)) := by
    intro d
    induction d with
    | zero =>
      intro w _
      rw [show List.range' w 0 = [] from rfl, List.filterMap_nil, List.filterMap_nil]
    | succ d ih =>
      intro w hw
      have e : pt M1 ball st0 w = pt M ball st0 w := by
        unfold pt
        rw [if_neg (show ¬ w = 0 by omega), if_neg (show ¬ w = 1 by omega), if_neg (show ¬ w = 0 by omega), if_neg (show ¬ w = 1 by omega), q39]
      rw [List.range'_succ, List.filterMap_cons, List.filterMap_cons, e, ih (w + 1) (by omega)]
  unfold qW
  exact this 8 2 (by omega)
theorem qW2_0 (M : zMs) (ball : Nat) {st0 : Nat} (h : ¬ st0 % 10 = 0) : qW M ball bi st0 2 = [] := by
  have : ∀ d w, 2 ≤ w → (List.filterMap (fun w => if pt M ball st0 w = 0 then none else some (ptE bi st0 (pt M ball st0 w))) (List.range' w d)) = [] := by
    intro d
    induction d with
    | zero => intro w _; rfl
    | succ d ih =>
      intro w hw
      have e : pt M ball st0 w = 0 := by
        unfold pt
        rw [if_neg (by omega), if_neg (by omega), if_neg (fun q => h q.1)]
      rw [List.range'_succ, List.filterMap_cons, if_pos e]
      exact ih (w + 1) (by omega)
  exact this 8 2 (by omega)
theorem entS_v {ball v1 v2 st0 : Nat} (h1 : v1 ≤ 8) (h2 : v2 ≤ 8) (h0 : 1 ≤ st0) (e : M 38 (300 * ball + st0 - 1) = nI (v1 + 9 * v2)) : entS M ball bi st0 = hitL bi st0 v1 ++ (hitL bi st0 v2 ++ qW M ball bi st0 2) := by
  have p0 : pt M ball st0 0 = v1 := by
    unfold pt
    rw [if_pos rfl, e, nI_clamp (by omega)]
    omega
  have p1 : pt M ball st0 1 = v2 := by
    unfold pt
    rw [if_neg (by decide), if_pos rfl, e, nI_clamp (by omega)]
    omega
  rw [entS_q, qW_c (by decide), qW_c (by decide), p0, show (0 + 1 : Nat) = 1 from rfl, p1]
  rfl
theorem fm_c {f f1 : Nat → List Nat} : ∀ {n : Nat}, (∀ k, k < n → f k = f1 k) → (List.range n).flatMap f = (List.range n).flatMap f1 := by
  intro n
  induction n with
  | zero => intro _; rfl
  | succ n ih =>
    intro h
    rw [List.range_succ, List.flatMap_append, List.flatMap_append, ih (fun k hk => h k (by omega)), List.flatMap_singleton, List.flatMap_singleton, h n (by omega)]
theorem entS_c {ball st0 : Nat} (q38 : M1 38 (300 * ball + st0 - 1) = M 38 (300 * ball + st0 - 1)) (q39 : M1 39 = M 39) : entS M1 ball bi st0 = entS M ball bi st0 := by
  unfold entS pt
  rw [q38, q39]
/-- what has been logged of this ball, of s steps -/
def rlE (M : zMs) (ball bi s : Nat) : List Nat := (List.range s).flatMap (fun q => entS M ball bi (q + 1))
theorem rlE_len (M : zMs) (ball bi s : Nat) : (rlE M ball bi s).length ≤ 2 * s + 8 * (s / 10) := fm_len (fun q => entS M ball bi (q + 1)) (fun q => entS_len M ball bi (q + 1)) s
/-- ahead of a step -/
def RH (Sb : zSt) (Mb : zMs) (t g n bi : Nat) (e0 : List Nat) (s : Nat) (S : zSt) (M : zMs) (x y sx sy : Int32) : Prop :=
  MR Sb Mb t g n bi S M (e0 ++ rlE M (3 * g + bi) bi s) ∧ BL S x y sx sy ∧ spd sx ∧ spd sy ∧ ∀ q, q < s → ∃ a b, a ≤ 8 ∧ b ≤ 8 ∧ M 38 (300 * (3 * g + bi) + q) = nI (a + 9 * b)
theorem roll_step (hg : g < 40) (hbi : bi < 3) {e0 : List Nat} (he0 : e0.length ≤ 1680) (h39 : ∀ k, k < 8 → Mb 39 (8 * (3 * g + bi) + k) = Mb 16 (8 * t + k) + 1) (h16 : ∀ k, n ≤ k → k < 8 → Mb 16 (8 * t + k) = -1) (hs : s < 300) (h : RH Sb Mb t g n bi e0 s S M x y sx sy) (hy : yok y) :
    ∃ S1 M1 x1 y1 sx1 sy1 ov, bRun9 t g (nI (s + 1), S) = some (.inl (nI (s + 2), S1)) ∧ bRoll (nI t) (nI (3 * g + bi)) (x, y, sx, sy, 0, nI s, M) = some (.inl (x1, y1, sx1, sy1, ov, nI (s + 1), M1)) ∧ RH Sb Mb t g n bi e0 (s + 1) S1 M1 x1 y1 sx1 sy1 ∧ ((ov = 0 ∧ yok y1) ∨ (ov = 1 ∧ ¬ y1 ≤ 239)) := by
  obtain ⟨hM, hL, hsx, hsy, h38⟩ := h
  have hU := hM.2.2.1
  have hlen := rlE_len M (3 * g + bi) bi s
  -- the ball falls
  obtain ⟨Sf, f1, f2, f3⟩ := fall9 hL
  have hsy2 := fall_spd hsy
  generalize hsf : (if sy + 2 ≤ 30 then sy + 2 else 30) = sf at *
  have Uf := BU_F hU f3
  obtain ⟨Sa, a1, a2, a3⟩ := acr9 Uf f2 hsx
  have hsx2 := crV_spd hsx (x + sx)
  have hr1 := fst_c (inBx M t (crV (x + sx) sx).1 y) n 0
  have hsx3 := boV_spd Uf (o1 := (crV (x + sx) sx).1) (o2 := x) hsx2 (inBx M t (crV (x + sx) sx).1 y)
  have ec := blC_e (β := rlT ⊕ zMs) hU (inBx M t (crV (x + sx) sx).1 y) x (crV (x + sx) sx).1 (crV (x + sx) sx).2
  have o10a := over10 hU (crV (x + sx) sx).1 y
  generalize hcx : (boV M t (fst (inBx M t (crV (x + sx) sx).1 y) 0 n) (crV (x + sx) sx).1 (crV (x + sx) sx).2 x (crV (x + sx) sx).2) = cx0 at *
  generalize hr1e : fst (inBx M t (crV (x + sx) sx).1 y) 0 n = r1 at *
  have Ua := BU_F Uf a3
  -- downwards
  have dn : ∃ S1 y1 sy1 ov r2, fX0_moveDownwards Sa t = some (r2, S1) ∧ BL S1 cx0.1 y1 cx0.2 sy1 ∧ bF Sa S1 ∧ spd sy1 ∧ (r2 = -1 ∨ ∃ b, b < n ∧ r2 = nI b) ∧ ((ov = 0 ∧ yok y1) ∨ (ov = 1 ∧ ¬ y1 ≤ 239)) ∧ ∀ kk : Int32 → Int32 → Int32 → Int32 → Option (rlT ⊕ zMs), (blD (y + sf) fun x36 => blE M (nI t) cx0.1 x36 (y + sf) sf y (-1) fun y37 y38 y39 => kk y37 y38 y39 x36) = kk y1 sy1 r2 ov := by
    by_cases ho : y + sf ≤ 239
    · obtain ⟨S1, d1, d2, d3⟩ := dwn9 Ua a2 hsy2 ho
      obtain ⟨k1, k2⟩ := dn_ok hy hsy2 ho
      refine ⟨S1, _, _, 0, _, d1, d2, d3, boV_spd Ua k2 _, ?_, Or.inl ⟨rfl, boV_y _ k1 hy⟩, fun kk => ?_⟩
      · rcases fst_c (inBx M t cx0.1 (dnV (y + sf) sf).1) n 0 with q | ⟨b, -, hb, q⟩
        · exact Or.inl q
        · exact Or.inr ⟨b, by omega, q⟩
      · rw [blD_e, if_pos ho, blE_i hU]
    · obtain ⟨S1, d1, d2, d3⟩ := dwn9o (t := t) a2 ho
      refine ⟨S1, _, _, 1, -1, d1, d2, d3, hsy2, Or.inl rfl, Or.inr ⟨rfl, ho⟩, fun kk => ?_⟩
      rw [blD_e, if_neg ho, blE_o]
  obtain ⟨Sd, y1, sy1, ov, r2, d1, d2, d3, d4, d5, d6, d7⟩ := dn
  -- the hits
  have hMd := MR_b (MR_b (MR_b hM f3) a3) d3
  have hr1' : r1 = -1 ∨ ∃ b, b < n ∧ r1 = nI b := by
    rcases hr1 with q | ⟨b, -, hb, q⟩
    · exact Or.inl q
    · exact Or.inr ⟨b, by omega, q⟩
  obtain ⟨Sh, Mh, v1, p1, p2, p3, p4, p5, p6⟩ := hit1 (step := s + 1) hg hMd hr1' (by omega) hbi (by rw [List.length_append]; omega)
  have hl1 : ∀ v, (hitL bi (s + 1) v).length ≤ 1 := fun v => by
    unfold hitL
    by_cases e : v = 0
    · rw [if_pos e]; exact Nat.zero_le _
    · rw [if_neg e]; exact Nat.le_refl _
  have hl1a := hl1 v1
  obtain ⟨Si, Mi, v2, q1, q2, q3, q4, q5, q6⟩ := hit1 (step := s + 1) hg p4 d5 (by omega) hbi (by rw [List.length_append, List.length_append]; omega)
  have hl1b := hl1 v2
  -- what is told of the step
  have hMw : MR Sb Mb t g n bi Si (pM Mi 38 (300 * (3 * g + bi) + s) (nI (v1 + 9 * v2))) (e0 ++ rlE M (3 * g + bi) bi s ++ hitL bi (s + 1) v1 ++ hitL bi (s + 1) v2) := by
    obtain ⟨m1, m2, m3, ⟨d, m4⟩, m5, m6, m7, m8⟩ := q4
    refine ⟨m1, ⟨fun q b1 b2 b3 b4 b5 b6 => by rw [pMn b2]; exact m2.1 q b1 b2 b3 b4 b5 b6, fun i hi => by rw [pMn (by decide)]; exact m2.2.1 i hi, fun i hi => by rw [pM_at, if_neg (fun e => by have := e.2; omega)]; exact m2.2.2 i hi⟩, ?_, ⟨d, PT_R' m4⟩, RU_R' m5, m6, m7, MPl_e m8 (fun q q1 q2 => pMn (by omega) _ _)⟩
    obtain ⟨u1, u2, u3, u4, u5⟩ := m3
    exact ⟨u1, u2, by rw [pMn (by decide)]; exact u3, u4, fun b hb => by
      rw [pMn (show 9 ≠ 38 by decide), pMn (show 10 ≠ 38 by decide), pMn (show 11 ≠ 38 by decide), pMn (show 12 ≠ 38 by decide), pMn (show 13 ≠ 38 by decide), pMn (show 15 ≠ 38 by decide), pMn (show 16 ≠ 38 by decide)]
      exact u5 b hb⟩
  have ix : (300 : Int32) * nI (3 * g + bi) + nI (s + 1) - 1 = nI (300 * (3 * g + bi) + s) := by
    rw [c300I, pk_mul, nI_add, ← Nat.add_assoc, nI_pred]
  have cix : (nI (300 * (3 * g + bi) + s)).toNatClampNeg = 300 * (3 * g + bi) + s := nI_clamp (by omega)
  have e9 : nI v1 + (9 : Int32) * nI v2 = nI (v1 + 9 * v2) := by rw [c9I, pk_mul, nI_add]
  have hMf := hMw.2.1
  have w39 : pM Mi 38 (300 * (3 * g + bi) + s) (nI (v1 + 9 * v2)) 39 = Mb 39 := hMf.1 39 (by decide) (by decide) (by decide) (by decide) (by decide) (by decide)
  have w16 : pM Mi 38 (300 * (3 * g + bi) + s) (nI (v1 + 9 * v2)) 16 = Mb 16 := hMf.1 16 (by decide) (by decide) (by decide) (by decide) (by decide) (by decide)
  have stick : ∃ S1 M1, ((s + 1) % 10 = 0 → fX9_closeSticking Si t g (nI (s + 1)) = some S1) ∧ (¬ (s + 1) % 10 = 0 → S1 = Si) ∧ (∀ fV : zMs → rlT ⊕ zMs, lp (bRs (nI (3 * g + bi)) (nI (s + 1)) fV) 40000 (0, pM Mi 38 (300 * (3 * g + bi) + s) (nI (v1 + 9 * v2))) = some (fV M1)) ∧ MR Sb Mb t g n bi S1 M1 (e0 ++ rlE M (3 * g + bi) bi s ++ hitL bi (s + 1) v1 ++ hitL bi (s + 1) v2 ++ qW (pM Mi 38 (300 * (3 * g + bi) + s) (nI (v1 + 9 * v2))) (3 * g + bi) bi (s + 1) 2) ∧ zI S1 (1, 0, 0) = zI Si (1, 0, 0) ∧ M1 38 = pM Mi 38 (300 * (3 * g + bi) + s) (nI (v1 + 9 * v2)) 38 := by
    by_cases h10 : (s + 1) % 10 = 0
    · have key := fun (fV : zMs → rlT ⊕ zMs) => stk1 (n := n) (t := t) fV (M0 := pM Mi 38 (300 * (3 * g + bi) + s) (nI (v1 + 9 * v2))) hg hbi h10 (by omega) (fun k hk => by rw [w39, w16]; exact h39 k hk) (fun k a b => by rw [w16]; exact h16 k a b) n 0 40000 40000 Si _ _ (by omega) (by have := hU.1; omega) (by have := hU.1; omega) hMw rfl rfl (by
        rw [List.length_append, List.length_append, List.length_append]
        have := hU.1
        omega)
      obtain ⟨S1, M1, c1, c2, c3, c4, c5⟩ := key (fun S => Sum.inr S)
      refine ⟨S1, M1, fun _ => ?_, fun q => absurd h10 q, fun fV => ?_, c3, c4, c5⟩
      · unfold fX9_closeSticking
        rw [st_s, ← nI_0]
        exact c1
      · rw [← nI_0]
        exact stk_u fV c2
    · refine ⟨Si, _, fun q => absurd q h10, fun _ => rfl, fun fV => stk_n fV _ h10 (by omega), ?_, rfl, rfl⟩
      rw [qW2_0 _ _ h10, List.append_nil]
      exact hMw
  obtain ⟨S1, M1, k1, k2, k3, k4, k5, k6⟩ := stick
  have eS1 : zI S1 (1, 0, 0) = zI Sd (1, 0, 0) := k5.trans (q5.trans p5)
  -- the log of s + 1 steps
  have e38 : M1 38 (300 * (3 * g + bi) + (s + 1) - 1) = nI (v1 + 9 * v2) := by
    rw [show 300 * (3 * g + bi) + (s + 1) - 1 = 300 * (3 * g + bi) + s by omega, k6, pM_s]
  have o38 : ∀ i, i ≠ 300 * (3 * g + bi) + s → M1 38 i = M 38 i := fun i hi => by rw [k6, pMi hi, q6, p6]
  have m39 : M1 39 = M 39 := (k4.2.1.1 39 (by decide) (by decide) (by decide) (by decide) (by decide) (by decide)).trans (hM.2.1.1 39 (by decide) (by decide) (by decide) (by decide) (by decide) (by decide)).symm
  have eE : rlE M1 (3 * g + bi) bi (s + 1) = rlE M (3 * g + bi) bi s ++ (hitL bi (s + 1) v1 ++ (hitL bi (s + 1) v2 ++ qW (pM Mi 38 (300 * (3 * g + bi) + s) (nI (v1 + 9 * v2))) (3 * g + bi) bi (s + 1) 2)) := by
    unfold rlE
    rw [List.range_succ, List.flatMap_append, List.flatMap_singleton, entS_v p3 q3 (by omega) e38]
    congr 1
    · exact fm_c (fun q hq => entS_c (o38 _ (by omega)) m39)
    · congr 2
      exact qW2_c ((k4.2.1.1 39 (by decide) (by decide) (by decide) (by decide) (by decide) (by decide)).trans w39.symm) (s + 1)
  refine ⟨S1, M1, cx0.1, y1, cx0.2, sy1, ov, ?_, ?_, ⟨?_, ?_, hsx3, d4, fun q hq => ?_⟩, d6⟩
  · have hout : fX0_isOut S = some 0 := by
      unfold fX0_isOut
      rw [hL.2.1, if_pos (yok_239 hy)]
    have em : nI (s + 1) - nI (s + 1) / (10 : Int32) * (10 : Int32) = nI ((s + 1) % 10) := pk_rem (d := 10) (by omega) (by omega) (by omega)
    unfold bRun9
    dsimp only
    rw [if_neg (by rw [c300I]; exact nI_nlt (by omega) (by omega)), hout, cl_s, if_pos rfl, f1, cl_s, a1, cl2_s, st_s, d1, cl2_s, st_s, p1, cl_s, q1, cl_s, st_s, em]
    by_cases h10 : (s + 1) % 10 = 0
    · rw [h10, if_pos nI_0, k1 h10, cl_s, nI_1]
      show st (nI (s + 2)) _ = _
      rw [st_s]
    · rw [if_neg (nI_ne0 (by omega) (by omega)), k2 h10, nI_1]
      show st (nI (s + 2)) _ = _
      rw [st_s]
  · unfold bRoll
    dsimp only
    rw [st_s, if_pos rfl, if_neg (by rw [c300I]; exact nI_ge (by omega) (by omega)), nI_1, st_s, blA_e, hsf, st_s, st_s, blB_e, o10a, cl_s, st_s, ec, st_s, st_s, st_s]
    rw [d7 (fun y37 y38 y39 x36 => blF M (nI t) (nI (3 * g + bi)) (nI (s + 1)) r1 y39 (fun S => (cx0.1, y37, cx0.2, y38, x36, nI (s + 1), S)))]
    unfold blF
    rw [p2, cl2_s, st_s, q2, cl2_s, ix, cix, gd_t (show ¬ (nI (300 * (3 * g + bi) + s) < 0 ∨ 36000 ≤ 300 * (3 * g + bi) + s) from fun q => q.elim (nI_pos (by omega)) (by omega)), e9, st_s, st_s]
    exact k3 _
  · rw [eE]
    simp only [List.append_assoc] at k4 ⊢
    exact k4
  · unfold BL at d2 ⊢
    rw [eS1]
    exact d2
  · by_cases e : q = s
    · subst e
      exact ⟨v1, v2, p3, q3, by rw [k6, pM_s]⟩
    · rw [o38 _ (by omega)]
      exact h38 q (by omega)
end PRO
