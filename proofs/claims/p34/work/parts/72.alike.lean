/-! WHAT THE LAW CALLS ALIKE: the same rows give the same answers -/
def bAl0 (M : zMs) (I : Nat → Int32) (i_4 : Int32) : (Int32 × Int32) → Option ((Int32 × Int32) ⊕ Int32) := fun (q5 : (Int32 × Int32)) =>
st (fun (u_ : Unit) => (st (0 : Int32) fun x14 =>
lp (fun (q15 : (Int32 × Int32)) => (st (fun (u_ : Unit) => (st (0 : Int32) fun x24 =>
lp (fun (q25 : (Int32 × Int32)) => (if (2 : Int32) ≤ q25.2 then
gd (q25.1 = 0 ∨ q25.1 = 1) (some (.inr (.inr (.inr (q25.1)))))
else
if q25.1 = 0 then
gd (q25.1 = 0 ∨ q25.1 = 1) (some (.inr (.inr (.inr (q25.1)))))
else
st (fun (y33 : Int32) => (st y33 fun x35 =>
st (q25.2 + (1 : Int32)) fun x36 =>
some (.inl (x35, x36)) : Option ((Int32 × Int32) ⊕ ((Int32 × Int32) ⊕ ((Int32 × Int32) ⊕ Int32))))) fun j34 =>
st (fun (u_ : Unit) => (j34 (0 : Int32) : Option ((Int32 × Int32) ⊕ ((Int32 × Int32) ⊕ ((Int32 × Int32) ⊕ Int32))))) fun j37 =>
if (A_vanAt M q25.2) = (A_vanAt M q25.2) then
if (A_parts M q25.2 (0 : Int32)) = (A_parts M q25.2 (0 : Int32)) then
if (A_parts M q25.2 (1 : Int32)) = (A_parts M q25.2 (1 : Int32)) then
if (A_way M q25.2) = (A_way M q25.2) then
if (A_planned M q25.2 (i_4 - i_4 / (3 : Int32) * (3 : Int32))) = (A_planned M q25.2 (i_4 - i_4 / (3 : Int32) * (3 : Int32))) then
j34 (1 : Int32)
else
j37 ()
else
j37 ()
else
j37 ()
else
j37 ()
else
j37 () : Option ((Int32 × Int32) ⊕ ((Int32 × Int32) ⊕ ((Int32 × Int32) ⊕ Int32))))) 3 (q15.1, x24) : Option ((Int32 × Int32) ⊕ ((Int32 × Int32) ⊕ Int32)))) fun j23 =>
if (M 24 0) ≤ q15.2 then
j23 ()
else
if q15.1 = 0 then
j23 ()
else
st (fun (y38 : Int32) => (st y38 fun x40 =>
st (q15.2 + (1 : Int32)) fun x41 =>
some (.inl (x40, x41)) : Option ((Int32 × Int32) ⊕ ((Int32 × Int32) ⊕ Int32)))) fun j39 =>
st (fun (u_ : Unit) => (j39 (0 : Int32) : Option ((Int32 × Int32) ⊕ ((Int32 × Int32) ⊕ Int32)))) fun j42 =>
if (A_score M q15.2) = (A_score M q15.2) then
if (A_balls M q15.2) = (A_balls M q15.2) then
if (A_stack M q15.2) = (A_stack M q15.2) then
st (fun (u_ : Unit) => (j39 (1 : Int32) : Option ((Int32 × Int32) ⊕ ((Int32 × Int32) ⊕ Int32)))) fun j43 =>
if (q15.2 - q15.2 / (4 : Int32) * (4 : Int32)) = (i_4 - i_4 / (4 : Int32) * (4 : Int32)) then
if (A_logged M q15.2) = (A_logged M q15.2) then
if (lg_cmp (A_entry M q15.2 (i_4 - i_4 / (50 : Int32) * (50 : Int32))) (A_entry M q15.2 (i_4 - i_4 / (50 : Int32) * (50 : Int32)))) = 0 then
if (A_valid M q15.2) = (A_valid M q15.2) then
j43 ()
else
j42 ()
else
j42 ()
else
j42 ()
else
j43 ()
else
j42 ()
else
j42 ()
else
j42 () : Option ((Int32 × Int32) ⊕ ((Int32 × Int32) ⊕ Int32)))) 41 (q5.1, x14) : Option ((Int32 × Int32) ⊕ Int32))) fun j13 =>
if (M 1 0) ≤ q5.2 then
j13 ()
else
if q5.1 = 0 then
j13 ()
else
st (fun (y44 : Int32) => (st y44 fun x46 =>
st (0 : Int32) fun x47 =>
lp (fun (q48 : (Int32 × Int32)) => (gd (¬ (q5.2 < 0 ∨ 14 ≤ q5.2.toNatClampNeg)) (
st (fun (u_ : Unit) => (st (q5.2 + (1 : Int32)) fun x57 =>
some (.inr (.inl (q48.1, x57))) : Option ((Int32 × Int32) ⊕ ((Int32 × Int32) ⊕ Int32)))) fun j56 =>
if (I q5.2.toNatClampNeg) ≤ q48.2 then
j56 ()
else
if q48.1 = 0 then
j56 ()
else
st (fun (y58 : Int32) => (st y58 fun x60 =>
st (q48.2 + (1 : Int32)) fun x61 =>
some (.inl (x60, x61)) : Option ((Int32 × Int32) ⊕ ((Int32 × Int32) ⊕ Int32)))) fun j59 =>
st (fun (u_ : Unit) => (j59 (0 : Int32) : Option ((Int32 × Int32) ⊕ ((Int32 × Int32) ⊕ Int32)))) fun j62 =>
if (A_wear M q5.2 q48.2) = (A_wear M q5.2 q48.2) then
if (A_sticks M q5.2 q48.2) = (A_sticks M q5.2 q48.2) then
j59 (1 : Int32)
else
j62 ()
else
j62 ()) : Option ((Int32 × Int32) ⊕ ((Int32 × Int32) ⊕ Int32)))) 9 (x46, x47) : Option ((Int32 × Int32) ⊕ Int32))) fun j45 =>
st (fun (u_ : Unit) => (j45 (0 : Int32) : Option ((Int32 × Int32) ⊕ Int32))) fun j63 =>
if (A_gameAt M q5.2) = (A_gameAt M q5.2) then
if (A_box M q5.2) = (A_box M q5.2) then
if (A_missing M q5.2) = (A_missing M q5.2) then
if (A_high M q5.2 (i_4 - i_4 / (3 : Int32) * (3 : Int32))) = (A_high M q5.2 (i_4 - i_4 / (3 : Int32) * (3 : Int32))) then
j45 (1 : Int32)
else
j63 ()
else
j63 ()
else
j63 ()
else
j63 ()
def bAl1 (M : zMs) (i_4 : Int32) : (Int32 × Int32) → Option ((Int32 × Int32) ⊕ ((Int32 × Int32) ⊕ Int32)) := fun (q15 : (Int32 × Int32)) =>
st (fun (u_ : Unit) => (st (0 : Int32) fun x24 =>
lp (fun (q25 : (Int32 × Int32)) => (if (2 : Int32) ≤ q25.2 then
gd (q25.1 = 0 ∨ q25.1 = 1) (some (.inr (.inr (.inr (q25.1)))))
else
if q25.1 = 0 then
gd (q25.1 = 0 ∨ q25.1 = 1) (some (.inr (.inr (.inr (q25.1)))))
else
st (fun (y33 : Int32) => (st y33 fun x35 =>
st (q25.2 + (1 : Int32)) fun x36 =>
some (.inl (x35, x36)) : Option ((Int32 × Int32) ⊕ ((Int32 × Int32) ⊕ ((Int32 × Int32) ⊕ Int32))))) fun j34 =>
st (fun (u_ : Unit) => (j34 (0 : Int32) : Option ((Int32 × Int32) ⊕ ((Int32 × Int32) ⊕ ((Int32 × Int32) ⊕ Int32))))) fun j37 =>
if (A_vanAt M q25.2) = (A_vanAt M q25.2) then
if (A_parts M q25.2 (0 : Int32)) = (A_parts M q25.2 (0 : Int32)) then
if (A_parts M q25.2 (1 : Int32)) = (A_parts M q25.2 (1 : Int32)) then
if (A_way M q25.2) = (A_way M q25.2) then
if (A_planned M q25.2 (i_4 - i_4 / (3 : Int32) * (3 : Int32))) = (A_planned M q25.2 (i_4 - i_4 / (3 : Int32) * (3 : Int32))) then
j34 (1 : Int32)
else
j37 ()
else
j37 ()
else
j37 ()
else
j37 ()
else
j37 () : Option ((Int32 × Int32) ⊕ ((Int32 × Int32) ⊕ ((Int32 × Int32) ⊕ Int32))))) 3 (q15.1, x24) : Option ((Int32 × Int32) ⊕ ((Int32 × Int32) ⊕ Int32)))) fun j23 =>
if (M 24 0) ≤ q15.2 then
j23 ()
else
if q15.1 = 0 then
j23 ()
else
st (fun (y38 : Int32) => (st y38 fun x40 =>
st (q15.2 + (1 : Int32)) fun x41 =>
some (.inl (x40, x41)) : Option ((Int32 × Int32) ⊕ ((Int32 × Int32) ⊕ Int32)))) fun j39 =>
st (fun (u_ : Unit) => (j39 (0 : Int32) : Option ((Int32 × Int32) ⊕ ((Int32 × Int32) ⊕ Int32)))) fun j42 =>
if (A_score M q15.2) = (A_score M q15.2) then
if (A_balls M q15.2) = (A_balls M q15.2) then
if (A_stack M q15.2) = (A_stack M q15.2) then
st (fun (u_ : Unit) => (j39 (1 : Int32) : Option ((Int32 × Int32) ⊕ ((Int32 × Int32) ⊕ Int32)))) fun j43 =>
if (q15.2 - q15.2 / (4 : Int32) * (4 : Int32)) = (i_4 - i_4 / (4 : Int32) * (4 : Int32)) then
if (A_logged M q15.2) = (A_logged M q15.2) then
if (lg_cmp (A_entry M q15.2 (i_4 - i_4 / (50 : Int32) * (50 : Int32))) (A_entry M q15.2 (i_4 - i_4 / (50 : Int32) * (50 : Int32)))) = 0 then
if (A_valid M q15.2) = (A_valid M q15.2) then
j43 ()
else
j42 ()
else
j42 ()
else
j42 ()
else
j43 ()
else
j42 ()
else
j42 ()
else
j42 ()
def bAl2 (M : zMs) (i_4 : Int32) : (Int32 × Int32) → Option ((Int32 × Int32) ⊕ ((Int32 × Int32) ⊕ ((Int32 × Int32) ⊕ Int32))) := fun (q25 : (Int32 × Int32)) =>
if (2 : Int32) ≤ q25.2 then
gd (q25.1 = 0 ∨ q25.1 = 1) (some (.inr (.inr (.inr (q25.1)))))
else
if q25.1 = 0 then
gd (q25.1 = 0 ∨ q25.1 = 1) (some (.inr (.inr (.inr (q25.1)))))
else
st (fun (y33 : Int32) => (st y33 fun x35 =>
st (q25.2 + (1 : Int32)) fun x36 =>
some (.inl (x35, x36)) : Option ((Int32 × Int32) ⊕ ((Int32 × Int32) ⊕ ((Int32 × Int32) ⊕ Int32))))) fun j34 =>
st (fun (u_ : Unit) => (j34 (0 : Int32) : Option ((Int32 × Int32) ⊕ ((Int32 × Int32) ⊕ ((Int32 × Int32) ⊕ Int32))))) fun j37 =>
if (A_vanAt M q25.2) = (A_vanAt M q25.2) then
if (A_parts M q25.2 (0 : Int32)) = (A_parts M q25.2 (0 : Int32)) then
if (A_parts M q25.2 (1 : Int32)) = (A_parts M q25.2 (1 : Int32)) then
if (A_way M q25.2) = (A_way M q25.2) then
if (A_planned M q25.2 (i_4 - i_4 / (3 : Int32) * (3 : Int32))) = (A_planned M q25.2 (i_4 - i_4 / (3 : Int32) * (3 : Int32))) then
j34 (1 : Int32)
else
j37 ()
else
j37 ()
else
j37 ()
else
j37 ()
else
j37 ()
def bAl3 (M : zMs) (I : Nat → Int32) (q5 : Int32 × Int32) : (Int32 × Int32) → Option ((Int32 × Int32) ⊕ ((Int32 × Int32) ⊕ Int32)) := fun (q48 : (Int32 × Int32)) =>
gd (¬ (q5.2 < 0 ∨ 14 ≤ q5.2.toNatClampNeg)) (
st (fun (u_ : Unit) => (st (q5.2 + (1 : Int32)) fun x57 =>
some (.inr (.inl (q48.1, x57))) : Option ((Int32 × Int32) ⊕ ((Int32 × Int32) ⊕ Int32)))) fun j56 =>
if (I q5.2.toNatClampNeg) ≤ q48.2 then
j56 ()
else
if q48.1 = 0 then
j56 ()
else
st (fun (y58 : Int32) => (st y58 fun x60 =>
st (q48.2 + (1 : Int32)) fun x61 =>
some (.inl (x60, x61)) : Option ((Int32 × Int32) ⊕ ((Int32 × Int32) ⊕ Int32)))) fun j59 =>
st (fun (u_ : Unit) => (j59 (0 : Int32) : Option ((Int32 × Int32) ⊕ ((Int32 × Int32) ⊕ Int32)))) fun j62 =>
if (A_wear M q5.2 q48.2) = (A_wear M q5.2 q48.2) then
if (A_sticks M q5.2 q48.2) = (A_sticks M q5.2 q48.2) then
j59 (1 : Int32)
else
j62 ()
else
j62 ())
section AK
variable {M : zMs} {I : Nat → Int32}
theorem al_v (M : zMs) (x : Int32) : lp (bAl2 M x) 3 (1, 0) = some (.inr (.inr 1)) := by
  refine lp_up (fun k => ((1 : Int32), nI k)) 2 (by omega) ?_ (fun k hk => ?_) ?_
  · show _ = (_, nI 0)
    rw [nI_0]
  · unfold bAl2
    refine if_f (nI_ge (b := 2) hk (by omega)) ?_
    refine if_f i10 ?_
    refine st_j ?_
    refine st_j ?_
    refine if_t rfl ?_
    refine if_t rfl ?_
    refine if_t rfl ?_
    refine if_t rfl ?_
    refine if_t rfl ?_
    refine st_j ?_
    refine st_v (nI_1 k) ?_
    rfl
  · unfold bAl2
    refine if_t (Int32.le_refl _) ?_
    exact gd_of (Or.inr rfl) rfl
theorem al_g (h : WM M) (x : Int32) : lp (bAl1 M x) 41 (1, 0) = some (.inr 1) := by
  have h4 := nG40 h
  refine lp_up (fun k => ((1 : Int32), nI k)) (nG M) (by omega) ?_ (fun k hk => ?_) ?_
  · show _ = (_, nI 0)
    rw [nI_0]
  · unfold bAl1
    refine st_j ?_
    refine if_f (by rw [nG_e h]; exact nI_ge hk (by omega)) ?_
    refine if_f i10 ?_
    refine st_j ?_
    refine st_j ?_
    refine if_t rfl ?_
    refine if_t rfl ?_
    refine if_t rfl ?_
    refine st_j ?_
    by_cases hq : nI k - nI k / 4 * 4 = x - x / 4 * 4
    · refine if_t hq ?_
      refine if_t rfl ?_
      refine if_t (lg_same _) ?_
      refine if_t rfl ?_
      refine st_j ?_
      refine st_v (nI_1 k) ?_
      rfl
    · refine if_f hq ?_
      refine st_j ?_
      refine st_v (nI_1 k) ?_
      rfl
  · unfold bAl1
    refine st_j ?_
    refine if_t (by rw [nG_e h]; exact Int32.le_refl _) ?_
    refine st_j ?_
    exact al_v M x
theorem al_b (h : WM M) (hI : ∀ t, t < 6 → I t = nI (nB M t)) {t : Nat} (ht : t < 6) : lp (bAl3 M I (1, nI t)) 9 (1, 0) = some (.inl (1, nI (t + 1))) := by
  have h8 := nB8 h ht
  refine lp_up (fun k => ((1 : Int32), nI k)) (nB M t) (by omega) ?_ (fun k hk => ?_) ?_
  · show _ = (_, nI 0)
    rw [nI_0]
  · unfold bAl3
    refine gd_of (nI_in (by omega) (by omega)) ?_
    refine st_j ?_
    refine if_f (by rw [nI_clamp (by omega), hI t ht]; exact nI_ge hk (by omega)) ?_
    refine if_f i10 ?_
    refine st_j ?_
    refine st_j ?_
    refine if_t rfl ?_
    refine if_t rfl ?_
    refine st_j ?_
    refine st_v (nI_1 k) ?_
    rfl
  · unfold bAl3
    refine gd_of (nI_in (by omega) (by omega)) ?_
    refine st_j ?_
    refine if_t (by rw [nI_clamp (by omega), hI t ht]; exact Int32.le_refl _) ?_
    refine st_v (nI_1 t) ?_
    rfl
theorem al_0 (h : WM M) (hI : ∀ t, t < 6 → I t = nI (nB M t)) (x : Int32) : lp (bAl0 M I x) 7 (1, 0) = some 1 := by
  have h6 := nT6 h
  refine lp_up (fun k => ((1 : Int32), nI k)) (nT M) (by omega) ?_ (fun k hk => ?_) ?_
  · show _ = (_, nI 0)
    rw [nI_0]
  · unfold bAl0
    refine st_j ?_
    refine if_f (by rw [nT_e h]; exact nI_ge hk (by omega)) ?_
    refine if_f i10 ?_
    refine st_j ?_
    refine st_j ?_
    refine if_t rfl ?_
    refine if_t rfl ?_
    refine if_t rfl ?_
    refine if_t rfl ?_
    refine st_j ?_
    refine st_j ?_
    exact al_b h hI (by omega)
  · unfold bAl0
    refine st_j ?_
    refine if_t (by rw [nT_e h]; exact Int32.le_refl _) ?_
    refine st_j ?_
    exact al_g h x
theorem alike_ok (h : WM M) (hI : ∀ t, t < 6 → I t = nI (nB M t)) (x : Int32) : fL_alike M I x = some 1 := by
  unfold fL_alike
  refine st_j ?_
  refine st_j ?_
  refine if_t rfl ?_
  refine if_t rfl ?_
  refine if_t rfl ?_
  refine if_t rfl ?_
  refine st_j ?_
  refine st_j ?_
  exact al_0 h hI x
end AK
