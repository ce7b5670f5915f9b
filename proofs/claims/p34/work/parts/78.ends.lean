/-! WHAT THE LAW CALLS ENDS: it answers 1, and what holds still holds -/
def bEn0 (I : Nat → Int32) (i_3 : Int32) : (Int32 × Int32 × zMs) → Option ((Int32 × Int32 × zMs) ⊕ (Int32 × zMs)) := fun (q4 : (Int32 × Int32 × zMs)) =>
st (fun (u_ : Unit) => (st (0 : Int32) fun x13 =>
lp (fun (q14 : (Int32 × Int32 × zMs)) => (st (fun (u_ : Unit) => (st (0 : Int32) fun x23 =>
lp (fun (q24 : (Int32 × Int32)) => (st (fun (u_ : Unit) => (st (0 : Int32) fun x33 =>
lp (fun (q34 : (Int32 × Int32)) => (st (fun (u_ : Unit) => (st (fun (M43 : zMs) => (gd ((0 : Int32) = 0 ∨ (0 : Int32) = 1) (some (.inr (.inr (.inr (.inr (((0 : Int32), M43))))))) : Option ((Int32 × Int32) ⊕ ((Int32 × Int32) ⊕ ((Int32 × Int32 × zMs) ⊕ ((Int32 × Int32 × zMs) ⊕ (Int32 × zMs))))))) fun j44 =>
if q34.1 = 0 then
j44 q14.2.2
else
if (A_wanted q14.2.2 (0 : Int32)) = 0 then
if (A_wanted q14.2.2 (1 : Int32)) = 0 then
st (N_go q14.2.2 (0 : Int32)) fun M45 =>
if (A_go q14.2.2 (0 : Int32)) = (-2000000003 : Int32) then
st (N_go M45 (1 : Int32)) fun M46 =>
if (A_go M45 (1 : Int32)) = (-2000000003 : Int32) then
gd ((1 : Int32) = 0 ∨ (1 : Int32) = 1) (some (.inr (.inr (.inr (.inr (((1 : Int32), M46)))))))
else
j44 M46
else
j44 M45
else
j44 q14.2.2
else
j44 q14.2.2 : Option ((Int32 × Int32) ⊕ ((Int32 × Int32) ⊕ ((Int32 × Int32 × zMs) ⊕ ((Int32 × Int32 × zMs) ⊕ (Int32 × zMs))))))) fun j42 =>
if (q14.2.2 24 0) ≤ q34.2 then
j42 ()
else
if q34.1 = 0 then
j42 ()
else
st (1 : Int32) fun x47 =>
st ((A_logged q14.2.2 q34.2) - (1 : Int32)) fun x48 =>
lp (fun (q49 : (Int32 × Int32)) => (st (fun (u_ : Unit) => (st (fun (y58 : Int32) => (st y58 fun x60 =>
st (q34.2 + (1 : Int32)) fun x61 =>
some (.inr (.inl (x60, x61))) : Option ((Int32 × Int32) ⊕ ((Int32 × Int32) ⊕ ((Int32 × Int32) ⊕ ((Int32 × Int32 × zMs) ⊕ ((Int32 × Int32 × zMs) ⊕ (Int32 × zMs)))))))) fun j59 =>
st (fun (u_ : Unit) => (j59 (1 : Int32) : Option ((Int32 × Int32) ⊕ ((Int32 × Int32) ⊕ ((Int32 × Int32) ⊕ ((Int32 × Int32 × zMs) ⊕ ((Int32 × Int32 × zMs) ⊕ (Int32 × zMs)))))))) fun j62 =>
if q49.1 = 0 then
j62 ()
else
if (A_valid q14.2.2 q34.2) = (A_score q14.2.2 q34.2) then
j62 ()
else
j59 (0 : Int32) : Option ((Int32 × Int32) ⊕ ((Int32 × Int32) ⊕ ((Int32 × Int32) ⊕ ((Int32 × Int32 × zMs) ⊕ ((Int32 × Int32 × zMs) ⊕ (Int32 × zMs)))))))) fun j57 =>
if q49.2 < 0 then
j57 ()
else
if q49.1 = 0 then
j57 ()
else
st (fun (y63 : Int32) => (st y63 fun x65 =>
st (q49.2 + (-1 : Int32)) fun x66 =>
some (.inl (x65, x66)) : Option ((Int32 × Int32) ⊕ ((Int32 × Int32) ⊕ ((Int32 × Int32) ⊕ ((Int32 × Int32 × zMs) ⊕ ((Int32 × Int32 × zMs) ⊕ (Int32 × zMs)))))))) fun j64 =>
if 0 ≤ (lg_cmp (A_entry q14.2.2 q34.2 q49.2) (1048576 : Int64)) then
j64 (0 : Int32)
else
j64 (1 : Int32) : Option ((Int32 × Int32) ⊕ ((Int32 × Int32) ⊕ ((Int32 × Int32) ⊕ ((Int32 × Int32 × zMs) ⊕ ((Int32 × Int32 × zMs) ⊕ (Int32 × zMs)))))))) 2522 (x47, x48) : Option ((Int32 × Int32) ⊕ ((Int32 × Int32) ⊕ ((Int32 × Int32 × zMs) ⊕ ((Int32 × Int32 × zMs) ⊕ (Int32 × zMs))))))) 41 (q24.1, x33) : Option ((Int32 × Int32) ⊕ ((Int32 × Int32 × zMs) ⊕ ((Int32 × Int32 × zMs) ⊕ (Int32 × zMs)))))) fun j32 =>
if (q14.2.2 1 0) ≤ q24.2 then
j32 ()
else
if q24.1 = 0 then
j32 ()
else
st (fun (y67 : Int32) => (st y67 fun x69 =>
st (0 : Int32) fun x70 =>
lp (fun (q71 : (Int32 × Int32)) => (gd (¬ (q24.2 < 0 ∨ 14 ≤ q24.2.toNatClampNeg)) (
st (fun (u_ : Unit) => (st (q24.2 + (1 : Int32)) fun x80 =>
some (.inr (.inl (q71.1, x80))) : Option ((Int32 × Int32) ⊕ ((Int32 × Int32) ⊕ ((Int32 × Int32 × zMs) ⊕ ((Int32 × Int32 × zMs) ⊕ (Int32 × zMs))))))) fun j79 =>
if (I q24.2.toNatClampNeg) ≤ q71.2 then
j79 ()
else
if q71.1 = 0 then
j79 ()
else
st (fun (y81 : Int32) => (st y81 fun x83 =>
st (q71.2 + (1 : Int32)) fun x84 =>
some (.inl (x83, x84)) : Option ((Int32 × Int32) ⊕ ((Int32 × Int32) ⊕ ((Int32 × Int32 × zMs) ⊕ ((Int32 × Int32 × zMs) ⊕ (Int32 × zMs))))))) fun j82 =>
st (fun (u_ : Unit) => (j82 (0 : Int32) : Option ((Int32 × Int32) ⊕ ((Int32 × Int32) ⊕ ((Int32 × Int32 × zMs) ⊕ ((Int32 × Int32 × zMs) ⊕ (Int32 × zMs))))))) fun j85 =>
if (A_sticks q14.2.2 q24.2 q71.2) = 0 then
if (40 : Int32) ≤ (A_wear q14.2.2 q24.2 q71.2) then
j85 ()
else
j82 (1 : Int32)
else
j85 ()) : Option ((Int32 × Int32) ⊕ ((Int32 × Int32) ⊕ ((Int32 × Int32 × zMs) ⊕ ((Int32 × Int32 × zMs) ⊕ (Int32 × zMs))))))) 9 (x69, x70) : Option ((Int32 × Int32) ⊕ ((Int32 × Int32 × zMs) ⊕ ((Int32 × Int32 × zMs) ⊕ (Int32 × zMs)))))) fun j68 =>
if (20 : Int32) ≤ (A_box q14.2.2 q24.2) then
j68 (0 : Int32)
else
j68 (1 : Int32) : Option ((Int32 × Int32) ⊕ ((Int32 × Int32 × zMs) ⊕ ((Int32 × Int32 × zMs) ⊕ (Int32 × zMs)))))) 7 (q14.1, x23) : Option ((Int32 × Int32 × zMs) ⊕ ((Int32 × Int32 × zMs) ⊕ (Int32 × zMs))))) fun j22 =>
if (12 : Int32) ≤ q14.2.1 then
j22 ()
else
if q14.1 = 0 then
j22 ()
else
if ((A_way q14.2.2 (0 : Int32)) + (A_planned q14.2.2 (0 : Int32) (0 : Int32))) < 0 then
j22 ()
else
st (0 : Int32) fun x86 =>
st (0 : Int32) fun x87 =>
lp (fun (q88 : (Int32 × Int32)) => (if (A_planned q14.2.2 (0 : Int32) q88.2) < 0 then
st (0 : Int32) fun x96 =>
lp (fun (q97 : (Int32 × Int32 × zMs)) => (st (fun (u_ : Unit) => (st (fun (y106 : Int32) (M107 : zMs) => (st y106 fun x109 =>
st (q14.2.1 + (1 : Int32)) fun x110 =>
some (.inr (.inr (.inl (x109, x110, M107)))) : Option ((Int32 × Int32 × zMs) ⊕ ((Int32 × Int32) ⊕ ((Int32 × Int32 × zMs) ⊕ ((Int32 × Int32 × zMs) ⊕ (Int32 × zMs))))))) fun j108 =>
st (fun (M111 : zMs) => (j108 (0 : Int32) M111 : Option ((Int32 × Int32 × zMs) ⊕ ((Int32 × Int32) ⊕ ((Int32 × Int32 × zMs) ⊕ ((Int32 × Int32 × zMs) ⊕ (Int32 × zMs))))))) fun j112 =>
if q97.1 = 0 then
j112 q97.2.2
else
st (N_go q97.2.2 (0 : Int32)) fun M113 =>
if (A_go q97.2.2 (0 : Int32)) = q88.1 then
j108 (1 : Int32) M113
else
j112 M113 : Option ((Int32 × Int32 × zMs) ⊕ ((Int32 × Int32) ⊕ ((Int32 × Int32 × zMs) ⊕ ((Int32 × Int32 × zMs) ⊕ (Int32 × zMs))))))) fun j105 =>
if (2 : Int32) ≤ q97.2.1 then
j105 ()
else
if q97.1 = 0 then
j105 ()
else
st ((20 : Int32) - (A_parts q97.2.2 (0 : Int32) q97.2.1)) fun x114 =>
st (fun (y115 : Int32) (M116 : zMs) => (st y115 fun x118 =>
st (q97.2.1 + (1 : Int32)) fun x119 =>
some (.inl (x118, x119, M116)) : Option ((Int32 × Int32 × zMs) ⊕ ((Int32 × Int32) ⊕ ((Int32 × Int32 × zMs) ⊕ ((Int32 × Int32 × zMs) ⊕ (Int32 × zMs))))))) fun j117 =>
st (fun (M120 : zMs) => (j117 (1 : Int32) M120 : Option ((Int32 × Int32 × zMs) ⊕ ((Int32 × Int32) ⊕ ((Int32 × Int32 × zMs) ⊕ ((Int32 × Int32 × zMs) ⊕ (Int32 × zMs))))))) fun j121 =>
if x114 = 0 then
j121 q97.2.2
else
st (N_load q97.2.2 (0 : Int32) q97.2.1 x114) fun M122 =>
if (A_load q97.2.2 (0 : Int32) q97.2.1 x114) = (20 : Int32) then
j121 M122
else
j117 (0 : Int32) M122 : Option ((Int32 × Int32 × zMs) ⊕ ((Int32 × Int32) ⊕ ((Int32 × Int32 × zMs) ⊕ ((Int32 × Int32 × zMs) ⊕ (Int32 × zMs))))))) 3 (q14.1, x96, q14.2.2)
else
st (q88.1 + (A_box q14.2.2 (A_planned q14.2.2 (0 : Int32) q88.2))) fun x123 =>
st (q88.2 + (1 : Int32)) fun x124 =>
some (.inl (x123, x124)) : Option ((Int32 × Int32) ⊕ ((Int32 × Int32 × zMs) ⊕ ((Int32 × Int32 × zMs) ⊕ (Int32 × zMs)))))) 8 (x86, x87) : Option ((Int32 × Int32 × zMs) ⊕ ((Int32 × Int32 × zMs) ⊕ (Int32 × zMs))))) 13 (q4.1, x13, q4.2.2) : Option ((Int32 × Int32 × zMs) ⊕ (Int32 × zMs)))) fun j12 =>
if (q4.2.2 1 0) ≤ q4.2.1 then
j12 ()
else
if q4.1 = 0 then
j12 ()
else
lp (fun (q125 : (Int32 × zMs)) => (st (fun (u_ : Unit) => (st (q4.2.1 + (1 : Int32)) fun x134 =>
some (.inr (.inl (q125.1, x134, q125.2))) : Option ((Int32 × zMs) ⊕ ((Int32 × Int32 × zMs) ⊕ (Int32 × zMs))))) fun j133 =>
if (A_gameAt q125.2 q4.2.1) < 0 then
j133 ()
else
if q125.1 = 0 then
j133 ()
else
st (A_gameAt q125.2 q4.2.1) fun x135 =>
st (A_balls q125.2 x135) fun x136 =>
st (A_score q125.2 x135) fun x137 =>
st (N_shoot q125.2 q4.2.1 (i_3 - i_3 / (160 : Int32) * (160 : Int32)) (((i_3 / (160 : Int32)) - (i_3 / (160 : Int32)) / (61 : Int32) * (61 : Int32)) - (30 : Int32)) (0 : Int32)) fun M138 =>
st (A_shoot q125.2 q4.2.1 (i_3 - i_3 / (160 : Int32) * (160 : Int32)) (((i_3 / (160 : Int32)) - (i_3 / (160 : Int32)) / (61 : Int32) * (61 : Int32)) - (30 : Int32)) (0 : Int32)) fun x139 =>
st (fun (y140 : Int32) (M141 : zMs) => (st y140 fun x143 =>
some (.inl (x143, M141)) : Option ((Int32 × zMs) ⊕ ((Int32 × Int32 × zMs) ⊕ (Int32 × zMs))))) fun j142 =>
st (fun (M144 : zMs) => (j142 (0 : Int32) M144 : Option ((Int32 × zMs) ⊕ ((Int32 × Int32 × zMs) ⊕ (Int32 × zMs))))) fun j145 =>
if x139 < 0 then
j145 M138
else
if (A_score M138 x135) = (x137 + x139) then
if (A_balls M138 x135) = (x136 - (1 : Int32)) then
if (A_byLog M138 x135) = (x137 + x139) then
j142 (1 : Int32) M138
else
j145 M138
else
j145 M138
else
j145 M138 : Option ((Int32 × zMs) ⊕ ((Int32 × Int32 × zMs) ⊕ (Int32 × zMs))))) 5 (q4.1, q4.2.2)
def bEn1 (I : Nat → Int32) : (Int32 × Int32 × zMs) → Option ((Int32 × Int32 × zMs) ⊕ ((Int32 × Int32 × zMs) ⊕ (Int32 × zMs))) := fun (q14 : (Int32 × Int32 × zMs)) =>
st (fun (u_ : Unit) => (st (0 : Int32) fun x23 =>
lp (fun (q24 : (Int32 × Int32)) => (st (fun (u_ : Unit) => (st (0 : Int32) fun x33 =>
lp (fun (q34 : (Int32 × Int32)) => (st (fun (u_ : Unit) => (st (fun (M43 : zMs) => (gd ((0 : Int32) = 0 ∨ (0 : Int32) = 1) (some (.inr (.inr (.inr (.inr (((0 : Int32), M43))))))) : Option ((Int32 × Int32) ⊕ ((Int32 × Int32) ⊕ ((Int32 × Int32 × zMs) ⊕ ((Int32 × Int32 × zMs) ⊕ (Int32 × zMs))))))) fun j44 =>
if q34.1 = 0 then
j44 q14.2.2
else
if (A_wanted q14.2.2 (0 : Int32)) = 0 then
if (A_wanted q14.2.2 (1 : Int32)) = 0 then
st (N_go q14.2.2 (0 : Int32)) fun M45 =>
if (A_go q14.2.2 (0 : Int32)) = (-2000000003 : Int32) then
st (N_go M45 (1 : Int32)) fun M46 =>
if (A_go M45 (1 : Int32)) = (-2000000003 : Int32) then
gd ((1 : Int32) = 0 ∨ (1 : Int32) = 1) (some (.inr (.inr (.inr (.inr (((1 : Int32), M46)))))))
else
j44 M46
else
j44 M45
else
j44 q14.2.2
else
j44 q14.2.2 : Option ((Int32 × Int32) ⊕ ((Int32 × Int32) ⊕ ((Int32 × Int32 × zMs) ⊕ ((Int32 × Int32 × zMs) ⊕ (Int32 × zMs))))))) fun j42 =>
if (q14.2.2 24 0) ≤ q34.2 then
j42 ()
else
if q34.1 = 0 then
j42 ()
else
st (1 : Int32) fun x47 =>
st ((A_logged q14.2.2 q34.2) - (1 : Int32)) fun x48 =>
lp (fun (q49 : (Int32 × Int32)) => (st (fun (u_ : Unit) => (st (fun (y58 : Int32) => (st y58 fun x60 =>
st (q34.2 + (1 : Int32)) fun x61 =>
some (.inr (.inl (x60, x61))) : Option ((Int32 × Int32) ⊕ ((Int32 × Int32) ⊕ ((Int32 × Int32) ⊕ ((Int32 × Int32 × zMs) ⊕ ((Int32 × Int32 × zMs) ⊕ (Int32 × zMs)))))))) fun j59 =>
st (fun (u_ : Unit) => (j59 (1 : Int32) : Option ((Int32 × Int32) ⊕ ((Int32 × Int32) ⊕ ((Int32 × Int32) ⊕ ((Int32 × Int32 × zMs) ⊕ ((Int32 × Int32 × zMs) ⊕ (Int32 × zMs)))))))) fun j62 =>
if q49.1 = 0 then
j62 ()
else
if (A_valid q14.2.2 q34.2) = (A_score q14.2.2 q34.2) then
j62 ()
else
j59 (0 : Int32) : Option ((Int32 × Int32) ⊕ ((Int32 × Int32) ⊕ ((Int32 × Int32) ⊕ ((Int32 × Int32 × zMs) ⊕ ((Int32 × Int32 × zMs) ⊕ (Int32 × zMs)))))))) fun j57 =>
if q49.2 < 0 then
j57 ()
else
if q49.1 = 0 then
j57 ()
else
st (fun (y63 : Int32) => (st y63 fun x65 =>
st (q49.2 + (-1 : Int32)) fun x66 =>
some (.inl (x65, x66)) : Option ((Int32 × Int32) ⊕ ((Int32 × Int32) ⊕ ((Int32 × Int32) ⊕ ((Int32 × Int32 × zMs) ⊕ ((Int32 × Int32 × zMs) ⊕ (Int32 × zMs)))))))) fun j64 =>
if 0 ≤ (lg_cmp (A_entry q14.2.2 q34.2 q49.2) (1048576 : Int64)) then
j64 (0 : Int32)
else
j64 (1 : Int32) : Option ((Int32 × Int32) ⊕ ((Int32 × Int32) ⊕ ((Int32 × Int32) ⊕ ((Int32 × Int32 × zMs) ⊕ ((Int32 × Int32 × zMs) ⊕ (Int32 × zMs)))))))) 2522 (x47, x48) : Option ((Int32 × Int32) ⊕ ((Int32 × Int32) ⊕ ((Int32 × Int32 × zMs) ⊕ ((Int32 × Int32 × zMs) ⊕ (Int32 × zMs))))))) 41 (q24.1, x33) : Option ((Int32 × Int32) ⊕ ((Int32 × Int32 × zMs) ⊕ ((Int32 × Int32 × zMs) ⊕ (Int32 × zMs)))))) fun j32 =>
if (q14.2.2 1 0) ≤ q24.2 then
j32 ()
else
if q24.1 = 0 then
j32 ()
else
st (fun (y67 : Int32) => (st y67 fun x69 =>
st (0 : Int32) fun x70 =>
lp (fun (q71 : (Int32 × Int32)) => (gd (¬ (q24.2 < 0 ∨ 14 ≤ q24.2.toNatClampNeg)) (
st (fun (u_ : Unit) => (st (q24.2 + (1 : Int32)) fun x80 =>
some (.inr (.inl (q71.1, x80))) : Option ((Int32 × Int32) ⊕ ((Int32 × Int32) ⊕ ((Int32 × Int32 × zMs) ⊕ ((Int32 × Int32 × zMs) ⊕ (Int32 × zMs))))))) fun j79 =>
if (I q24.2.toNatClampNeg) ≤ q71.2 then
j79 ()
else
if q71.1 = 0 then
j79 ()
else
st (fun (y81 : Int32) => (st y81 fun x83 =>
st (q71.2 + (1 : Int32)) fun x84 =>
some (.inl (x83, x84)) : Option ((Int32 × Int32) ⊕ ((Int32 × Int32) ⊕ ((Int32 × Int32 × zMs) ⊕ ((Int32 × Int32 × zMs) ⊕ (Int32 × zMs))))))) fun j82 =>
st (fun (u_ : Unit) => (j82 (0 : Int32) : Option ((Int32 × Int32) ⊕ ((Int32 × Int32) ⊕ ((Int32 × Int32 × zMs) ⊕ ((Int32 × Int32 × zMs) ⊕ (Int32 × zMs))))))) fun j85 =>
if (A_sticks q14.2.2 q24.2 q71.2) = 0 then
if (40 : Int32) ≤ (A_wear q14.2.2 q24.2 q71.2) then
j85 ()
else
j82 (1 : Int32)
else
j85 ()) : Option ((Int32 × Int32) ⊕ ((Int32 × Int32) ⊕ ((Int32 × Int32 × zMs) ⊕ ((Int32 × Int32 × zMs) ⊕ (Int32 × zMs))))))) 9 (x69, x70) : Option ((Int32 × Int32) ⊕ ((Int32 × Int32 × zMs) ⊕ ((Int32 × Int32 × zMs) ⊕ (Int32 × zMs)))))) fun j68 =>
if (20 : Int32) ≤ (A_box q14.2.2 q24.2) then
j68 (0 : Int32)
else
j68 (1 : Int32) : Option ((Int32 × Int32) ⊕ ((Int32 × Int32 × zMs) ⊕ ((Int32 × Int32 × zMs) ⊕ (Int32 × zMs)))))) 7 (q14.1, x23) : Option ((Int32 × Int32 × zMs) ⊕ ((Int32 × Int32 × zMs) ⊕ (Int32 × zMs))))) fun j22 =>
if (12 : Int32) ≤ q14.2.1 then
j22 ()
else
if q14.1 = 0 then
j22 ()
else
if ((A_way q14.2.2 (0 : Int32)) + (A_planned q14.2.2 (0 : Int32) (0 : Int32))) < 0 then
j22 ()
else
st (0 : Int32) fun x86 =>
st (0 : Int32) fun x87 =>
lp (fun (q88 : (Int32 × Int32)) => (if (A_planned q14.2.2 (0 : Int32) q88.2) < 0 then
st (0 : Int32) fun x96 =>
lp (fun (q97 : (Int32 × Int32 × zMs)) => (st (fun (u_ : Unit) => (st (fun (y106 : Int32) (M107 : zMs) => (st y106 fun x109 =>
st (q14.2.1 + (1 : Int32)) fun x110 =>
some (.inr (.inr (.inl (x109, x110, M107)))) : Option ((Int32 × Int32 × zMs) ⊕ ((Int32 × Int32) ⊕ ((Int32 × Int32 × zMs) ⊕ ((Int32 × Int32 × zMs) ⊕ (Int32 × zMs))))))) fun j108 =>
st (fun (M111 : zMs) => (j108 (0 : Int32) M111 : Option ((Int32 × Int32 × zMs) ⊕ ((Int32 × Int32) ⊕ ((Int32 × Int32 × zMs) ⊕ ((Int32 × Int32 × zMs) ⊕ (Int32 × zMs))))))) fun j112 =>
if q97.1 = 0 then
j112 q97.2.2
else
st (N_go q97.2.2 (0 : Int32)) fun M113 =>
if (A_go q97.2.2 (0 : Int32)) = q88.1 then
j108 (1 : Int32) M113
else
j112 M113 : Option ((Int32 × Int32 × zMs) ⊕ ((Int32 × Int32) ⊕ ((Int32 × Int32 × zMs) ⊕ ((Int32 × Int32 × zMs) ⊕ (Int32 × zMs))))))) fun j105 =>
if (2 : Int32) ≤ q97.2.1 then
j105 ()
else
if q97.1 = 0 then
j105 ()
else
st ((20 : Int32) - (A_parts q97.2.2 (0 : Int32) q97.2.1)) fun x114 =>
st (fun (y115 : Int32) (M116 : zMs) => (st y115 fun x118 =>
st (q97.2.1 + (1 : Int32)) fun x119 =>
some (.inl (x118, x119, M116)) : Option ((Int32 × Int32 × zMs) ⊕ ((Int32 × Int32) ⊕ ((Int32 × Int32 × zMs) ⊕ ((Int32 × Int32 × zMs) ⊕ (Int32 × zMs))))))) fun j117 =>
st (fun (M120 : zMs) => (j117 (1 : Int32) M120 : Option ((Int32 × Int32 × zMs) ⊕ ((Int32 × Int32) ⊕ ((Int32 × Int32 × zMs) ⊕ ((Int32 × Int32 × zMs) ⊕ (Int32 × zMs))))))) fun j121 =>
if x114 = 0 then
j121 q97.2.2
else
st (N_load q97.2.2 (0 : Int32) q97.2.1 x114) fun M122 =>
if (A_load q97.2.2 (0 : Int32) q97.2.1 x114) = (20 : Int32) then
j121 M122
else
j117 (0 : Int32) M122 : Option ((Int32 × Int32 × zMs) ⊕ ((Int32 × Int32) ⊕ ((Int32 × Int32 × zMs) ⊕ ((Int32 × Int32 × zMs) ⊕ (Int32 × zMs))))))) 3 (q14.1, x96, q14.2.2)
else
st (q88.1 + (A_box q14.2.2 (A_planned q14.2.2 (0 : Int32) q88.2))) fun x123 =>
st (q88.2 + (1 : Int32)) fun x124 =>
some (.inl (x123, x124)) : Option ((Int32 × Int32) ⊕ ((Int32 × Int32 × zMs) ⊕ ((Int32 × Int32 × zMs) ⊕ (Int32 × zMs)))))) 8 (x86, x87)
def bEn2 (I : Nat → Int32) (q14 : Int32 × Int32 × zMs) : (Int32 × Int32) → Option ((Int32 × Int32) ⊕ ((Int32 × Int32 × zMs) ⊕ ((Int32 × Int32 × zMs) ⊕ (Int32 × zMs)))) := fun (q24 : (Int32 × Int32)) =>
st (fun (u_ : Unit) => (st (0 : Int32) fun x33 =>
lp (fun (q34 : (Int32 × Int32)) => (st (fun (u_ : Unit) => (st (fun (M43 : zMs) => (gd ((0 : Int32) = 0 ∨ (0 : Int32) = 1) (some (.inr (.inr (.inr (.inr (((0 : Int32), M43))))))) : Option ((Int32 × Int32) ⊕ ((Int32 × Int32) ⊕ ((Int32 × Int32 × zMs) ⊕ ((Int32 × Int32 × zMs) ⊕ (Int32 × zMs))))))) fun j44 =>
if q34.1 = 0 then
j44 q14.2.2
else
if (A_wanted q14.2.2 (0 : Int32)) = 0 then
if (A_wanted q14.2.2 (1 : Int32)) = 0 then
st (N_go q14.2.2 (0 : Int32)) fun M45 =>
if (A_go q14.2.2 (0 : Int32)) = (-2000000003 : Int32) then
st (N_go M45 (1 : Int32)) fun M46 =>
if (A_go M45 (1 : Int32)) = (-2000000003 : Int32) then
gd ((1 : Int32) = 0 ∨ (1 : Int32) = 1) (some (.inr (.inr (.inr (.inr (((1 : Int32), M46)))))))
else
j44 M46
else
j44 M45
else
j44 q14.2.2
else
j44 q14.2.2 : Option ((Int32 × Int32) ⊕ ((Int32 × Int32) ⊕ ((Int32 × Int32 × zMs) ⊕ ((Int32 × Int32 × zMs) ⊕ (Int32 × zMs))))))) fun j42 =>
if (q14.2.2 24 0) ≤ q34.2 then
j42 ()
else
if q34.1 = 0 then
j42 ()
else
st (1 : Int32) fun x47 =>
st ((A_logged q14.2.2 q34.2) - (1 : Int32)) fun x48 =>
lp (fun (q49 : (Int32 × Int32)) => (st (fun (u_ : Unit) => (st (fun (y58 : Int32) => (st y58 fun x60 =>
st (q34.2 + (1 : Int32)) fun x61 =>
some (.inr (.inl (x60, x61))) : Option ((Int32 × Int32) ⊕ ((Int32 × Int32) ⊕ ((Int32 × Int32) ⊕ ((Int32 × Int32 × zMs) ⊕ ((Int32 × Int32 × zMs) ⊕ (Int32 × zMs)))))))) fun j59 =>
st (fun (u_ : Unit) => (j59 (1 : Int32) : Option ((Int32 × Int32) ⊕ ((Int32 × Int32) ⊕ ((Int32 × Int32) ⊕ ((Int32 × Int32 × zMs) ⊕ ((Int32 × Int32 × zMs) ⊕ (Int32 × zMs)))))))) fun j62 =>
if q49.1 = 0 then
j62 ()
else
if (A_valid q14.2.2 q34.2) = (A_score q14.2.2 q34.2) then
j62 ()
else
j59 (0 : Int32) : Option ((Int32 × Int32) ⊕ ((Int32 × Int32) ⊕ ((Int32 × Int32) ⊕ ((Int32 × Int32 × zMs) ⊕ ((Int32 × Int32 × zMs) ⊕ (Int32 × zMs)))))))) fun j57 =>
if q49.2 < 0 then
j57 ()
else
if q49.1 = 0 then
j57 ()
else
st (fun (y63 : Int32) => (st y63 fun x65 =>
st (q49.2 + (-1 : Int32)) fun x66 =>
some (.inl (x65, x66)) : Option ((Int32 × Int32) ⊕ ((Int32 × Int32) ⊕ ((Int32 × Int32) ⊕ ((Int32 × Int32 × zMs) ⊕ ((Int32 × Int32 × zMs) ⊕ (Int32 × zMs)))))))) fun j64 =>
if 0 ≤ (lg_cmp (A_entry q14.2.2 q34.2 q49.2) (1048576 : Int64)) then
j64 (0 : Int32)
else
j64 (1 : Int32) : Option ((Int32 × Int32) ⊕ ((Int32 × Int32) ⊕ ((Int32 × Int32) ⊕ ((Int32 × Int32 × zMs) ⊕ ((Int32 × Int32 × zMs) ⊕ (Int32 × zMs)))))))) 2522 (x47, x48) : Option ((Int32 × Int32) ⊕ ((Int32 × Int32) ⊕ ((Int32 × Int32 × zMs) ⊕ ((Int32 × Int32 × zMs) ⊕ (Int32 × zMs))))))) 41 (q24.1, x33) : Option ((Int32 × Int32) ⊕ ((Int32 × Int32 × zMs) ⊕ ((Int32 × Int32 × zMs) ⊕ (Int32 × zMs)))))) fun j32 =>
if (q14.2.2 1 0) ≤ q24.2 then
j32 ()
else
if q24.1 = 0 then
j32 ()
else
st (fun (y67 : Int32) => (st y67 fun x69 =>
st (0 : Int32) fun x70 =>
lp (fun (q71 : (Int32 × Int32)) => (gd (¬ (q24.2 < 0 ∨ 14 ≤ q24.2.toNatClampNeg)) (
st (fun (u_ : Unit) => (st (q24.2 + (1 : Int32)) fun x80 =>
some (.inr (.inl (q71.1, x80))) : Option ((Int32 × Int32) ⊕ ((Int32 × Int32) ⊕ ((Int32 × Int32 × zMs) ⊕ ((Int32 × Int32 × zMs) ⊕ (Int32 × zMs))))))) fun j79 =>
if (I q24.2.toNatClampNeg) ≤ q71.2 then
j79 ()
else
if q71.1 = 0 then
j79 ()
else
st (fun (y81 : Int32) => (st y81 fun x83 =>
st (q71.2 + (1 : Int32)) fun x84 =>
some (.inl (x83, x84)) : Option ((Int32 × Int32) ⊕ ((Int32 × Int32) ⊕ ((Int32 × Int32 × zMs) ⊕ ((Int32 × Int32 × zMs) ⊕ (Int32 × zMs))))))) fun j82 =>
st (fun (u_ : Unit) => (j82 (0 : Int32) : Option ((Int32 × Int32) ⊕ ((Int32 × Int32) ⊕ ((Int32 × Int32 × zMs) ⊕ ((Int32 × Int32 × zMs) ⊕ (Int32 × zMs))))))) fun j85 =>
if (A_sticks q14.2.2 q24.2 q71.2) = 0 then
if (40 : Int32) ≤ (A_wear q14.2.2 q24.2 q71.2) then
j85 ()
else
j82 (1 : Int32)
else
j85 ()) : Option ((Int32 × Int32) ⊕ ((Int32 × Int32) ⊕ ((Int32 × Int32 × zMs) ⊕ ((Int32 × Int32 × zMs) ⊕ (Int32 × zMs))))))) 9 (x69, x70) : Option ((Int32 × Int32) ⊕ ((Int32 × Int32 × zMs) ⊕ ((Int32 × Int32 × zMs) ⊕ (Int32 × zMs)))))) fun j68 =>
if (20 : Int32) ≤ (A_box q14.2.2 q24.2) then
j68 (0 : Int32)
else
j68 (1 : Int32)
def bEn3 (q14 : Int32 × Int32 × zMs) : (Int32 × Int32) → Option ((Int32 × Int32) ⊕ ((Int32 × Int32) ⊕ ((Int32 × Int32 × zMs) ⊕ ((Int32 × Int32 × zMs) ⊕ (Int32 × zMs))))) := fun (q34 : (Int32 × Int32)) =>
st (fun (u_ : Unit) => (st (fun (M43 : zMs) => (gd ((0 : Int32) = 0 ∨ (0 : Int32) = 1) (some (.inr (.inr (.inr (.inr (((0 : Int32), M43))))))) : Option ((Int32 × Int32) ⊕ ((Int32 × Int32) ⊕ ((Int32 × Int32 × zMs) ⊕ ((Int32 × Int32 × zMs) ⊕ (Int32 × zMs))))))) fun j44 =>
if q34.1 = 0 then
j44 q14.2.2
else
if (A_wanted q14.2.2 (0 : Int32)) = 0 then
if (A_wanted q14.2.2 (1 : Int32)) = 0 then
st (N_go q14.2.2 (0 : Int32)) fun M45 =>
if (A_go q14.2.2 (0 : Int32)) = (-2000000003 : Int32) then
st (N_go M45 (1 : Int32)) fun M46 =>
if (A_go M45 (1 : Int32)) = (-2000000003 : Int32) then
gd ((1 : Int32) = 0 ∨ (1 : Int32) = 1) (some (.inr (.inr (.inr (.inr (((1 : Int32), M46)))))))
else
j44 M46
else
j44 M45
else
j44 q14.2.2
else
j44 q14.2.2 : Option ((Int32 × Int32) ⊕ ((Int32 × Int32) ⊕ ((Int32 × Int32 × zMs) ⊕ ((Int32 × Int32 × zMs) ⊕ (Int32 × zMs))))))) fun j42 =>
if (q14.2.2 24 0) ≤ q34.2 then
j42 ()
else
if q34.1 = 0 then
j42 ()
else
st (1 : Int32) fun x47 =>
st ((A_logged q14.2.2 q34.2) - (1 : Int32)) fun x48 =>
lp (fun (q49 : (Int32 × Int32)) => (st (fun (u_ : Unit) => (st (fun (y58 : Int32) => (st y58 fun x60 =>
st (q34.2 + (1 : Int32)) fun x61 =>
some (.inr (.inl (x60, x61))) : Option ((Int32 × Int32) ⊕ ((Int32 × Int32) ⊕ ((Int32 × Int32) ⊕ ((Int32 × Int32 × zMs) ⊕ ((Int32 × Int32 × zMs) ⊕ (Int32 × zMs)))))))) fun j59 =>
st (fun (u_ : Unit) => (j59 (1 : Int32) : Option ((Int32 × Int32) ⊕ ((Int32 × Int32) ⊕ ((Int32 × Int32) ⊕ ((Int32 × Int32 × zMs) ⊕ ((Int32 × Int32 × zMs) ⊕ (Int32 × zMs)))))))) fun j62 =>
if q49.1 = 0 then
j62 ()
else
if (A_valid q14.2.2 q34.2) = (A_score q14.2.2 q34.2) then
j62 ()
else
j59 (0 : Int32) : Option ((Int32 × Int32) ⊕ ((Int32 × Int32) ⊕ ((Int32 × Int32) ⊕ ((Int32 × Int32 × zMs) ⊕ ((Int32 × Int32 × zMs) ⊕ (Int32 × zMs)))))))) fun j57 =>
if q49.2 < 0 then
j57 ()
else
if q49.1 = 0 then
j57 ()
else
st (fun (y63 : Int32) => (st y63 fun x65 =>
st (q49.2 + (-1 : Int32)) fun x66 =>
some (.inl (x65, x66)) : Option ((Int32 × Int32) ⊕ ((Int32 × Int32) ⊕ ((Int32 × Int32) ⊕ ((Int32 × Int32 × zMs) ⊕ ((Int32 × Int32 × zMs) ⊕ (Int32 × zMs)))))))) fun j64 =>
if 0 ≤ (lg_cmp (A_entry q14.2.2 q34.2 q49.2) (1048576 : Int64)) then
j64 (0 : Int32)
else
j64 (1 : Int32) : Option ((Int32 × Int32) ⊕ ((Int32 × Int32) ⊕ ((Int32 × Int32) ⊕ ((Int32 × Int32 × zMs) ⊕ ((Int32 × Int32 × zMs) ⊕ (Int32 × zMs)))))))) 2522 (x47, x48)
def bEn4 (q14 : Int32 × Int32 × zMs) (q34 : Int32 × Int32) : (Int32 × Int32) → Option ((Int32 × Int32) ⊕ ((Int32 × Int32) ⊕ ((Int32 × Int32) ⊕ ((Int32 × Int32 × zMs) ⊕ ((Int32 × Int32 × zMs) ⊕ (Int32 × zMs)))))) := fun (q49 : (Int32 × Int32)) =>
st (fun (u_ : Unit) => (st (fun (y58 : Int32) => (st y58 fun x60 =>
st (q34.2 + (1 : Int32)) fun x61 =>
some (.inr (.inl (x60, x61))) : Option ((Int32 × Int32) ⊕ ((Int32 × Int32) ⊕ ((Int32 × Int32) ⊕ ((Int32 × Int32 × zMs) ⊕ ((Int32 × Int32 × zMs) ⊕ (Int32 × zMs)))))))) fun j59 =>
st (fun (u_ : Unit) => (j59 (1 : Int32) : Option ((Int32 × Int32) ⊕ ((Int32 × Int32) ⊕ ((Int32 × Int32) ⊕ ((Int32 × Int32 × zMs) ⊕ ((Int32 × Int32 × zMs) ⊕ (Int32 × zMs)))))))) fun j62 =>
if q49.1 = 0 then
j62 ()
else
if (A_valid q14.2.2 q34.2) = (A_score q14.2.2 q34.2) then
j62 ()
else
j59 (0 : Int32) : Option ((Int32 × Int32) ⊕ ((Int32 × Int32) ⊕ ((Int32 × Int32) ⊕ ((Int32 × Int32 × zMs) ⊕ ((Int32 × Int32 × zMs) ⊕ (Int32 × zMs)))))))) fun j57 =>
if q49.2 < 0 then
j57 ()
else
if q49.1 = 0 then
j57 ()
else
st (fun (y63 : Int32) => (st y63 fun x65 =>
st (q49.2 + (-1 : Int32)) fun x66 =>
some (.inl (x65, x66)) : Option ((Int32 × Int32) ⊕ ((Int32 × Int32) ⊕ ((Int32 × Int32) ⊕ ((Int32 × Int32 × zMs) ⊕ ((Int32 × Int32 × zMs) ⊕ (Int32 × zMs)))))))) fun j64 =>
if 0 ≤ (lg_cmp (A_entry q14.2.2 q34.2 q49.2) (1048576 : Int64)) then
j64 (0 : Int32)
else
j64 (1 : Int32)
def bEn5 (I : Nat → Int32) (q14 : Int32 × Int32 × zMs) (q24 : Int32 × Int32) : (Int32 × Int32) → Option ((Int32 × Int32) ⊕ ((Int32 × Int32) ⊕ ((Int32 × Int32 × zMs) ⊕ ((Int32 × Int32 × zMs) ⊕ (Int32 × zMs))))) := fun (q71 : (Int32 × Int32)) =>
gd (¬ (q24.2 < 0 ∨ 14 ≤ q24.2.toNatClampNeg)) (
st (fun (u_ : Unit) => (st (q24.2 + (1 : Int32)) fun x80 =>
some (.inr (.inl (q71.1, x80))) : Option ((Int32 × Int32) ⊕ ((Int32 × Int32) ⊕ ((Int32 × Int32 × zMs) ⊕ ((Int32 × Int32 × zMs) ⊕ (Int32 × zMs))))))) fun j79 =>
if (I q24.2.toNatClampNeg) ≤ q71.2 then
j79 ()
else
if q71.1 = 0 then
j79 ()
else
st (fun (y81 : Int32) => (st y81 fun x83 =>
st (q71.2 + (1 : Int32)) fun x84 =>
some (.inl (x83, x84)) : Option ((Int32 × Int32) ⊕ ((Int32 × Int32) ⊕ ((Int32 × Int32 × zMs) ⊕ ((Int32 × Int32 × zMs) ⊕ (Int32 × zMs))))))) fun j82 =>
st (fun (u_ : Unit) => (j82 (0 : Int32) : Option ((Int32 × Int32) ⊕ ((Int32 × Int32) ⊕ ((Int32 × Int32 × zMs) ⊕ ((Int32 × Int32 × zMs) ⊕ (Int32 × zMs))))))) fun j85 =>
if (A_sticks q14.2.2 q24.2 q71.2) = 0 then
if (40 : Int32) ≤ (A_wear q14.2.2 q24.2 q71.2) then
j85 ()
else
j82 (1 : Int32)
else
j85 ())
def bEn6 (q14 : Int32 × Int32 × zMs) : (Int32 × Int32) → Option ((Int32 × Int32) ⊕ ((Int32 × Int32 × zMs) ⊕ ((Int32 × Int32 × zMs) ⊕ (Int32 × zMs)))) := fun (q88 : (Int32 × Int32)) =>
if (A_planned q14.2.2 (0 : Int32) q88.2) < 0 then
st (0 : Int32) fun x96 =>
lp (fun (q97 : (Int32 × Int32 × zMs)) => (st (fun (u_ : Unit) => (st (fun (y106 : Int32) (M107 : zMs) => (st y106 fun x109 =>
st (q14.2.1 + (1 : Int32)) fun x110 =>
some (.inr (.inr (.inl (x109, x110, M107)))) : Option ((Int32 × Int32 × zMs) ⊕ ((Int32 × Int32) ⊕ ((Int32 × Int32 × zMs) ⊕ ((Int32 × Int32 × zMs) ⊕ (Int32 × zMs))))))) fun j108 =>
st (fun (M111 : zMs) => (j108 (0 : Int32) M111 : Option ((Int32 × Int32 × zMs) ⊕ ((Int32 × Int32) ⊕ ((Int32 × Int32 × zMs) ⊕ ((Int32 × Int32 × zMs) ⊕ (Int32 × zMs))))))) fun j112 =>
if q97.1 = 0 then
j112 q97.2.2
else
st (N_go q97.2.2 (0 : Int32)) fun M113 =>
if (A_go q97.2.2 (0 : Int32)) = q88.1 then
j108 (1 : Int32) M113
else
j112 M113 : Option ((Int32 × Int32 × zMs) ⊕ ((Int32 × Int32) ⊕ ((Int32 × Int32 × zMs) ⊕ ((Int32 × Int32 × zMs) ⊕ (Int32 × zMs))))))) fun j105 =>
if (2 : Int32) ≤ q97.2.1 then
j105 ()
else
if q97.1 = 0 then
j105 ()
else
st ((20 : Int32) - (A_parts q97.2.2 (0 : Int32) q97.2.1)) fun x114 =>
st (fun (y115 : Int32) (M116 : zMs) => (st y115 fun x118 =>
st (q97.2.1 + (1 : Int32)) fun x119 =>
some (.inl (x118, x119, M116)) : Option ((Int32 × Int32 × zMs) ⊕ ((Int32 × Int32) ⊕ ((Int32 × Int32 × zMs) ⊕ ((Int32 × Int32 × zMs) ⊕ (Int32 × zMs))))))) fun j117 =>
st (fun (M120 : zMs) => (j117 (1 : Int32) M120 : Option ((Int32 × Int32 × zMs) ⊕ ((Int32 × Int32) ⊕ ((Int32 × Int32 × zMs) ⊕ ((Int32 × Int32 × zMs) ⊕ (Int32 × zMs))))))) fun j121 =>
if x114 = 0 then
j121 q97.2.2
else
st (N_load q97.2.2 (0 : Int32) q97.2.1 x114) fun M122 =>
if (A_load q97.2.2 (0 : Int32) q97.2.1 x114) = (20 : Int32) then
j121 M122
else
j117 (0 : Int32) M122 : Option ((Int32 × Int32 × zMs) ⊕ ((Int32 × Int32) ⊕ ((Int32 × Int32 × zMs) ⊕ ((Int32 × Int32 × zMs) ⊕ (Int32 × zMs))))))) 3 (q14.1, x96, q14.2.2)
else
st (q88.1 + (A_box q14.2.2 (A_planned q14.2.2 (0 : Int32) q88.2))) fun x123 =>
st (q88.2 + (1 : Int32)) fun x124 =>
some (.inl (x123, x124))
def bEn7 (q14 : Int32 × Int32 × zMs) (q88 : Int32 × Int32) : (Int32 × Int32 × zMs) → Option ((Int32 × Int32 × zMs) ⊕ ((Int32 × Int32) ⊕ ((Int32 × Int32 × zMs) ⊕ ((Int32 × Int32 × zMs) ⊕ (Int32 × zMs))))) := fun (q97 : (Int32 × Int32 × zMs)) =>
st (fun (u_ : Unit) => (st (fun (y106 : Int32) (M107 : zMs) => (st y106 fun x109 =>
st (q14.2.1 + (1 : Int32)) fun x110 =>
some (.inr (.inr (.inl (x109, x110, M107)))) : Option ((Int32 × Int32 × zMs) ⊕ ((Int32 × Int32) ⊕ ((Int32 × Int32 × zMs) ⊕ ((Int32 × Int32 × zMs) ⊕ (Int32 × zMs))))))) fun j108 =>
st (fun (M111 : zMs) => (j108 (0 : Int32) M111 : Option ((Int32 × Int32 × zMs) ⊕ ((Int32 × Int32) ⊕ ((Int32 × Int32 × zMs) ⊕ ((Int32 × Int32 × zMs) ⊕ (Int32 × zMs))))))) fun j112 =>
if q97.1 = 0 then
j112 q97.2.2
else
st (N_go q97.2.2 (0 : Int32)) fun M113 =>
if (A_go q97.2.2 (0 : Int32)) = q88.1 then
j108 (1 : Int32) M113
else
j112 M113 : Option ((Int32 × Int32 × zMs) ⊕ ((Int32 × Int32) ⊕ ((Int32 × Int32 × zMs) ⊕ ((Int32 × Int32 × zMs) ⊕ (Int32 × zMs))))))) fun j105 =>
if (2 : Int32) ≤ q97.2.1 then
j105 ()
else
if q97.1 = 0 then
j105 ()
else
st ((20 : Int32) - (A_parts q97.2.2 (0 : Int32) q97.2.1)) fun x114 =>
st (fun (y115 : Int32) (M116 : zMs) => (st y115 fun x118 =>
st (q97.2.1 + (1 : Int32)) fun x119 =>
some (.inl (x118, x119, M116)) : Option ((Int32 × Int32 × zMs) ⊕ ((Int32 × Int32) ⊕ ((Int32 × Int32 × zMs) ⊕ ((Int32 × Int32 × zMs) ⊕ (Int32 × zMs))))))) fun j117 =>
st (fun (M120 : zMs) => (j117 (1 : Int32) M120 : Option ((Int32 × Int32 × zMs) ⊕ ((Int32 × Int32) ⊕ ((Int32 × Int32 × zMs) ⊕ ((Int32 × Int32 × zMs) ⊕ (Int32 × zMs))))))) fun j121 =>
if x114 = 0 then
j121 q97.2.2
else
st (N_load q97.2.2 (0 : Int32) q97.2.1 x114) fun M122 =>
if (A_load q97.2.2 (0 : Int32) q97.2.1 x114) = (20 : Int32) then
j121 M122
else
j117 (0 : Int32) M122
def bEn8 (i_3 : Int32) (q4 : Int32 × Int32 × zMs) : (Int32 × zMs) → Option ((Int32 × zMs) ⊕ ((Int32 × Int32 × zMs) ⊕ (Int32 × zMs))) := fun (q125 : (Int32 × zMs)) =>
st (fun (u_ : Unit) => (st (q4.2.1 + (1 : Int32)) fun x134 =>
some (.inr (.inl (q125.1, x134, q125.2))) : Option ((Int32 × zMs) ⊕ ((Int32 × Int32 × zMs) ⊕ (Int32 × zMs))))) fun j133 =>
if (A_gameAt q125.2 q4.2.1) < 0 then
j133 ()
else
if q125.1 = 0 then
j133 ()
else
st (A_gameAt q125.2 q4.2.1) fun x135 =>
st (A_balls q125.2 x135) fun x136 =>
st (A_score q125.2 x135) fun x137 =>
st (N_shoot q125.2 q4.2.1 (i_3 - i_3 / (160 : Int32) * (160 : Int32)) (((i_3 / (160 : Int32)) - (i_3 / (160 : Int32)) / (61 : Int32) * (61 : Int32)) - (30 : Int32)) (0 : Int32)) fun M138 =>
st (A_shoot q125.2 q4.2.1 (i_3 - i_3 / (160 : Int32) * (160 : Int32)) (((i_3 / (160 : Int32)) - (i_3 / (160 : Int32)) / (61 : Int32) * (61 : Int32)) - (30 : Int32)) (0 : Int32)) fun x139 =>
st (fun (y140 : Int32) (M141 : zMs) => (st y140 fun x143 =>
some (.inl (x143, M141)) : Option ((Int32 × zMs) ⊕ ((Int32 × Int32 × zMs) ⊕ (Int32 × zMs))))) fun j142 =>
st (fun (M144 : zMs) => (j142 (0 : Int32) M144 : Option ((Int32 × zMs) ⊕ ((Int32 × Int32 × zMs) ⊕ (Int32 × zMs))))) fun j145 =>
if x139 < 0 then
j145 M138
else
if (A_score M138 x135) = (x137 + x139) then
if (A_balls M138 x135) = (x136 - (1 : Int32)) then
if (A_byLog M138 x135) = (x137 + x139) then
j142 (1 : Int32) M138
else
j145 M138
else
j145 M138
else
j145 M138
theorem lp_ex {σ β : Type} {body : σ → Option (σ ⊕ β)} {P : Nat → σ → Prop} {R : β → Prop} (n : Nat) (hs : ∀ k s, k < n → P k s → ∃ s1, body s = some (.inl s1) ∧ P (k + 1) s1) (he : ∀ s, P n s → ∃ r, body s = some (.inr r) ∧ R r) : ∀ (d k fuel : Nat) (s : σ), k + d = n → d < fuel → P k s → ∃ r, lp body fuel s = some r ∧ R r := by
  intro d
  induction d with
  | zero =>
    intro k fuel s hk hf hP
    obtain ⟨f, rfl⟩ : ∃ f, fuel = f + 1 := ⟨fuel - 1, by omega⟩
    have hk : k = n := by omega
    subst hk
    obtain ⟨r, e, hR⟩ := he s hP
    exact ⟨r, lp_e _ f e, hR⟩
  | succ d ih =>
    intro k fuel s hk hf hP
    obtain ⟨f, rfl⟩ : ∃ f, fuel = f + 1 := ⟨fuel - 1, by omega⟩
    obtain ⟨s1, e, h1⟩ := hs k s (by omega) hP
    rw [lp_s _ f e]
    exact ih (k + 1) f s1 (by omega) (by omega) h1
/-- a sum over tables, and over an order of them -/
def sT (f : Nat → Bool) (v : Nat → Int32) : Nat → Int32
  | 0 => 0
  | n + 1 => sT f v n + (if f n = true then v n else 0)
theorem sT_c {f f1 : Nat → Bool} {v v1 : Nat → Int32} : ∀ n, (∀ t, t < n → f1 t = f t ∧ v1 t = v t) → sT f1 v1 n = sT f v n := by
  intro n
  induction n with
  | zero => intro _; rfl
  | succ n ih =>
    intro h
    show sT f1 v1 n + (if f1 n = true then v1 n else 0) = sT f v n + (if f n = true then v n else 0)
    rw [ih (fun t ht => h t (by omega)), (h n (by omega)).1, (h n (by omega)).2]
theorem sT_u {f f1 : Nat → Bool} {v : Nat → Int32} {s : Nat} (h0 : f s = false) (h1 : f1 s = true) : ∀ n, s < n → (∀ t, t < n → t ≠ s → f1 t = f t) → sT f1 v n = sT f v n + v s := by
  intro n
  induction n with
  | zero => intro h; omega
  | succ n ih =>
    intro h hu
    show sT f1 v n + (if f1 n = true then v n else 0) = sT f v n + (if f n = true then v n else 0) + v s
    by_cases e : n = s
    · rw [e] at hu ⊢
      rw [h1, h0, if_pos rfl, if_neg (by decide), sT_c s (fun t ht => ⟨hu t (by omega) (by omega), rfl⟩), Int32.add_zero]
    · rw [hu n (by omega) e, ih (by omega) (fun t ht hne => hu t (by omega) hne), Int32.add_assoc, Int32.add_assoc, Int32.add_comm (v s)]
theorem anyB_i {f : Nat → Bool} : ∀ c, anyB f c = true ↔ ∃ k, k < c ∧ f k = true := by
  intro c
  induction c with
  | zero => exact ⟨fun q => absurd q (by show ¬ false = true; decide), fun ⟨k, hk, _⟩ => absurd hk (Nat.not_lt_zero _)⟩
  | succ c ih =>
    show (anyB f c || f c) = true ↔ _
    rw [Bool.or_eq_true, ih]
    refine ⟨fun q => ?_, fun ⟨k, hk, e⟩ => ?_⟩
    · rcases q with ⟨k, hk, e⟩ | e
      · exact ⟨k, by omega, e⟩
      · exact ⟨c, by omega, e⟩
    · by_cases ek : k = c
      · exact Or.inr (by rw [← ek]; exact e)
      · exact Or.inl ⟨k, by omega, e⟩
theorem gS_a (M : zMs) (bst : Nat → Nat) : ∀ (d k : Nat) (x : Int32), gS M bst x k (d + 1) = gS M bst x k d + M 4 (bst (k + d)) := by
  intro d
  induction d with
  | zero => intro k x; rfl
  | succ d ih =>
    intro k x
    show gS M bst (x + M 4 (bst k)) (k + 1) (d + 1) = gS M bst (x + M 4 (bst k)) (k + 1) d + M 4 (bst (k + (d + 1)))
    rw [ih (k + 1), show k + 1 + d = k + (d + 1) by omega]
theorem gS_sT {M : zMs} {bst : Nat → Nat} {n : Nat} : ∀ c, (∀ i j, i < c → j < c → bst i = bst j → i = j) → (∀ k, k < c → bst k < n) → gS M bst 0 0 c = sT (fun t => anyB (fun k => decide (bst k = t)) c) (M 4) n := by
  intro c
  induction c with
  | zero =>
    intro _ _
    have : ∀ n, sT (fun t => anyB (fun k => decide (bst k = t)) 0) (M 4) n = 0 := by
      intro n
      induction n with
      | zero => rfl
      | succ n ih =>
        show sT _ (M 4) n + (if anyB (fun k => decide (bst k = n)) 0 = true then M 4 n else 0) = 0
        rw [ih, if_neg (show ¬ anyB (fun k => decide (bst k = n)) 0 = true by show ¬ false = true; decide)]
        rfl
    exact (this n).symm
  | succ c ih =>
    intro hi hb
    have e0 : anyB (fun k => decide (bst k = bst c)) c = false := by
      rw [Bool.eq_false_iff]
      intro q
      obtain ⟨k, hk, e⟩ := (anyB_i c).mp q
      have := hi k c (by omega) (by omega) (of_decide_eq_true e)
      omega
    rw [gS_a, ih (fun i j a b => hi i j (by omega) (by omega)) (fun k hk => hb k (by omega)), Nat.zero_add]
    refine (sT_u (s := bst c) e0 ?_ n (hb c (by omega)) (fun t ht hne => ?_)).symm
    · show (anyB (fun k => decide (bst k = bst c)) c || decide (bst c = bst c)) = true
      rw [decide_eq_true rfl, Bool.or_true]
    · show (anyB (fun k => decide (bst k = t)) c || decide (bst c = t)) = anyB (fun k => decide (bst k = t)) c
      rw [decide_eq_false (fun q => hne q.symm), Bool.or_false]
section PEN
variable {S : zSt} {M M1 M2 Z : zMs} {I : Nat → Int32} {t b g n k c r X : Nat} {y : Int32}
theorem pl_sT {bst : Nat → Nat} (hP : Pm c (fun t => needB M t = true) bst) : gS M bst 0 0 c = sT (needB M) (M 4) (nT M) := by
  rw [gS_sT (n := nT M) c hP.1 (fun k hk => (of_decide_eq_true (hP.2.1 k hk)).1)]
  refine sT_c _ (fun t ht => ⟨?_, rfl⟩)
  by_cases e : needB M t = true
  · rw [e]
    obtain ⟨k, hk, q⟩ := hP.2.2 t e
    exact (anyB_i c).mpr ⟨k, hk, decide_eq_true q⟩
  · rw [Bool.eq_false_iff.mpr e, Bool.eq_false_iff]
    intro q
    obtain ⟨k, hk, q⟩ := (anyB_i c).mp q
    exact e (by rw [← of_decide_eq_true q]; exact hP.2.1 k hk)
theorem bdT_n (h : WM M) (J : Int32) : ∀ n, bdT M J n = nI (tB M J n) := by
  intro n
  induction n with
  | zero => exact nI_0.symm
  | succ n ih =>
    show bdT M J n + bdS M J n (nB M n) = nI (tB M J n + cB M J (8 * n) (nB M n))
    rw [ih, bdS_n, nI_add]
theorem tB_le (h : WM M) (J : Int32) : ∀ n, n ≤ 6 → tB M J n ≤ 8 * n := by
  intro n
  induction n with
  | zero => intro _; exact Nat.le_refl _
  | succ n ih =>
    intro hn
    show tB M J n + cB M J (8 * n) (nB M n) ≤ 8 * (n + 1)
    have h1 := cB_le M J (nB M n) (8 * n)
    have h2 := nB8 h (t := n) (by omega)
    have h3 := ih (by omega)
    omega
theorem tB_0 {J : Int32} : ∀ n, (∀ t, t < n → cB M J (8 * t) (nB M t) = 0) → tB M J n = 0 := by
  intro n
  induction n with
  | zero => intro _; rfl
  | succ n ih =>
    intro h
    show tB M J n + cB M J (8 * n) (nB M n) = 0
    rw [ih (fun t ht => h t (by omega)), h n (by omega)]
theorem tB_z {J : Int32} : ∀ n, tB M J n = 0 → ∀ t, t < n → cB M J (8 * t) (nB M t) = 0 := by
  intro n
  induction n with
  | zero => intro _ t ht; omega
  | succ n ih =>
    intro h t ht
    have h : tB M J n + cB M J (8 * n) (nB M n) = 0 := h
    by_cases e : t = n
    · rw [e]; omega
    · exact ih (by omega) t (by omega)
-- all games are ended
theorem sh_arg (hX : X < 2 ^ 31) : arSh (nI X - nI X / (160 : Int32) * (160 : Int32)) (((nI X / (160 : Int32)) - (nI X / (160 : Int32)) / (61 : Int32) * (61 : Int32)) - (30 : Int32)) 0 := by
  have h1 : X % 160 < 160 := Nat.mod_lt _ (by omega)
  have h2 : X / 160 % 61 < 61 := Nat.mod_lt _ (by omega)
  have e160 : nI X / (160 : Int32) = nI (X / 160) := pk_div (d := 160) hX (by omega) (by omega)
  rw [rm_160 hX, e160, rm_61 (show X / 160 < 2 ^ 31 by omega)]
  refine ⟨inR_n (a := 0) (b := 159) (by omega) (by omega) (by omega) (by decide) (by decide), ?_, by unfold inR; decide⟩
  have e : (nI (X / 160 % 61) - nI 30).toInt = ((X / 160 % 61 : Nat) : Int) - ((30 : Nat) : Int) := pk_sub_toInt (by omega) (by omega)
  have e30 : (30 : Int32) = nI 30 := by decide
  have a1 : (-30 : Int32).toInt = -30 := by decide
  have a2 : (30 : Int32).toInt = 30 := by decide
  unfold inR
  rw [Int32.le_iff_toInt_le, Int32.le_iff_toInt_le, a1, a2]
  rw [← e30] at e
  rw [e]
  omega
theorem en_sh (hX : X < 2 ^ 31) (y : Int32) (Z : zMs) : ∀ (d fuel : Nat) (M1 : zMs), INV M1 → t < nT M1 → (M1 7 t = -1 ∨ ∃ g, g < nG M1 ∧ M1 7 t = nI g ∧ nL M1 g ≤ d) → d < fuel → ∃ M2, lp (bEn8 (nI X) (y, nI t, Z)) fuel (1, M1) = some (.inl (1, nI (t + 1), M2)) ∧ INV M2 ∧ Sm M1 M2 ∧ nG M2 = nG M1 ∧ M2 7 t = -1 ∧ ∀ u, u ≠ t → M2 7 u = M1 7 u := by
  have ex : ∀ (f : Nat) (M1 : zMs), INV M1 → t < nT M1 → M1 7 t = -1 → lp (bEn8 (nI X) (y, nI t, Z)) (f + 1) (1, M1) = some (.inl (1, nI (t + 1), M1)) := by
    intro f M1 h ht e
    obtain ⟨S, hT⟩ := h.1
    refine lp_e _ f ?_
    unfold bEn8
    refine st_j ?_
    refine if_t (by show A_gameAt M1 (nI t) < 0; rw [vA_gameAt hT.1 ht, e]; decide) ?_
    refine st_v (nI_1 t) ?_
    rfl
  intro d
  induction d with
  | zero =>
    intro fuel M1 h ht h7 hf
    obtain ⟨f, rfl⟩ : ∃ f, fuel = f + 1 := ⟨fuel - 1, by omega⟩
    obtain ⟨S, hT⟩ := h.1
    have e7 : M1 7 t = -1 := by
      rcases (hT.1.2.2.2.2.1 t ht).2 with q | ⟨g, hg, q, -, q4⟩
      · exact q
      · rcases h7 with q2 | ⟨g2, hg2, q2, q3⟩
        · exact q2
        · have hG := nG40 hT.1
          have := (nI_eq (by omega) (by omega)).mp (q.symm.trans q2)
          subst this
          omega
    exact ⟨M1, ex f M1 h ht e7, h, Sm_r M1, rfl, e7, fun _ _ => rfl⟩
  | succ d ih =>
    intro fuel M1 h ht h7 hf
    obtain ⟨f, rfl⟩ : ∃ f, fuel = f + 1 := ⟨fuel - 1, by omega⟩
    obtain ⟨S, hT⟩ := h.1
    have hG := nG40 hT.1
    rcases (hT.1.2.2.2.2.1 t ht).2 with e7 | ⟨g, hg, e7, e25, eL⟩
    · exact ⟨M1, ex f M1 h ht e7, h, Sm_r M1, rfl, e7, fun _ _ => rfl⟩
    · have hLd : nL M1 g ≤ d + 1 := by
        rcases h7 with q2 | ⟨g2, hg2, q2, q3⟩
        · rw [e7] at q2
          exact absurd q2 (of_eq_false (nI_m (by omega)))
        · have := (nI_eq (by omega) (by omega)).mp (e7.symm.trans q2)
          subst this
          exact q3
      have hL3 := nL3 hT.1 hg
      have ha := sh_arg hX
      have hN := inv_shoot h (nI t) (nI X - nI X / (160 : Int32) * (160 : Int32)) (((nI X / (160 : Int32)) - (nI X / (160 : Int32)) / (61 : Int32) * (61 : Int32)) - (30 : Int32)) 0
      have hSm := sm_shoot h (nI t) (nI X - nI X / (160 : Int32) * (160 : Int32)) (((nI X / (160 : Int32)) - (nI X / (160 : Int32)) / (61 : Int32) * (61 : Int32)) - (30 : Int32)) 0
      obtain ⟨-, -, -, m, hm, eA, e27, e26, e7', o⟩ := sht h ht ha hg e7 e25 eL
      generalize hNe : N_shoot M1 (nI t) (nI X - nI X / (160 : Int32) * (160 : Int32)) (((nI X / (160 : Int32)) - (nI X / (160 : Int32)) / (61 : Int32) * (61 : Int32)) - (30 : Int32)) 0 = N at *
      obtain ⟨S2, hT2⟩ := hN.1
      have eG : nG N = nG M1 := by unfold nG; rw [o 24 (by omega)]
      have eT : nT N = nT M1 := (Sm_n hSm).1
      have hg2 : g < nG N := by rw [eG]; exact hg
      have eLN : nL N g = nL M1 g - 1 := by
        show (N 26 g).toNatClampNeg = nL M1 g - 1
        rw [e26, if_pos rfl]
        exact nI_clamp (by omega)
      have e27s : A_score N (nI g) = M1 27 g + nI m := (vA_score hT2.1 hg2).trans e27
      have hbody : bEn8 (nI X) (y, nI t, Z) (1, M1) = some (.inl (1, N)) := by
        unfold bEn8
        refine st_j ?_
        refine if_f (by show ¬ A_gameAt M1 (nI t) < 0; rw [vA_gameAt hT.1 ht, e7]; exact nI_pos (by omega)) ?_
        refine if_f i10 ?_
        refine st_v ((vA_gameAt hT.1 ht).trans e7) ?_
        refine st_v ((vA_balls hT.1 hg).trans (nL_e hT.1 hg)) ?_
        refine st_v (vA_score hT.1 hg) ?_
        refine st_v hNe ?_
        refine st_v eA ?_
        refine st_j ?_
        refine st_j ?_
        refine if_f (nI_pos (by omega)) ?_
        refine if_t e27s ?_
        refine if_t (by rw [vA_balls hT2.1 hg2, e26, if_pos rfl, nI_pred1 eL]) ?_
        refine if_t (by rw [(vA_byLog hT2 hg2).1, ← j1_s hN.2.1 hg2]; exact e27) ?_
        refine st_j ?_
        rfl
      obtain ⟨M2, q1, q2, q3, q4, q5, q6⟩ := ih f N hN (by rw [eT]; exact ht) (by
        rw [e7', if_pos rfl]
        by_cases e1 : nL M1 g = 1
        · rw [if_pos e1]; exact Or.inl rfl
        · rw [if_neg e1]
          exact Or.inr ⟨g, hg2, rfl, by rw [eLN]; omega⟩) (by omega)
      refine ⟨M2, by rw [lp_s _ f hbody]; exact q1, q2, ⟨q3.1.trans hSm.1, q3.2.1.trans hSm.2.1, q3.2.2.1.trans hSm.2.2.1, q3.2.2.2.trans hSm.2.2.2⟩, q4.trans eG, q5, fun u hu => ?_⟩
      rw [q6 u hu, e7', if_neg hu]
-- the last look
def qui (M : zMs) : Prop := ∀ t, t < nT M → M 7 t = -1 ∧ needB M t = false
theorem qui_n (h : WM M) (hq : qui M) (ht : t < nT M) : M 4 t ≤ 19 ∧ cB M 0 (8 * t) (nB M t) = 0 ∧ cB M 1 (8 * t) (nB M t) = 0 := by
  obtain ⟨h7, hn⟩ := hq t ht
  have h1 : ¬ nd M t (nB M t) = true := fun q => by
    have := (needB_i h ht).mpr ⟨h7, q⟩
    rw [hn] at this
    exact absurd this (by decide)
  rw [nd_i] at h1
  refine ⟨Decidable.byContradiction (fun q => h1 (Or.inl q)), ?_, ?_⟩
  · by_cases e : cB M 0 (8 * t) (nB M t) = 0
    · exact e
    · exact absurd (Or.inr (Or.inl (by omega))) h1
  · by_cases e : cB M 1 (8 * t) (nB M t) = 0
    · exact e
    · exact absurd (Or.inr (Or.inr (by omega))) h1
theorem qui_c {bst : Nat → Nat} (hq : qui M) (hP : Pm c (fun t => needB M t = true) bst) : c = 0 := by
  by_cases c0 : c = 0
  · exact c0
  · have h1 : needB M (bst 0) = true := hP.2.1 0 (by omega)
    have h2 := (hq (bst 0) (of_decide_eq_true h1).1).2
    rw [h2] at h1
    exact absurd h1 (by decide)
theorem en_bm (h : WM M) (hq : qui M) (hI : ∀ t, t < 6 → I t = nI (nB M t)) (ht : t < nT M) (y z w : Int32) : lp (bEn5 I (y, z, M) (w, nI t)) 9 (1, 0) = some (.inl (1, nI (t + 1))) := by
  have hT6 := nT6 h
  have h8 := nB8 h (t := t) (by omega)
  obtain ⟨-, c0, c1⟩ := qui_n h hq ht
  have ct : (nI t).toNatClampNeg = t := nI_clamp (by omega)
  have g14 : ¬ (nI t < 0 ∨ 14 ≤ (nI t).toNatClampNeg) := fun q => q.elim (nI_pos (by omega)) (by rw [ct]; omega)
  refine lp_up (fun j => ((1 : Int32), nI j)) (nB M t) (by omega) ?_ (fun j hj => ?_) ?_
  · show ((1 : Int32), (0 : Int32)) = (1, nI 0)
    rw [nI_0]
  · have b0 : bB M 0 (8 * t + j) = false := cB_0 c0 (8 * t + j) (by omega) (by omega)
    have b1 : bB M 1 (8 * t + j) = false := cB_0 c1 (8 * t + j) (by omega) (by omega)
    have e16 : M 16 (8 * t + j) = -1 := Decidable.byContradiction (fun q => of_decide_eq_false b0 q)
    have e15 : M 15 (8 * t + j) < 40 := Decidable.byContradiction (fun q => of_decide_eq_false b1 q)
    unfold bEn5
    refine gd_of g14 ?_
    refine st_j ?_
    refine if_f (by show ¬ I (nI t).toNatClampNeg ≤ nI j; rw [ct, hI t (by omega)]; exact nI_ge hj (by omega)) ?_
    refine if_f i10 ?_
    refine st_j ?_
    refine st_j ?_
    refine if_t (by show A_sticks M (nI t) (nI j) = 0; rw [vA_sticks h ht hj, if_pos e16]) ?_
    refine if_f (by show ¬ (40 : Int32) ≤ A_wear M (nI t) (nI j); rw [vA_wear h ht hj]; exact Int32.not_le.mpr e15) ?_
    refine st_j ?_
    refine st_v (nI_1 j) ?_
    rfl
  · unfold bEn5
    refine gd_of g14 ?_
    refine st_j ?_
    refine if_t (by show I (nI t).toNatClampNeg ≤ nI (nB M t); rw [ct, hI t (by omega)]; exact Int32.le_refl _) ?_
    refine st_v (nI_1 t) ?_
    rfl
theorem en_pl (hT : Tie S M) (j1 : J1 M) (hg : g < nG M) (y z w : Int32) : ∀ (k fuel : Nat), k ≤ (ents M g).length → k + 1 < fuel → (∀ i e, k ≤ i → (ents M g)[i]? = some e → e / 1048576 = 0) → lp (bEn4 (y, z, M) (w, nI g)) fuel (1, nI k - 1) = some (.inl (1, nI (g + 1))) := by
  have hl := ents_2520 hT.1 hg
  intro k
  induction k with
  | zero =>
    intro fuel hk hf hp
    obtain ⟨f, rfl⟩ : ∃ f, fuel = f + 1 := ⟨fuel - 1, by omega⟩
    have ek : kept 1 M (ents M g) = ents M g := List.filter_eq_self.mpr (fun e he => by
      obtain ⟨i, hi⟩ := List.mem_iff_getElem?.mp he
      exact decide_eq_true (Or.inr (Or.inl (hp i e (Nat.zero_le _) hi))))
    have ev : A_valid M (nI g) = A_score M (nI g) := by rw [vA_valid hT hg, ek, vA_score hT.1 hg, j1_s j1 hg]
    refine lp_e _ f ?_
    unfold bEn4
    refine st_j ?_
    refine if_t (by show nI 0 - 1 < 0; decide) ?_
    refine st_j ?_
    refine st_j ?_
    refine if_f i10 ?_
    refine if_t ev ?_
    refine st_j ?_
    refine st_v (nI_1 g) ?_
    rfl
  | succ k ih =>
    intro fuel hk hf hp
    obtain ⟨f, rfl⟩ : ∃ f, fuel = f + 1 := ⟨fuel - 1, by omega⟩
    obtain ⟨e, he⟩ : ∃ e, (ents M g)[k]? = some e := ⟨_, List.getElem?_eq_getElem (by omega)⟩
    have x1 := (ents_mem hT.1 hg (List.mem_of_getElem? he)).1
    have ek : nI (k + 1) - 1 = nI k := nI_pred1 (by omega)
    rw [ek]
    by_cases hpl : e / 1048576 = 0
    · have eb : bEn4 (y, z, M) (w, nI g) (1, nI k) = some (.inl (1, nI k - 1)) := by
        unfold bEn4
        refine st_j ?_
        refine if_f (nI_pos (by omega)) ?_
        refine if_f i10 ?_
        refine st_j ?_
        refine if_f ?_ ?_
        · show ¬ 0 ≤ lg_cmp (A_entry M (nI g) (nI k)) (1048576 : Int64)
          rw [vA_entry hT.1 hg he, show (1048576 : Int64) = lN 1048576 from rfl, (lgL (by omega) (by omega)).2.1]
          omega
        · refine st_j ?_
          refine st_v (show nI k + (-1 : Int32) = nI k - 1 from (Int32.sub_eq_add_neg ..).symm) ?_
          rfl
      rw [lp_s _ f eb]
      refine ih f (by omega) (by omega) (fun i e' hi he' => ?_)
      by_cases ei : i = k
      · rw [ei, he] at he'
        cases he'
        exact hpl
      · exact hp i e' (by omega) he'
    · obtain ⟨f, rfl⟩ : ∃ f', f = f' + 1 := ⟨f - 1, by omega⟩
      have eb : bEn4 (y, z, M) (w, nI g) (1, nI k) = some (.inl (0, nI k - 1)) := by
        unfold bEn4
        refine st_j ?_
        refine if_f (nI_pos (by omega)) ?_
        refine if_f i10 ?_
        refine st_j ?_
        refine if_t ?_ ?_
        · show 0 ≤ lg_cmp (A_entry M (nI g) (nI k)) (1048576 : Int64)
          rw [vA_entry hT.1 hg he, show (1048576 : Int64) = lN 1048576 from rfl, (lgL (by omega) (by omega)).2.1]
          omega
        · refine st_j ?_
          refine st_v (show nI k + (-1 : Int32) = nI k - 1 from (Int32.sub_eq_add_neg ..).symm) ?_
          rfl
      rw [lp_s _ _ eb]
      refine lp_e _ f ?_
      unfold bEn4
      refine st_j ?_
      by_cases q : nI k - 1 < 0
      · refine if_t q ?_
        refine st_j ?_
        refine st_j ?_
        refine if_t rfl ?_
        refine st_j ?_
        refine st_v (nI_1 g) ?_
        rfl
      · refine if_f q ?_
        refine if_t rfl ?_
        refine st_j ?_
        refine st_j ?_
        refine if_t rfl ?_
        refine st_j ?_
        refine st_v (nI_1 g) ?_
        rfl
theorem en_want (h : WM M) (hq : qui M) (hk : k < 2) : A_wanted M (nI k) = 0 := by
  have e : tB M (nI k) (nT M) = 0 := tB_0 _ (fun t ht => by
    obtain ⟨-, c0, c1⟩ := qui_n h hq ht
    have hk2 : k = 0 ∨ k = 1 := by omega
    rcases hk2 with rfl | rfl
    · rw [nI_0]; exact c0
    · exact c1)
  obtain ⟨p0, h0, e0⟩ := spare_n h (i := k) (by omega)
  obtain ⟨p1, h1, e1⟩ := spare_n h (i := 2 + k) (by omega)
  rw [vA_wanted h hk, bdT_n h, e, e0, e1]
  refine if_neg ?_
  rw [Int32.lt_iff_toInt_lt, Int32.toInt_sub]
  have a1 : (nI 0 - nI p0).toInt = ((0 : Nat) : Int) - (p0 : Int) := pk_sub_toInt (by omega) (by omega)
  have a2 : (nI p1).toInt = (p1 : Int) := nI_toInt (by omega)
  have a3 : (0 : Int32).toInt = 0 := by decide
  rw [a1, a2, a3, Int.bmod_eq_of_le (by omega) (by omega)]
  omega
/-- nothing needs service: the rounds end -/
theorem en_ex (h : INV M) (hq : qui M) (hI : ∀ t, t < 6 → I t = nI (nB M t)) (y z : Int32) : lp (bEn2 I (y, z, M)) 7 (1, 0) = some (.inr (.inr (1, M))) := by
  obtain ⟨⟨S, hT⟩, j1, -, -⟩ := h
  have hW := hT.1
  have hT6 := nT6 hW
  have hG := nG40 hW
  refine lp_up (fun t => ((1 : Int32), nI t)) (nT M) (by omega) ?_ (fun t ht => ?_) ?_
  · show ((1 : Int32), (0 : Int32)) = (1, nI 0)
    rw [nI_0]
  · unfold bEn2
    refine st_j ?_
    refine if_f (by show ¬ M 1 0 ≤ nI t; rw [nT_e hW]; exact nI_ge ht (by omega)) ?_
    refine if_f i10 ?_
    refine st_j ?_
    refine if_f (by
      show ¬ (20 : Int32) ≤ A_box M (nI t)
      rw [vA_box hW ht]
      exact fun q => ((le19 _).mpr q) (qui_n hW hq ht).1) ?_
    refine st_j ?_
    refine st_j ?_
    exact en_bm hW hq hI ht y z 1
  · unfold bEn2
    refine st_j ?_
    refine if_t (by show M 1 0 ≤ nI (nT M); rw [nT_e hW]; exact Int32.le_refl _) ?_
    refine st_j ?_
    refine lp_up (body := bEn3 (y, z, M)) (fun g => ((1 : Int32), nI g)) (nG M) (by omega) ?_ (fun g hg => ?_) ?_
    · show ((1 : Int32), (0 : Int32)) = (1, nI 0)
      rw [nI_0]
    · have hl := ents_2520 hW hg
      unfold bEn3
      refine st_j ?_
      refine if_f (by show ¬ M 24 0 ≤ nI g; rw [nG_e hW]; exact nI_ge hg (by omega)) ?_
      refine if_f i10 ?_
      refine st_j ?_
      refine st_v (v1 := nI (ents M g).length - 1) (by show A_logged M (nI g) - 1 = _; rw [vA_logged hW hg]) ?_
      exact en_pl hT j1 hg y z 1 (ents M g).length 2522 (Nat.le_refl _) (by omega) (fun i e hi he => by
        have := (List.getElem?_eq_some_iff.mp he).1
        omega)
    · obtain ⟨c, a, bst, -, -, -, hP, -, -, -, g0, -⟩ := plA hT (show 0 < 2 by omega)
      obtain ⟨c1, a1, bst1, -, -, -, hP1, -, -, -, g1, -⟩ := plA hT (show 1 < 2 by omega)
      obtain ⟨k1, k2⟩ := g0 (qui_c hq hP)
      obtain ⟨k3, k4⟩ := g1 (qui_c hq hP1)
      rw [nI_0] at k1 k2
      have w0 := en_want hW hq (show 0 < 2 by omega)
      rw [nI_0] at w0
      have w1 := en_want hW hq (show 1 < 2 by omega)
      have n1 : (1 : Int32) = nI 1 := by decide
      unfold bEn3
      refine st_j ?_
      refine if_t (by show M 24 0 ≤ nI (nG M); rw [nG_e hW]; exact Int32.le_refl _) ?_
      refine st_j ?_
      refine if_f i10 ?_
      refine if_t w0 ?_
      refine if_t (by show A_wanted M (1 : Int32) = 0; rw [n1]; exact w1) ?_
      refine st_v (v1 := M) k2 ?_
      refine if_t k1 ?_
      refine st_v (v1 := M) (by rw [n1]; exact k4) ?_
      refine if_t (by rw [n1]; exact k3) ?_
      exact gd_of (Or.inr rfl) rfl
-- the rounds
def Ld (M M2 : zMs) (k : Nat) : Prop := (∀ q, q ≠ 0 → q ≠ 50 → M2 q = M q) ∧ (∀ u, u ≠ k → M2 50 u = M 50 u) ∧ M2 50 k = nI 20
theorem ld_1 (h : INV M) (hk : k < 2) (q14 : Int32 × Int32 × zMs) (q88 : Int32 × Int32) : ∃ M2, bEn7 q14 q88 (1, nI k, M) = some (.inl (1, nI (k + 1), M2)) ∧ INV M2 ∧ Ld M M2 k := by
  obtain ⟨S, hT⟩ := h.1
  obtain ⟨p, hp, e50⟩ := spare_n hT.1 (i := k) (by omega)
  have ePa : A_parts M (0 : Int32) (nI k) = nI p := by
    have := vA_parts (M := M) (v := 0) (k := k) (by omega) hk
    rw [nI_0, show 2 * 0 + k = k by omega, e50] at this
    exact this
  have eR : (20 : Int32) - A_parts M (0 : Int32) (nI k) = nI (20 - p) := by rw [ePa, show (20 : Int32) = nI 20 by decide, pk_sub hp]
  have l2 : ¬ (2 : Int32) ≤ nI k := by rw [show (2 : Int32) = nI 2 by decide]; exact nI_ge hk (by omega)
  by_cases hp20 : p = 20
  · refine ⟨M, ?_, h, fun _ _ _ => rfl, fun _ _ => rfl, by rw [e50, hp20]⟩
    unfold bEn7
    refine st_j ?_
    refine if_f l2 ?_
    refine if_f i10 ?_
    refine st_v eR ?_
    refine st_j ?_
    refine st_j ?_
    refine if_t (by rw [hp20]; decide) ?_
    refine st_j ?_
    refine st_v (nI_1 k) ?_
    rfl
  · have hx : inR (nI (20 - p)) 1 20 := inR_n (a := 1) (b := 20) (by omega) (by omega) (by omega) (by decide) (by decide)
    have hs : M 50 (2 * 0 + k) + nI (20 - p) = nI 20 := by rw [show 2 * 0 + k = k by omega, e50, nI_add, show p + (20 - p) = 20 by omega]
    have h20 : ¬ (20 : Int32) < M 50 (2 * 0 + k) + nI (20 - p) := by rw [hs]; decide
    obtain ⟨eA, eN⟩ := an_e (nums := [1, 2, 3]) (M := M) (sp_load (v := 0) (by omega) hk hx h20) (by simp (disch := omega) only [pMn, pM_s])
    rw [hs] at eA eN
    rw [nI_0, show 2 * 0 + k = k by omega] at eN
    rw [nI_0] at eA
    have hIn := inv_load h 0 (nI k) (nI (20 - p))
    have eN2 : N_load M (0 : Int32) (nI k) (nI (20 - p)) = pM (pM M 0 0 0) 50 k (nI 20) := eN
    rw [eN2] at hIn
    refine ⟨_, ?_, hIn, fun q a b => by rw [pMn b, pMn a], fun u hu => by rw [pMi hu, pMn (by omega)], pM_s _ _ _⟩
    unfold bEn7
    refine st_j ?_
    refine if_f l2 ?_
    refine if_f i10 ?_
    refine st_v eR ?_
    refine st_j ?_
    refine st_j ?_
    refine if_f (nI_ne0 (by omega) (by omega)) ?_
    refine st_v eN2 ?_
    refine if_t (Eq.trans (show A_load M (0 : Int32) (nI k) (nI (20 - p)) = nI 20 from eA) (by decide)) ?_
    refine st_j ?_
    refine st_v (nI_1 k) ?_
    rfl
def RI (r : Nat) (M : zMs) : Prop := (r = 0 ∨ ∀ t, t < nT M → M 4 t ≤ 19) ∧ (tB M 0 (nT M) = 0 ∨ tB M 0 (nT M) + 20 * r ≤ 48) ∧ (tB M 1 (nT M) = 0 ∨ tB M 1 (nT M) + 20 * r ≤ 48)
theorem ri_k {q rr : Nat} {J : Int32} {bst : Nat → Nat} {M0 : zMs} (hr : rr ≠ 8 ∧ rr ≠ 0) (hB : ∀ (A B : zMs) u, B rr u = A rr u → bB B J u = bB A J u) (hW : WM M) (hT : nT M0 = nT M) (hBn : ∀ u, nB M0 u = nB M u) (h1B : ∀ u, nB M1 u = nB M u) (hrr : ∀ u, M0 rr u = M rr u) (hq : M0 50 q = nI 20) (hP : Pm c (fun t => needB M t = true) bst) (hf : ∀ t, t < nT M → needB M t = false → cB M J (8 * t) (nB M t) = 0) (h : kdG M0 M1 q rr J bst 0 c) (hi : tB M J (nT M) = 0 ∨ tB M J (nT M) + 20 * r ≤ 48) : tB M1 J (nT M) = 0 ∨ tB M1 J (nT M) + 20 * (r + 1) ≤ 48 := by
  obtain ⟨g1, n1, m, g2, g3, g4, g5, g6⟩ := h
  have hT6 := nT6 hW
  have e20 : n1 + m = 20 := (nI_eq (by omega) (by omega)).mp (g3.symm.trans hq)
  have eB0 : tB M0 J (nT M) = tB M J (nT M) := tB_c hBn _ (fun t ht => cB_c _ _ (fun u _ _ => hB M M0 u (hrr u)))
  rw [hT, eB0] at g5
  rcases g6 with g6 | g6
  · right
    omega
  · left
    refine tB_0 _ (fun t ht => ?_)
    rw [h1B]
    by_cases e : needB M t = true
    · obtain ⟨i, hi2, q2⟩ := hP.2.2 t e
      have := g6 i (Nat.zero_le _) hi2
      rw [q2, hBn] at this
      exact this
    · have hn : ∀ i, 0 ≤ i → i < c → bst i ≠ t := fun i _ hi2 q2 => e (by rw [← q2]; exact hP.2.1 i hi2)
      rw [← hf t ht (Bool.eq_false_iff.mpr e)]
      refine cB_c _ _ (fun u u1 u2 => ?_)
      have h8 := nB8 hW (t := t) (by omega)
      have := g1 t (by omega) hn (u - 8 * t) (by omega)
      rw [show 8 * t + (u - 8 * t) = u by omega, hrr] at this
      exact hB M M1 u this
theorem en_rd (hI : ∀ t, t < 6 → I t = nI (nB M t)) : ∀ (d r fuel : Nat) (M1 : zMs), r + d = 12 → d < fuel → INV M1 → Sm M M1 → (∀ t, t < nT M1 → M1 7 t = -1) → RI r M1 → ∃ M2, lp (bEn1 I) fuel (1, nI r, M1) = some (.inr (1, M2)) ∧ INV M2 ∧ Sm M M2 := by
  have fin : ∀ (r f : Nat) (M1 : zMs), r ≤ 12 → INV M1 → Sm M M1 → qui M1 → lp (bEn1 I) (f + 1) (1, nI r, M1) = some (.inr (1, M1)) := by
    intro r f M1 hr h hS hq
    obtain ⟨S, hT⟩ := h.1
    have hI1 : ∀ t, t < 6 → I t = nI (nB M1 t) := fun t ht => by rw [hI t ht, (Sm_n hS).2.1]
    obtain ⟨c, a, bst, hc, ha, e49, hP, hpl, hpn, hway, -, -⟩ := plA hT (show 0 < 2 by omega)
    have c0 := qui_c hq hP
    have en := en_ex h hq hI1 1 (nI r)
    have e1 : A_way M1 (0 : Int32) = 0 := by
      rw [nI_0, c0] at hway
      exact hway.trans nI_0
    have e2 : A_planned M1 (0 : Int32) (0 : Int32) = -2000000001 := by
      have := hpn 0 (by omega) (by omega)
      rw [nI_0] at this
      exact this
    refine lp_e _ f ?_
    unfold bEn1
    refine st_j ?_
    by_cases h12 : (12 : Int32) ≤ nI r
    · refine if_t h12 ?_
      refine st_j ?_
      exact en
    · refine if_f h12 ?_
      refine if_f i10 ?_
      refine if_t (by show A_way M1 (0 : Int32) + A_planned M1 (0 : Int32) (0 : Int32) < 0; rw [e1, e2]; decide) ?_
      refine st_j ?_
      exact en
  intro d
  induction d with
  | zero =>
    intro r fuel M1 hr hf h hS h7 hR
    obtain ⟨f, rfl⟩ : ∃ f, fuel = f + 1 := ⟨fuel - 1, by omega⟩
    obtain ⟨S, hT⟩ := h.1
    obtain ⟨r1, r2, r3⟩ := hR
    have t0 : tB M1 0 (nT M1) = 0 := by omega
    have t1 : tB M1 1 (nT M1) = 0 := by omega
    have hq : qui M1 := fun t ht => ⟨h7 t ht, Bool.eq_false_iff.mpr (fun q => by
      have := ((needB_i hT.1 ht).mp q).2
      rw [nd_i, tB_z _ t0 t ht, tB_z _ t1 t ht] at this
      rcases this with q | q | q
      · exact q (r1.resolve_left (by omega) t ht)
      · omega
      · omega)⟩
    exact ⟨M1, fin r f M1 (by omega) h hS hq, h, hS⟩
  | succ d ih =>
    intro r fuel M1 hr hf h hS h7 hR
    obtain ⟨f, rfl⟩ : ∃ f, fuel = f + 1 := ⟨fuel - 1, by omega⟩
    by_cases hq : qui M1
    · exact ⟨M1, fin r f M1 (by omega) h hS hq, h, hS⟩
    · obtain ⟨S, hT⟩ := h.1
      have hW := hT.1
      have hT6 := nT6 hW
      obtain ⟨c, a, bst, hc, ha, e49, hP, hpl, hpn, hway, -, -⟩ := plA hT (show 0 < 2 by omega)
      have c0 : 0 < c := by
        by_cases q : c = 0
        · exfalso
          refine hq (fun t ht => ⟨h7 t ht, Bool.eq_false_iff.mpr (fun e => ?_)⟩)
          obtain ⟨k, hk, -⟩ := hP.2.2 t e
          omega
        · omega
      have hbT : ∀ k, k < c → bst k < nT M1 := fun k hk => (of_decide_eq_true (hP.2.1 k hk)).1
      have hmb := (msP_b (site := fun t => (M1 2 t).toNatClampNeg) (ord := bst) (c := c) ha (fun k hk => (rng_n (hW.2.2.2.2.1 _ (hbT k hk)).1 (by omega)).2.2) c (Nat.le_refl _)).1
      rw [nI_0] at hway
      simp only [nI_0] at hpl hpn
      have p0 := hpl 0 c0
      rw [nI_0] at p0
      -- the parts are loaded
      obtain ⟨Ma, a1, a2, a3, a4, a5⟩ := ld_1 h (show 0 < 2 by omega) (1, nI r, M1) (gS M1 bst 0 0 c, nI c)
      obtain ⟨Mb, b1, b2, b3, b4, b5⟩ := ld_1 a2 (show 1 < 2 by omega) (1, nI r, M1) (gS M1 bst 0 0 c, nI c)
      rw [nI_0] at a1
      have o : ∀ q, q ≠ 0 → q ≠ 50 → Mb q = M1 q := fun q x z => (b3 q x z).trans (a3 q x z)
      have e500 : Mb 50 0 = nI 20 := (b4 0 (by omega)).trans a5
      have hTb : nT Mb = nT M1 := by unfold nT; rw [o 1 (by omega) (by omega)]
      have hBb : ∀ u, nB Mb u = nB M1 u := fun u => by unfold nB; rw [o 8 (by omega) (by omega)]
      have hnb : ∀ u, needB Mb u = needB M1 u := fun u => by
        unfold needB
        rw [hTb, hBb, o 7 (by omega) (by omega), o 4 (by omega) (by omega), bdS_c (o 15 (by omega) (by omega)) (o 16 (by omega) (by omega)), bdS_c (o 15 (by omega) (by omega)) (o 16 (by omega) (by omega))]
      obtain ⟨Sb, hTb2⟩ := b2.1
      obtain ⟨c', a', bst', hc', -, -, hP', -, -, -, -, g1⟩ := plA hTb2 (show 0 < 2 by omega)
      have c0' : 0 < c' := by
        by_cases q : c' = 0
        · obtain ⟨k, hk, -⟩ := hP'.2.2 (bst 0) (by show needB Mb (bst 0) = true; rw [hnb]; exact hP.2.1 0 c0)
          omega
        · omega
      obtain ⟨gA, -, M0, p7, hR2⟩ := g1 c0'
      rw [nI_0] at gA hR2
      have hcoin : A_go Mb (0 : Int32) = gS M1 bst 0 0 c := by
        rw [gA, pl_sT hP', pl_sT hP, hTb]
        exact sT_c _ (fun t _ => ⟨hnb t, by rw [o 4 (by omega) (by omega)]⟩)
      obtain ⟨hIg, hSg⟩ := ig_go b2 (0 : Int32)
      have fr := go_fr p7 hR2
      have hSb : Sm M1 Mb := ⟨o 1 (by omega) (by omega), o 2 (by omega) (by omega), o 8 (by omega) (by omega), o 22 (by omega) (by omega)⟩
      have hSn : Sm M (N_go Mb (0 : Int32)) := ⟨hSg.1.trans (hSb.1.trans hS.1), hSg.2.1.trans (hSb.2.1.trans hS.2.1), hSg.2.2.1.trans (hSb.2.2.1.trans hS.2.2.1), hSg.2.2.2.trans (hSb.2.2.2.trans hS.2.2.2)⟩
      have hTg : nT (N_go Mb (0 : Int32)) = nT M1 := (Sm_n hSg).1.trans hTb
      have hBg : ∀ u, nB (N_go Mb (0 : Int32)) u = nB M1 u := fun u => ((Sm_n hSg).2.1 u).trans (hBb u)
      obtain ⟨r1, r2, r3⟩ := hR
      have hP2 : Pm c' (fun t => needB M1 t = true) bst' := Pm_q hP' (fun t => by rw [hnb])
      have hun : ∀ t, t < nT M1 → needB M1 t = false → M1 4 t ≤ 19 ∧ cB M1 0 (8 * t) (nB M1 t) = 0 ∧ cB M1 1 (8 * t) (nB M1 t) = 0 := fun t ht hn => by
        have h1 : ¬ nd M1 t (nB M1 t) = true := fun q => by
          have := (needB_i hW ht).mpr ⟨h7 t ht, q⟩
          rw [hn] at this
          exact absurd this (by decide)
        rw [nd_i] at h1
        refine ⟨Decidable.byContradiction (fun q => h1 (Or.inl q)), ?_, ?_⟩
        · by_cases e : cB M1 0 (8 * t) (nB M1 t) = 0
          · exact e
          · exact absurd (Or.inr (Or.inl (by omega))) h1
        · by_cases e : cB M1 1 (8 * t) (nB M1 t) = 0
          · exact e
          · exact absurd (Or.inr (Or.inr (by omega))) h1
      have oM : ∀ q, q ≠ 0 → q ≠ 50 → q ≠ 51 → q ≠ 52 → q ≠ 53 → q ≠ 54 → pM M0 0 0 0 q = M1 q := fun q x z z1 z2 z3 z4 => by rw [pMn x, p7 q z1 z2 z3 z4, o q x z]
      have hT0 : nT (pM M0 0 0 0) = nT M1 := by unfold nT; rw [oM 1 (by omega) (by omega) (by omega) (by omega) (by omega) (by omega)]
      have hB0 : ∀ u, nB (pM M0 0 0 0) u = nB M1 u := fun u => by unfold nB; rw [oM 8 (by omega) (by omega) (by omega) (by omega) (by omega) (by omega)]
      have q50 : ∀ u, pM M0 0 0 0 50 u = Mb 50 u := fun u => by rw [pMn (by omega), p7 50 (by omega) (by omega) (by omega) (by omega)]
      have hRI : RI (r + 1) (N_go Mb (0 : Int32)) := by
        unfold RI
        rw [hTg]
        refine ⟨Or.inr (fun t ht => ?_), ?_, ?_⟩
        · rcases go_4 p7 hR2 t with ⟨e, hn⟩ | ⟨e, -⟩
          · rw [e, o 4 (by omega) (by omega)]
            refine (hun t ht (Bool.eq_false_iff.mpr (fun q => ?_))).1
            obtain ⟨i, hi, q2⟩ := hP2.2.2 t q
            exact hn i hi q2
          · rw [e]; decide
        · exact ri_k (M := M1) (q := 2 * 0) (rr := 16) (by omega) bB_16 hW hT0 hB0 hBg (fun u => by rw [oM 16 (by omega) (by omega) (by omega) (by omega) (by omega) (by omega)]) (by rw [q50]; exact e500) hP2 (fun t ht hn => (hun t ht hn).2.1) hR2.2.2.2.2.2.1 r2
        · exact ri_k (M := M1) (q := 2 * 0 + 1) (rr := 15) (by omega) bB_15 hW hT0 hB0 hBg (fun u => by rw [oM 15 (by omega) (by omega) (by omega) (by omega) (by omega) (by omega)]) (by rw [q50]; exact b5) hP2 (fun t ht hn => (hun t ht hn).2.2) hR2.2.2.2.2.2.2 r3
      have h7g : ∀ t, t < nT (N_go Mb (0 : Int32)) → N_go Mb (0 : Int32) 7 t = -1 := fun t ht => by
        rw [hTg] at ht
        rw [fr 7 (by omega), o 7 (by omega) (by omega)]
        exact h7 t ht
      have hr2 : r ≤ 11 := by omega
      -- one round
      have e7 : lp (bEn7 (1, nI r, M1) (gS M1 bst 0 0 c, nI c)) 3 (1, 0, M1) = some (.inr (.inl (1, nI (r + 1), N_go Mb (0 : Int32)))) := by
        rw [lp_s _ 2 a1, lp_s _ 1 b1]
        refine lp_e _ 0 ?_
        unfold bEn7
        refine st_j ?_
        refine if_t (by show (2 : Int32) ≤ nI (1 + 1); decide) ?_
        refine st_j ?_
        refine st_j ?_
        refine if_f i10 ?_
        refine st_j ?_
        refine if_t hcoin ?_
        refine st_j ?_
        refine st_v (nI_1 r) ?_
        rfl
      have e6 : lp (bEn6 (1, nI r, M1)) 8 (0, 0) = some (.inl (1, nI (r + 1), N_go Mb (0 : Int32))) := by
        refine lp_up (fun k => (gS M1 bst 0 0 k, nI k)) c (by omega) ?_ (fun k hk => ?_) ?_
        · show ((0 : Int32), (0 : Int32)) = (0, nI 0)
          rw [nI_0]
        · unfold bEn6
          refine if_f (by show ¬ A_planned M1 (0 : Int32) (nI k) < 0; rw [hpl k hk]; exact nI_pos (by have := hbT k hk; omega)) ?_
          refine st_v (v1 := gS M1 bst 0 0 (k + 1)) ?_ ?_
          · show gS M1 bst 0 0 k + A_box M1 (A_planned M1 (0 : Int32) (nI k)) = gS M1 bst 0 0 (k + 1)
            rw [hpl k hk, vA_box hW (hbT k hk), gS_a, Nat.zero_add]
          · refine st_v (nI_1 k) ?_
            rfl
        · unfold bEn6
          refine if_t (by show A_planned M1 (0 : Int32) (nI c) < 0; rw [hpn c (Nat.le_refl _) (by omega)]; decide) ?_
          refine st_j ?_
          exact e7
      have e1 : bEn1 I (1, nI r, M1) = some (.inl (1, nI (r + 1), N_go Mb (0 : Int32))) := by
        unfold bEn1
        refine st_j ?_
        refine if_f (by rw [show (12 : Int32) = nI 12 by decide]; exact nI_ge (by omega) (by omega)) ?_
        refine if_f i10 ?_
        refine if_f ?_ ?_
        · show ¬ A_way M1 (0 : Int32) + A_planned M1 (0 : Int32) (0 : Int32) < 0
          rw [hway, p0, nI_add]
          have := hbT 0 c0
          exact nI_pos (by omega)
        · refine st_j ?_
          refine st_j ?_
          exact e6
      rw [lp_s _ f e1]
      exact ih (r + 1) f _ (by omega) (by omega) hIg hSn h7g hRI
theorem ends_ok (h : INV M) (hI : ∀ t, t < 6 → I t = nI (nB M t)) (hX : X < 2 ^ 31) : ∃ M2, fL_ends M I (nI X) = some (1, M2) ∧ INV M2 ∧ Sm M M2 := by
  obtain ⟨S, hT⟩ := h.1
  have hT6 := nT6 hT.1
  have key := lp_ex (body := bEn0 I (nI X)) (P := fun k q => q.1 = 1 ∧ q.2.1 = nI k ∧ INV q.2.2 ∧ Sm M q.2.2 ∧ ∀ u, u < k → q.2.2 7 u = -1) (R := fun r => r.1 = 1 ∧ INV r.2 ∧ Sm M r.2) (nT M) (fun k q hk hP => by
    obtain ⟨p, j, M1⟩ := q
    obtain ⟨rfl, rfl, h1, hS, h7⟩ := hP
    have h1 : INV M1 := h1
    have hS : Sm M M1 := hS
    have h7 : ∀ u, u < k → M1 7 u = -1 := h7
    obtain ⟨S1, hT1⟩ := h1.1
    have eT := (Sm_n hS).1
    have hk1 : k < nT M1 := by rw [eT]; exact hk
    obtain ⟨M2, q1, q2, q3, q4, q5, q6⟩ := en_sh (t := k) hX 1 M1 3 5 M1 h1 hk1 (by
      rcases (hT1.1.2.2.2.2.1 k hk1).2 with q | ⟨g, hg, q, -, -⟩
      · exact Or.inl q
      · exact Or.inr ⟨g, hg, q, nL3 hT1.1 hg⟩) (by omega)
    refine ⟨(1, nI (k + 1), M2), ?_, rfl, rfl, q2, ⟨q3.1.trans hS.1, q3.2.1.trans hS.2.1, q3.2.2.1.trans hS.2.2.1, q3.2.2.2.trans hS.2.2.2⟩, fun u hu => ?_⟩
    · unfold bEn0
      refine st_j ?_
      refine if_f (by show ¬ M1 1 0 ≤ nI k; rw [nT_e hT1.1]; exact nI_ge hk1 (by omega)) ?_
      refine if_f i10 ?_
      exact q1
    · show M2 7 u = -1
      by_cases e : u = k
      · rw [e]; exact q5
      · rw [q6 u e]; exact h7 u (by omega)) (fun q hP => by
    obtain ⟨p, j, M1⟩ := q
    obtain ⟨rfl, rfl, h1, hS, h7⟩ := hP
    have h1 : INV M1 := h1
    have hS : Sm M M1 := hS
    have h7 : ∀ u, u < nT M → M1 7 u = -1 := h7
    obtain ⟨S1, hT1⟩ := h1.1
    have eT := (Sm_n hS).1
    have l0 := tB_le hT1.1 0 (nT M1) (nT6 hT1.1)
    have l1 := tB_le hT1.1 1 (nT M1) (nT6 hT1.1)
    have h6 := nT6 hT1.1
    obtain ⟨M2, q1, q2, q3⟩ := en_rd hI 12 0 13 M1 (by omega) (by omega) h1 hS (fun t ht => h7 t (by rw [← eT]; exact ht)) ⟨Or.inl rfl, Or.inr (by omega), Or.inr (by omega)⟩
    rw [nI_0] at q1
    refine ⟨(1, M2), ?_, rfl, q2, q3⟩
    unfold bEn0
    refine st_j ?_
    refine if_t (by show M1 1 0 ≤ nI (nT M); rw [nT_e hT1.1, eT]; exact Int32.le_refl _) ?_
    refine st_j ?_
    exact q1) (nT M) 0 7 (1, 0, M) (by omega) (by omega) ⟨rfl, nI_0.symm, h, Sm_r M, fun u hu => absurd hu (Nat.not_lt_zero _)⟩
  obtain ⟨⟨p, M2⟩, e, rfl, h2, h3⟩ := key
  refine ⟨M2, ?_, h2, h3⟩
  unfold fL_ends
  refine st_j ?_
  refine st_j ?_
  refine st_j ?_
  exact e
end PEN
