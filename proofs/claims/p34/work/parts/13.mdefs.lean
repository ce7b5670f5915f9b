def fX10_thrown (M : zMs)  : Option Int32 :=
some ((M 0 0))
def fX10_refused (M : zMs) (i_1 : Int32) : Option (Int32 × zMs) :=
st (pM M 0 0 i_1) fun M1 =>
if i_1 = 0 then
some (((0 : Int32), M1))
else
some (((1 : Int32), M1))
def fX10_fine (M : zMs) (i_1 : Int32) : Option (Int32 × zMs) :=
st (pM M 0 0 (0 : Int32)) fun M1 =>
some ((i_1, M1))
def fX10_in (M : zMs) (i_1 : Int32) (i_2 : Int32) (i_3 : Int32) : Option Int32 :=
st (fun (u_ : Unit) => (some ((0 : Int32)) : Option Int32)) fun j1 =>
if i_1 < i_2 then
j1 ()
else
if i_3 < i_1 then
j1 ()
else
some ((1 : Int32))
def fX10_isTable (M : zMs) (i_1 : Int32) : Option Int32 :=
cl (fX10_in M i_1 (0 : Int32) ((M 1 0) - (1 : Int32))) fun r1 =>
some (r1)
def fX10_isSwitch (M : zMs) (i_1 : Int32) (i_2 : Int32) : Option Int32 :=
cl (fX10_isTable M i_1) fun r1 =>
st (fun (u_ : Unit) => (some ((0 : Int32)) : Option Int32)) fun j4 =>
if r1 = 0 then
j4 ()
else
gd (¬ (i_1 < 0 ∨ 6 ≤ i_1.toNatClampNeg)) (
cl (fX10_in M i_2 (0 : Int32) ((M 8 i_1.toNatClampNeg) - (1 : Int32))) fun r5 =>
if r5 = 0 then
j4 ()
else
some ((1 : Int32)))
def fX10_isGame (M : zMs) (i_1 : Int32) : Option Int32 :=
cl (fX10_in M i_1 (0 : Int32) ((M 24 0) - (1 : Int32))) fun r1 =>
some (r1)
def fX10_isVan (M : zMs) (i_1 : Int32) : Option Int32 :=
cl (fX10_in M i_1 (0 : Int32) (1 : Int32)) fun r1 =>
some (r1)
def fX10_isFree (M : zMs) (i_1 : Int32) : Option Int32 :=
gd (¬ (i_1 < 0 ∨ 6 ≤ i_1.toNatClampNeg)) (
if (M 7 i_1.toNatClampNeg) = (-1 : Int32) then
some ((1 : Int32))
else
some ((0 : Int32)))
def fX10_addTable (M : zMs) (i_1 : Int32) (i_2 : Int32) : Option (Int32 × zMs) :=
cl (fX10_in M i_1 (0 : Int32) (100 : Int32)) fun r1 =>
st (fun (y4 : Int32) => (st y4 fun x7 =>
st (fun (y8 : Int32) => (cl2 (fX10_refused M y8) fun r10 M12 =>
if r10 = 0 then
gd (¬ ((M12 1 0) < 0 ∨ 6 ≤ (M12 1 0).toNatClampNeg)) (
st (pM M12 2 (M12 1 0).toNatClampNeg i_1) fun M14 =>
gd (¬ ((M14 1 0) < 0 ∨ 6 ≤ (M14 1 0).toNatClampNeg)) (
st (pM M14 3 (M14 1 0).toNatClampNeg i_2) fun M15 =>
gd (¬ ((M15 1 0) < 0 ∨ 6 ≤ (M15 1 0).toNatClampNeg)) (
st (pM M15 7 (M15 1 0).toNatClampNeg (-1 : Int32)) fun M16 =>
st (pM M16 1 0 ((M16 1 0) + (1 : Int32))) fun M17 =>
some ((((M17 1 0) - (1 : Int32)), M17)))))
else
some (((0 : Int32), M12)) : Option (Int32 × zMs))) fun j9 =>
if x7 = 0 then
j9 (1 : Int32)
else
if (M 1 0) = (6 : Int32) then
j9 (2 : Int32)
else
j9 (0 : Int32) : Option (Int32 × zMs))) fun j6 =>
st (fun (u_ : Unit) => (j6 (0 : Int32) : Option (Int32 × zMs))) fun j18 =>
if r1 = 0 then
j18 ()
else
cl (fX10_in M i_2 (1 : Int32) (9 : Int32)) fun r19 =>
if r19 = 0 then
j18 ()
else
j6 (1 : Int32)
def fX10_addBumper (M : zMs) (i_1 : Int32) (i_2 : Int32) (i_3 : Int32) (i_4 : Int32) (i_5 : Int32) : Option (Int32 × zMs) :=
cl (fX10_in M i_2 (0 : Int32) (159 : Int32)) fun r1 =>
st (fun (y4 : Int32) => (st y4 fun x7 =>
cl (fX10_isTable M i_1) fun r8 =>
st (fun (y11 : Int32) => (st y11 fun x14 =>
cl (fX10_isTable M i_1) fun r15 =>
st (fun (y18 : Int32) => (cl2 (fX10_refused M y18) fun r20 M22 =>
if r20 = 0 then
gd (¬ (i_1 < 0 ∨ 6 ≤ i_1.toNatClampNeg)) (
st (((8 : Int32) * i_1) + (M22 8 i_1.toNatClampNeg)) fun x24 =>
gd (¬ (x24 < 0 ∨ 48 ≤ x24.toNatClampNeg)) (
st (pM M22 9 x24.toNatClampNeg i_2) fun M25 =>
gd (¬ (x24 < 0 ∨ 48 ≤ x24.toNatClampNeg)) (
st (pM M25 10 x24.toNatClampNeg i_3) fun M26 =>
gd (¬ (x24 < 0 ∨ 48 ≤ x24.toNatClampNeg)) (
st (pM M26 11 x24.toNatClampNeg (i_4 / (100 : Int32))) fun M27 =>
gd (¬ (x24 < 0 ∨ 48 ≤ x24.toNatClampNeg)) (
st (pM M27 12 x24.toNatClampNeg (i_4 - i_4 / (100 : Int32) * (100 : Int32))) fun M28 =>
gd (¬ (x24 < 0 ∨ 48 ≤ x24.toNatClampNeg)) (
st (pM M28 13 x24.toNatClampNeg i_5) fun M29 =>
gd (¬ (i_1 < 0 ∨ 6 ≤ i_1.toNatClampNeg)) (
gd (¬ (i_1 < 0 ∨ 6 ≤ i_1.toNatClampNeg)) (
st (pM M29 8 i_1.toNatClampNeg ((M29 8 i_1.toNatClampNeg) + (1 : Int32))) fun M30 =>
gd (¬ (i_1 < 0 ∨ 6 ≤ i_1.toNatClampNeg)) (
some ((((M30 8 i_1.toNatClampNeg) - (1 : Int32)), M30)))))))))))
else
some (((0 : Int32), M22)) : Option (Int32 × zMs))) fun j19 =>
if r15 = 0 then
j19 (1 : Int32)
else
if x7 = 0 then
j19 (2 : Int32)
else
if x14 = 0 then
j19 (3 : Int32)
else
j19 (0 : Int32) : Option (Int32 × zMs))) fun j13 =>
st (fun (u_ : Unit) => (j13 (0 : Int32) : Option (Int32 × zMs))) fun j31 =>
if r8 = 0 then
j31 ()
else
if x7 = 0 then
j31 ()
else
cl (fX10_isFree M i_1) fun r32 =>
if r32 = 0 then
j31 ()
else
gd (¬ (i_1 < 0 ∨ 6 ≤ i_1.toNatClampNeg)) (
if (8 : Int32) ≤ (M 8 i_1.toNatClampNeg) then
j31 ()
else
j13 (1 : Int32)) : Option (Int32 × zMs))) fun j6 =>
st (fun (u_ : Unit) => (j6 (0 : Int32) : Option (Int32 × zMs))) fun j35 =>
if r1 = 0 then
j35 ()
else
cl (fX10_in M i_3 (0 : Int32) (239 : Int32)) fun r36 =>
if r36 = 0 then
j35 ()
else
cl (fX10_in M i_4 (101 : Int32) (6060 : Int32)) fun r39 =>
if r39 = 0 then
j35 ()
else
cl (fX10_in M (i_4 / (100 : Int32)) (1 : Int32) (60 : Int32)) fun r42 =>
if r42 = 0 then
j35 ()
else
cl (fX10_in M (i_4 - i_4 / (100 : Int32) * (100 : Int32)) (1 : Int32) (60 : Int32)) fun r45 =>
if r45 = 0 then
j35 ()
else
cl (fX10_in M i_5 (0 : Int32) (20 : Int32)) fun r48 =>
if r48 = 0 then
j35 ()
else
j6 (1 : Int32)
def fX10_setPoints (M : zMs) (i_1 : Int32) (i_2 : Int32) (i_3 : Int32) : Option (Int32 × zMs) :=
cl (fX10_isSwitch M i_1 i_2) fun r1 =>
st r1 fun x4 =>
cl (fX10_in M i_3 (0 : Int32) (1000 : Int32)) fun r5 =>
st r5 fun x8 =>
st (fun (y9 : Int32) => (cl2 (fX10_refused M y9) fun r11 M13 =>
if r11 = 0 then
gd (¬ ((((8 : Int32) * i_1) + i_2) < 0 ∨ 48 ≤ (((8 : Int32) * i_1) + i_2).toNatClampNeg)) (
st (M13 14 (((8 : Int32) * i_1) + i_2).toNatClampNeg) fun x15 =>
gd (¬ ((((8 : Int32) * i_1) + i_2) < 0 ∨ 48 ≤ (((8 : Int32) * i_1) + i_2).toNatClampNeg)) (
st (pM M13 14 (((8 : Int32) * i_1) + i_2).toNatClampNeg i_3) fun M16 =>
some ((x15, M16))))
else
some (((0 : Int32), M13)) : Option (Int32 × zMs))) fun j10 =>
if x4 = 0 then
j10 (1 : Int32)
else
if x8 = 0 then
j10 (2 : Int32)
else
cl (fX10_isFree M i_1) fun r17 =>
if r17 = 0 then
j10 (3 : Int32)
else
j10 (0 : Int32)
def fX10_setMode (M : zMs) (i_1 : Int32) (i_2 : Int32) (i_3 : Int32) (i_4 : Int32) (i_5 : Int32) : Option (Int32 × zMs) :=
cl (fX10_isTable M i_1) fun r1 =>
st (fun (y4 : Int32) => (st y4 fun x7 =>
st (fun (y8 : Int32) => (st y8 fun x11 =>
st (fun (y12 : Int32) => (st y12 fun x15 =>
st (fun (y16 : Int32) => (cl2 (fX10_refused M y16) fun r18 M20 =>
if r18 = 0 then
st (((4 : Int32) * i_1) + i_2) fun x22 =>
gd (¬ (x22 < 0 ∨ 24 ≤ x22.toNatClampNeg)) (
st (fun (y23 : Int32) => (st y23 fun x26 =>
st (fun (y27 : Int32) => (gd (¬ (x22 < 0 ∨ 24 ≤ x22.toNatClampNeg)) (
st (pM M20 17 x22.toNatClampNeg y27) fun M29 =>
st (fun (y30 : Int32) => (gd (¬ (x22 < 0 ∨ 24 ≤ x22.toNatClampNeg)) (
st (pM M29 18 x22.toNatClampNeg y30) fun M32 =>
gd (¬ (x22 < 0 ∨ 24 ≤ x22.toNatClampNeg)) (
st (pM M32 19 x22.toNatClampNeg (i_4 / (100 : Int32))) fun M33 =>
gd (¬ (x22 < 0 ∨ 24 ≤ x22.toNatClampNeg)) (
st (pM M33 20 x22.toNatClampNeg (i_4 - i_4 / (100 : Int32) * (100 : Int32))) fun M34 =>
gd (¬ (x22 < 0 ∨ 24 ≤ x22.toNatClampNeg)) (
st (pM M34 21 x22.toNatClampNeg i_5) fun M35 =>
some ((x26, M35)))))) : Option (Int32 × zMs))) fun j31 =>
if i_3 = (-1 : Int32) then
j31 (0 : Int32)
else
j31 (i_3 - i_3 / (10 : Int32) * (10 : Int32))) : Option (Int32 × zMs))) fun j28 =>
if i_3 = (-1 : Int32) then
j28 (-1 : Int32)
else
j28 (i_3 / (10 : Int32)) : Option (Int32 × zMs))) fun j25 =>
if (M20 17 x22.toNatClampNeg) = (-1 : Int32) then
j25 (0 : Int32)
else
j25 (1 : Int32))
else
some (((0 : Int32), M20)) : Option (Int32 × zMs))) fun j17 =>
if x7 = 0 then
j17 (1 : Int32)
else
if x11 = 0 then
j17 (2 : Int32)
else
if x15 = 0 then
j17 (3 : Int32)
else
j17 (0 : Int32) : Option (Int32 × zMs))) fun j14 =>
st (fun (u_ : Unit) => (j14 (0 : Int32) : Option (Int32 × zMs))) fun j36 =>
if x7 = 0 then
j36 ()
else
if x11 = 0 then
j36 ()
else
cl (fX10_isFree M i_1) fun r37 =>
if r37 = 0 then
j36 ()
else
j14 (1 : Int32) : Option (Int32 × zMs))) fun j10 =>
st (fun (u_ : Unit) => (j10 (0 : Int32) : Option (Int32 × zMs))) fun j40 =>
if i_3 < (-1 : Int32) then
j40 ()
else
if i_4 < 0 then
j40 ()
else
cl (fX10_in M (i_4 / (100 : Int32)) (1 : Int32) (20 : Int32)) fun r41 =>
if r41 = 0 then
j40 ()
else
cl (fX10_in M (i_4 - i_4 / (100 : Int32) * (100 : Int32)) (2 : Int32) (9 : Int32)) fun r44 =>
if r44 = 0 then
j40 ()
else
cl (fX10_in M i_5 (0 : Int32) (5000 : Int32)) fun r47 =>
if r47 = 0 then
j40 ()
else
j10 (1 : Int32) : Option (Int32 × zMs))) fun j6 =>
st (fun (u_ : Unit) => (j6 (0 : Int32) : Option (Int32 × zMs))) fun j50 =>
if r1 = 0 then
j50 ()
else
cl (fX10_in M i_2 (0 : Int32) (3 : Int32)) fun r51 =>
if r51 = 0 then
j50 ()
else
st (fun (u_ : Unit) => (j6 (1 : Int32) : Option (Int32 × zMs))) fun j54 =>
if i_3 < 0 then
j54 ()
else
cl (fX10_isSwitch M i_1 (i_3 / (10 : Int32))) fun r55 =>
if r55 = 0 then
j50 ()
else
cl (fX10_isSwitch M i_1 (i_3 - i_3 / (10 : Int32) * (10 : Int32))) fun r58 =>
if r58 = 0 then
j50 ()
else
j54 ()
def fX10_tables (M : zMs)  : Option (Int32 × zMs) :=
cl2 (fX10_fine M (M 1 0)) fun r1 M3 =>
some ((r1, M3))
def fX10_stick (M : zMs) (i_1 : Int32) (i_2 : Int32) : Option (Int32 × zMs) :=
cl (fX10_isSwitch M i_1 i_2) fun r1 =>
st r1 fun x4 =>
st (fun (y5 : Int32) => (st y5 fun x8 =>
st (fun (y9 : Int32) => (cl2 (fX10_refused M y9) fun r11 M13 =>
if r11 = 0 then
gd (¬ ((((8 : Int32) * i_1) + i_2) < 0 ∨ 48 ≤ (((8 : Int32) * i_1) + i_2).toNatClampNeg)) (
st (pM M13 16 (((8 : Int32) * i_1) + i_2).toNatClampNeg (M13 22 0)) fun M15 =>
st (pM M15 22 0 ((M15 22 0) + (1 : Int32))) fun M16 =>
some ((((M16 22 0) - (1 : Int32)), M16)))
else
some (((0 : Int32), M13)) : Option (Int32 × zMs))) fun j10 =>
if x4 = 0 then
j10 (1 : Int32)
else
if x8 = 0 then
j10 (2 : Int32)
else
j10 (0 : Int32) : Option (Int32 × zMs))) fun j7 =>
st (fun (u_ : Unit) => (j7 (0 : Int32) : Option (Int32 × zMs))) fun j17 =>
if x4 = 0 then
j17 ()
else
gd (¬ ((((8 : Int32) * i_1) + i_2) < 0 ∨ 48 ≤ (((8 : Int32) * i_1) + i_2).toNatClampNeg)) (
if (M 16 (((8 : Int32) * i_1) + i_2).toNatClampNeg) = (-1 : Int32) then
if (60 : Int32) ≤ (M 22 0) then
j17 ()
else
j7 (1 : Int32)
else
j17 ())
def fX10_noSwitch (M : zMs) (i_1 : Int32) (i_2 : Int32) : Option (Int32 × zMs) :=
cl (fX10_isSwitch M i_1 i_2) fun r1 =>
st (fun (y4 : Int32) => (cl2 (fX10_refused M y4) fun r7 M9 =>
some ((r7, M9)) : Option (Int32 × zMs))) fun j6 =>
if r1 = 0 then
j6 (1 : Int32)
else
j6 (0 : Int32)
def fX10_sticks (M : zMs) (i_1 : Int32) (i_2 : Int32) : Option (Int32 × zMs) :=
cl2 (fX10_noSwitch M i_1 i_2) fun r1 M3 =>
st (fun (u_ : Unit) => (some (((0 : Int32), M3)) : Option (Int32 × zMs))) fun j5 =>
if r1 = 0 then
gd (¬ ((((8 : Int32) * i_1) + i_2) < 0 ∨ 48 ≤ (((8 : Int32) * i_1) + i_2).toNatClampNeg)) (
if (M3 16 (((8 : Int32) * i_1) + i_2).toNatClampNeg) = (-1 : Int32) then
j5 ()
else
some (((1 : Int32), M3)))
else
j5 ()
def fX10_wear (M : zMs) (i_1 : Int32) (i_2 : Int32) : Option (Int32 × zMs) :=
cl2 (fX10_noSwitch M i_1 i_2) fun r1 M3 =>
if r1 = 0 then
gd (¬ ((((8 : Int32) * i_1) + i_2) < 0 ∨ 48 ≤ (((8 : Int32) * i_1) + i_2).toNatClampNeg)) (
some (((M3 15 (((8 : Int32) * i_1) + i_2).toNatClampNeg), M3)))
else
some (((0 : Int32), M3))
def fX10_coin (M : zMs) (i_1 : Int32) : Option (Int32 × zMs) :=
cl (fX10_isTable M i_1) fun r1 =>
st (fun (y4 : Int32) => (st y4 fun x7 =>
cl (fX10_isTable M i_1) fun r8 =>
st (fun (y11 : Int32) => (cl2 (fX10_refused M y11) fun r13 M15 =>
if r13 = 0 then
st (M15 24 0) fun x17 =>
gd (¬ (x17 < 0 ∨ 40 ≤ x17.toNatClampNeg)) (
st (pM M15 25 x17.toNatClampNeg i_1) fun M18 =>
gd (¬ (x17 < 0 ∨ 40 ≤ x17.toNatClampNeg)) (
st (pM M18 26 x17.toNatClampNeg (3 : Int32)) fun M19 =>
st (0 : Int32) fun x20 =>
lp (fun (q21 : (Int32 × zMs)) => (if (8 : Int32) ≤ q21.1 then
st (0 : Int32) fun x27 =>
lp (fun (q28 : (Int32 × zMs)) => (if (4 : Int32) ≤ q28.1 then
gd (¬ (i_1 < 0 ∨ 6 ≤ i_1.toNatClampNeg)) (
gd (¬ (i_1 < 0 ∨ 6 ≤ i_1.toNatClampNeg)) (
gd (¬ (i_1 < 0 ∨ 6 ≤ i_1.toNatClampNeg)) (
st (pM q28.2 4 i_1.toNatClampNeg ((q28.2 4 i_1.toNatClampNeg) + (q28.2 3 i_1.toNatClampNeg))) fun M34 =>
gd (¬ (i_1 < 0 ∨ 6 ≤ i_1.toNatClampNeg)) (
gd (¬ (i_1 < 0 ∨ 6 ≤ i_1.toNatClampNeg)) (
gd (¬ (i_1 < 0 ∨ 6 ≤ i_1.toNatClampNeg)) (
st (pM M34 5 i_1.toNatClampNeg ((M34 5 i_1.toNatClampNeg) + (M34 3 i_1.toNatClampNeg))) fun M35 =>
gd (¬ (i_1 < 0 ∨ 6 ≤ i_1.toNatClampNeg)) (
st (pM M35 7 i_1.toNatClampNeg x17) fun M36 =>
st (pM M36 24 0 ((M36 24 0) + (1 : Int32))) fun M37 =>
some (.inr (.inr ((x17, M37)))))))))))
else
gd (¬ ((((4 : Int32) * i_1) + q28.1) < 0 ∨ 24 ≤ (((4 : Int32) * i_1) + q28.1).toNatClampNeg)) (
gd (¬ ((((4 : Int32) * x17) + q28.1) < 0 ∨ 160 ≤ (((4 : Int32) * x17) + q28.1).toNatClampNeg)) (
st (pM q28.2 29 (((4 : Int32) * x17) + q28.1).toNatClampNeg (q28.2 17 (((4 : Int32) * i_1) + q28.1).toNatClampNeg)) fun M38 =>
gd (¬ ((((4 : Int32) * i_1) + q28.1) < 0 ∨ 24 ≤ (((4 : Int32) * i_1) + q28.1).toNatClampNeg)) (
gd (¬ ((((4 : Int32) * x17) + q28.1) < 0 ∨ 160 ≤ (((4 : Int32) * x17) + q28.1).toNatClampNeg)) (
st (pM M38 30 (((4 : Int32) * x17) + q28.1).toNatClampNeg (M38 18 (((4 : Int32) * i_1) + q28.1).toNatClampNeg)) fun M39 =>
gd (¬ ((((4 : Int32) * i_1) + q28.1) < 0 ∨ 24 ≤ (((4 : Int32) * i_1) + q28.1).toNatClampNeg)) (
gd (¬ ((((4 : Int32) * x17) + q28.1) < 0 ∨ 160 ≤ (((4 : Int32) * x17) + q28.1).toNatClampNeg)) (
st (pM M39 31 (((4 : Int32) * x17) + q28.1).toNatClampNeg (M39 19 (((4 : Int32) * i_1) + q28.1).toNatClampNeg)) fun M40 =>
gd (¬ ((((4 : Int32) * i_1) + q28.1) < 0 ∨ 24 ≤ (((4 : Int32) * i_1) + q28.1).toNatClampNeg)) (
gd (¬ ((((4 : Int32) * x17) + q28.1) < 0 ∨ 160 ≤ (((4 : Int32) * x17) + q28.1).toNatClampNeg)) (
st (pM M40 32 (((4 : Int32) * x17) + q28.1).toNatClampNeg (M40 20 (((4 : Int32) * i_1) + q28.1).toNatClampNeg)) fun M41 =>
gd (¬ ((((4 : Int32) * i_1) + q28.1) < 0 ∨ 24 ≤ (((4 : Int32) * i_1) + q28.1).toNatClampNeg)) (
gd (¬ ((((4 : Int32) * x17) + q28.1) < 0 ∨ 160 ≤ (((4 : Int32) * x17) + q28.1).toNatClampNeg)) (
st (pM M41 33 (((4 : Int32) * x17) + q28.1).toNatClampNeg (M41 21 (((4 : Int32) * i_1) + q28.1).toNatClampNeg)) fun M42 =>
st (q28.1 + (1 : Int32)) fun x43 =>
some (.inl (x43, M42)))))))))))) : Option ((Int32 × zMs) ⊕ ((Int32 × zMs) ⊕ (Int32 × zMs))))) 40000 (x27, q21.2)
else
gd (¬ ((((8 : Int32) * i_1) + q21.1) < 0 ∨ 48 ≤ (((8 : Int32) * i_1) + q21.1).toNatClampNeg)) (
gd (¬ ((((8 : Int32) * x17) + q21.1) < 0 ∨ 320 ≤ (((8 : Int32) * x17) + q21.1).toNatClampNeg)) (
st (pM q21.2 28 (((8 : Int32) * x17) + q21.1).toNatClampNeg (q21.2 14 (((8 : Int32) * i_1) + q21.1).toNatClampNeg)) fun M44 =>
st (q21.1 + (1 : Int32)) fun x45 =>
some (.inl (x45, M44)))) : Option ((Int32 × zMs) ⊕ (Int32 × zMs)))) 40000 (x20, M19)))
else
some (((0 : Int32), M15)) : Option (Int32 × zMs))) fun j12 =>
if r8 = 0 then
j12 (1 : Int32)
else
if x7 = 0 then
j12 (2 : Int32)
else
j12 (0 : Int32) : Option (Int32 × zMs))) fun j6 =>
st (fun (u_ : Unit) => (j6 (0 : Int32) : Option (Int32 × zMs))) fun j46 =>
if r1 = 0 then
j46 ()
else
cl (fX10_isFree M i_1) fun r47 =>
if r47 = 0 then
j46 ()
else
if (40 : Int32) ≤ (M 24 0) then
j46 ()
else
j6 (1 : Int32)
def fX10_isOn (M : zMs) (i_1 : Int32) : Option Int32 :=
st (0 : Int32) fun x1 =>
st (0 : Int32) fun x2 =>
lp (fun (q3 : (Int32 × Int32)) => (if (M 42 0) ≤ q3.2 then
some (.inr (q3.1))
else
st (fun (y10 : Int32) => (st y10 fun x13 =>
st (q3.2 + (1 : Int32)) fun x14 =>
some (.inl (x13, x14)) : Option ((Int32 × Int32) ⊕ Int32))) fun j12 =>
st (fun (u_ : Unit) => (j12 (1 : Int32) : Option ((Int32 × Int32) ⊕ Int32))) fun j15 =>
if q3.1 = 0 then
gd (¬ (q3.2 < 0 ∨ 3 ≤ q3.2.toNatClampNeg)) (
if (M 43 q3.2.toNatClampNeg) = i_1 then
j15 ()
else
j12 (0 : Int32))
else
j15 () : Option ((Int32 × Int32) ⊕ Int32))) 40000 (x1, x2)
def fX10_close (M : zMs) (i_1 : Int32) : Option zMs :=
st (fun (y1 : Int32) => (st y1 fun x3 =>
st (fun (y4 : Int32) => (st y4 fun x6 =>
gd (¬ ((((8 : Int32) * (M 40 0)) + i_1) < 0 ∨ 320 ≤ (((8 : Int32) * (M 40 0)) + i_1).toNatClampNeg)) (
st (pM M 41 0 ((M 41 0) + (x6 * (M 28 (((8 : Int32) * (M 40 0)) + i_1).toNatClampNeg)))) fun M7 =>
st (fun (S8 : zMs) => (st (0 : Int32) fun x10 =>
lp (fun (q11 : (Int32)) => (if (4 : Int32) ≤ q11 then
some (.inr (S8))
else
if (3 : Int32) ≤ (S8 42 0) then
some (.inr (S8))
else
gd (¬ ((((4 : Int32) * (S8 40 0)) + q11) < 0 ∨ 160 ≤ (((4 : Int32) * (S8 40 0)) + q11).toNatClampNeg)) (
st (fun (u_ : Unit) => (st (q11 + (1 : Int32)) fun x18 =>
some (.inl (x18)) : Option ((Int32) ⊕ zMs))) fun j17 =>
if (S8 29 (((4 : Int32) * (S8 40 0)) + q11).toNatClampNeg) = i_1 then
cl (fX10_isOn S8 q11) fun r19 =>
if r19 = 0 then
gd (¬ ((S8 42 0) < 0 ∨ 3 ≤ (S8 42 0).toNatClampNeg)) (
st (pM S8 43 (S8 42 0).toNatClampNeg q11) fun M22 =>
gd (¬ ((M22 42 0) < 0 ∨ 3 ≤ (M22 42 0).toNatClampNeg)) (
st (pM M22 44 (M22 42 0).toNatClampNeg (0 : Int32)) fun M23 =>
st (pM M23 42 0 ((M23 42 0) + (1 : Int32))) fun M24 =>
some (.inr (M24))))
else
j17 ()
else
j17 ()) : Option ((Int32) ⊕ zMs))) 40000 (x10) : Option zMs)) fun j9 =>
if (M7 42 0) ≤ 0 then
j9 M7
else
gd (¬ (((M7 42 0) - (1 : Int32)) < 0 ∨ 3 ≤ ((M7 42 0) - (1 : Int32)).toNatClampNeg)) (
gd (¬ (((M7 42 0) - (1 : Int32)) < 0 ∨ 3 ≤ ((M7 42 0) - (1 : Int32)).toNatClampNeg)) (
st (pM M7 44 ((M7 42 0) - (1 : Int32)).toNatClampNeg ((M7 44 ((M7 42 0) - (1 : Int32)).toNatClampNeg) + (1 : Int32))) fun M25 =>
gd (¬ (x3 < 0 ∨ 160 ≤ x3.toNatClampNeg)) (
st (fun (u_ : Unit) => (gd (¬ (x3 < 0 ∨ 160 ≤ x3.toNatClampNeg)) (
st (pM M25 41 0 ((M25 41 0) + (M25 33 x3.toNatClampNeg))) fun M27 =>
st (pM M27 42 0 ((M27 42 0) - (1 : Int32))) fun M28 =>
some (M28)) : Option zMs)) fun j26 =>
if i_1 = (M25 30 x3.toNatClampNeg) then
j26 ()
else
gd (¬ (((M25 42 0) - (1 : Int32)) < 0 ∨ 3 ≤ ((M25 42 0) - (1 : Int32)).toNatClampNeg)) (
gd (¬ (x3 < 0 ∨ 160 ≤ x3.toNatClampNeg)) (
if (M25 44 ((M25 42 0) - (1 : Int32)).toNatClampNeg) = (M25 31 x3.toNatClampNeg) then
j26 ()
else
j9 M25)))))) : Option zMs)) fun j5 =>
if (M 42 0) = 0 then
j5 (1 : Int32)
else
gd (¬ (x3 < 0 ∨ 160 ≤ x3.toNatClampNeg)) (
j5 (M 32 x3.toNatClampNeg)) : Option zMs)) fun j2 =>
if (M 42 0) = 0 then
j2 (-1 : Int32)
else
gd (¬ (((M 42 0) - (1 : Int32)) < 0 ∨ 3 ≤ ((M 42 0) - (1 : Int32)).toNatClampNeg)) (
j2 (((4 : Int32) * (M 40 0)) + (M 43 ((M 42 0) - (1 : Int32)).toNatClampNeg)))
def fX10_bumperAt (M : zMs) (i_1 : Int32) (i_2 : Int32) (i_3 : Int32) : Option Int32 :=
st (-1 : Int32) fun x1 =>
gd (¬ (i_1 < 0 ∨ 6 ≤ i_1.toNatClampNeg)) (
st ((M 8 i_1.toNatClampNeg) - (1 : Int32)) fun x2 =>
lp (fun (q3 : (Int32 × Int32)) => (if q3.2 < 0 then
some (.inr (q3.1))
else
st (((8 : Int32) * i_1) + q3.2) fun x9 =>
gd (¬ (x9 < 0 ∨ 48 ≤ x9.toNatClampNeg)) (
gd (¬ (x9 < 0 ∨ 48 ≤ x9.toNatClampNeg)) (
gd (¬ (x9 < 0 ∨ 48 ≤ x9.toNatClampNeg)) (
cl (fX10_in M i_2 (M 9 x9.toNatClampNeg) (((M 9 x9.toNatClampNeg) + (M 11 x9.toNatClampNeg)) - (1 : Int32))) fun r10 =>
st (fun (y13 : Int32) => (st y13 fun x15 =>
st (q3.2 + (-1 : Int32)) fun x16 =>
some (.inl (x15, x16)) : Option ((Int32 × Int32) ⊕ Int32))) fun j14 =>
st (fun (u_ : Unit) => (j14 q3.1 : Option ((Int32 × Int32) ⊕ Int32))) fun j17 =>
if r10 = 0 then
j17 ()
else
gd (¬ (x9 < 0 ∨ 48 ≤ x9.toNatClampNeg)) (
gd (¬ (x9 < 0 ∨ 48 ≤ x9.toNatClampNeg)) (
gd (¬ (x9 < 0 ∨ 48 ≤ x9.toNatClampNeg)) (
cl (fX10_in M i_3 (M 10 x9.toNatClampNeg) (((M 10 x9.toNatClampNeg) + (M 12 x9.toNatClampNeg)) - (1 : Int32))) fun r18 =>
if r18 = 0 then
j17 ()
else
j14 q3.2)))))) : Option ((Int32 × Int32) ⊕ Int32))) 40000 (x1, x2))
def fX10_kicked (M : zMs) (i_1 : Int32) (i_2 : Int32) (i_3 : Int32) : Option Int32 :=
st (((8 : Int32) * i_1) + i_2) fun x1 =>
st (-i_3) fun x2 =>
if x2 = 0 then
some (x2)
else
gd (¬ (x1 < 0 ∨ 48 ≤ x1.toNatClampNeg)) (
if (M 15 x1.toNatClampNeg) < (40 : Int32) then
st (fun (y3 : Int32) => (gd (¬ (x1 < 0 ∨ 48 ≤ x1.toNatClampNeg)) (
st (y3 + (M 13 x1.toNatClampNeg)) fun x5 =>
st (fun (y6 : Int32) => (st y6 fun x8 =>
if 0 ≤ x2 then
some (x8)
else
some ((-x8)) : Option Int32)) fun j7 =>
if x5 ≤ (30 : Int32) then
j7 x5
else
j7 (30 : Int32)) : Option Int32)) fun j4 =>
if 0 ≤ x2 then
j4 x2
else
j4 (-x2)
else
some (x2))
def fX10_strike (M : zMs) (i_1 : Int32) (i_2 : Int32) : Option (Int32 × zMs) :=
if i_2 = (-1 : Int32) then
some (((0 : Int32), M))
else
gd (¬ ((((8 : Int32) * i_1) + i_2) < 0 ∨ 48 ≤ (((8 : Int32) * i_1) + i_2).toNatClampNeg)) (
gd (¬ ((((8 : Int32) * i_1) + i_2) < 0 ∨ 48 ≤ (((8 : Int32) * i_1) + i_2).toNatClampNeg)) (
st (pM M 15 (((8 : Int32) * i_1) + i_2).toNatClampNeg ((M 15 (((8 : Int32) * i_1) + i_2).toNatClampNeg) + (1 : Int32))) fun M1 =>
gd (¬ ((((8 : Int32) * i_1) + i_2) < 0 ∨ 48 ≤ (((8 : Int32) * i_1) + i_2).toNatClampNeg)) (
if (M1 16 (((8 : Int32) * i_1) + i_2).toNatClampNeg) = (-1 : Int32) then
cl (fX10_close M1 i_2) fun M4 =>
some (((i_2 + (1 : Int32)), M4))
else
some (((0 : Int32), M1)))))
def fX10_keep (M : zMs) (i_1 : Int32) : Option zMs :=
gd (¬ (i_1 < 0 ∨ 40 ≤ i_1.toNatClampNeg)) (
st (pM M 27 i_1.toNatClampNeg (M 41 0)) fun M1 =>
gd (¬ (i_1 < 0 ∨ 40 ≤ i_1.toNatClampNeg)) (
st (pM M1 34 i_1.toNatClampNeg (M1 42 0)) fun M2 =>
st (0 : Int32) fun x3 =>
lp (fun (q4 : (Int32 × zMs)) => (if (3 : Int32) ≤ q4.1 then
some (.inr (q4.2))
else
gd (¬ (q4.1 < 0 ∨ 3 ≤ q4.1.toNatClampNeg)) (
gd (¬ ((((3 : Int32) * i_1) + q4.1) < 0 ∨ 120 ≤ (((3 : Int32) * i_1) + q4.1).toNatClampNeg)) (
st (pM q4.2 35 (((3 : Int32) * i_1) + q4.1).toNatClampNeg (q4.2 43 q4.1.toNatClampNeg)) fun M10 =>
gd (¬ (q4.1 < 0 ∨ 3 ≤ q4.1.toNatClampNeg)) (
gd (¬ ((((3 : Int32) * i_1) + q4.1) < 0 ∨ 120 ≤ (((3 : Int32) * i_1) + q4.1).toNatClampNeg)) (
st (pM M10 36 (((3 : Int32) * i_1) + q4.1).toNatClampNeg (M10 44 q4.1.toNatClampNeg)) fun M11 =>
st (q4.1 + (1 : Int32)) fun x12 =>
some (.inl (x12, M11)))))) : Option ((Int32 × zMs) ⊕ zMs))) 40000 (x3, M2)))
def fX10_load (M : zMs) (i_1 : Int32) : Option zMs :=
st (pM M 40 0 i_1) fun M1 =>
gd (¬ (i_1 < 0 ∨ 40 ≤ i_1.toNatClampNeg)) (
st (pM M1 41 0 (M1 27 i_1.toNatClampNeg)) fun M2 =>
gd (¬ (i_1 < 0 ∨ 40 ≤ i_1.toNatClampNeg)) (
st (pM M2 42 0 (M2 34 i_1.toNatClampNeg)) fun M3 =>
st (0 : Int32) fun x4 =>
lp (fun (q5 : (Int32 × zMs)) => (if (3 : Int32) ≤ q5.1 then
some (.inr (q5.2))
else
gd (¬ ((((3 : Int32) * i_1) + q5.1) < 0 ∨ 120 ≤ (((3 : Int32) * i_1) + q5.1).toNatClampNeg)) (
gd (¬ (q5.1 < 0 ∨ 3 ≤ q5.1.toNatClampNeg)) (
st (pM q5.2 43 q5.1.toNatClampNeg (q5.2 35 (((3 : Int32) * i_1) + q5.1).toNatClampNeg)) fun M11 =>
gd (¬ ((((3 : Int32) * i_1) + q5.1) < 0 ∨ 120 ≤ (((3 : Int32) * i_1) + q5.1).toNatClampNeg)) (
gd (¬ (q5.1 < 0 ∨ 3 ≤ q5.1.toNatClampNeg)) (
st (pM M11 44 q5.1.toNatClampNeg (M11 36 (((3 : Int32) * i_1) + q5.1).toNatClampNeg)) fun M12 =>
st (q5.1 + (1 : Int32)) fun x13 =>
some (.inl (x13, M12)))))) : Option ((Int32 × zMs) ⊕ zMs))) 40000 (x4, M3)))
def fX10_roll (M : zMs) (i_1 : Int32) (i_2 : Int32) (i_3 : Int32) (i_4 : Int32) (i_5 : Int32) : Option zMs :=
st i_3 fun x1 =>
st (0 : Int32) fun x2 =>
st i_4 fun x3 =>
st i_5 fun x4 =>
st (0 : Int32) fun x5 =>
st (0 : Int32) fun x6 =>
lp (fun (q7 : (Int32 × Int32 × Int32 × Int32 × Int32 × Int32 × zMs)) => (st (fun (u_ : Unit) => (gd (¬ (i_2 < 0 ∨ 120 ≤ i_2.toNatClampNeg)) (
st (pM q7.2.2.2.2.2.2 37 i_2.toNatClampNeg q7.2.2.2.2.2.1) fun M14 =>
some (.inr (M14))) : Option ((Int32 × Int32 × Int32 × Int32 × Int32 × Int32 × zMs) ⊕ zMs))) fun j13 =>
if q7.2.2.2.2.1 = 0 then
if (300 : Int32) ≤ q7.2.2.2.2.2.1 then
j13 ()
else
st (q7.2.2.2.2.2.1 + (1 : Int32)) fun x15 =>
st (fun (y16 : Int32) => (st y16 fun x18 =>
st q7.1 fun x19 =>
st (q7.1 + q7.2.2.1) fun x20 =>
st (fun (y21 : Int32) (y22 : Int32) => (cl (fX10_bumperAt q7.2.2.2.2.2.2 i_1 y21 q7.2.1) fun r24 =>
st r24 fun x26 =>
st (fun (y27 : Int32) (y28 : Int32) => (st q7.2.1 fun x30 =>
st (-1 : Int32) fun x31 =>
st (q7.2.1 + x18) fun x32 =>
st (fun (y33 : Int32) => (st y33 fun x36 =>
st (fun (y37 : Int32) (y38 : Int32) (y39 : Int32) => (cl2 (fX10_strike q7.2.2.2.2.2.2 i_1 x26) fun r41 M43 =>
st r41 fun x44 =>
cl2 (fX10_strike M43 i_1 y39) fun r45 M47 =>
gd (¬ (((((300 : Int32) * i_2) + x15) - (1 : Int32)) < 0 ∨ 36000 ≤ ((((300 : Int32) * i_2) + x15) - (1 : Int32)).toNatClampNeg)) (
st (pM M47 38 ((((300 : Int32) * i_2) + x15) - (1 : Int32)).toNatClampNeg (x44 + ((9 : Int32) * r45))) fun M48 =>
st (0 : Int32) fun x49 =>
lp (fun (q50 : (Int32 × zMs)) => (st (fun (u_ : Unit) => (some (.inr (.inl (y27, y37, y28, y38, x36, x15, q50.2))) : Option ((Int32 × zMs) ⊕ ((Int32 × Int32 × Int32 × Int32 × Int32 × Int32 × zMs) ⊕ zMs)))) fun j56 =>
if (8 : Int32) ≤ q50.1 then
j56 ()
else
if (x15 - x15 / (10 : Int32) * (10 : Int32)) = 0 then
gd (¬ ((((8 : Int32) * i_2) + q50.1) < 0 ∨ 960 ≤ (((8 : Int32) * i_2) + q50.1).toNatClampNeg)) (
st (fun (S57 : zMs) => (st (q50.1 + (1 : Int32)) fun x59 =>
some (.inl (x59, S57)) : Option ((Int32 × zMs) ⊕ ((Int32 × Int32 × Int32 × Int32 × Int32 × Int32 × zMs) ⊕ zMs)))) fun j58 =>
if (q50.2 39 (((8 : Int32) * i_2) + q50.1).toNatClampNeg) ≤ 0 then
j58 q50.2
else
cl (fX10_close q50.2 q50.1) fun M62 =>
j58 M62)
else
j56 () : Option ((Int32 × zMs) ⊕ ((Int32 × Int32 × Int32 × Int32 × Int32 × Int32 × zMs) ⊕ zMs)))) 40000 (x49, M48)) : Option ((Int32 × Int32 × Int32 × Int32 × Int32 × Int32 × zMs) ⊕ zMs))) fun j40 =>
if x36 = 0 then
st (fun (y63 : Int32) (y64 : Int32) => (cl (fX10_bumperAt q7.2.2.2.2.2.2 i_1 y27 y63) fun r66 =>
st r66 fun x68 =>
if x68 = (-1 : Int32) then
j40 y63 y64 x68
else
st x30 fun x69 =>
cl (fX10_kicked q7.2.2.2.2.2.2 i_1 x68 y64) fun r70 =>
st r70 fun x72 =>
j40 x69 x72 x68 : Option ((Int32 × Int32 × Int32 × Int32 × Int32 × Int32 × zMs) ⊕ zMs))) fun j65 =>
if 0 ≤ x32 then
j65 x32 x18
else
st (-x32) fun x73 =>
st (-x18) fun x74 =>
j65 x73 x74
else
j40 x32 x18 x31 : Option ((Int32 × Int32 × Int32 × Int32 × Int32 × Int32 × zMs) ⊕ zMs))) fun j35 =>
if x32 ≤ (239 : Int32) then
j35 (0 : Int32)
else
j35 (1 : Int32) : Option ((Int32 × Int32 × Int32 × Int32 × Int32 × Int32 × zMs) ⊕ zMs))) fun j29 =>
if x26 = (-1 : Int32) then
j29 y21 y22
else
st x19 fun x75 =>
cl (fX10_kicked q7.2.2.2.2.2.2 i_1 x26 y22) fun r76 =>
st r76 fun x78 =>
j29 x75 x78 : Option ((Int32 × Int32 × Int32 × Int32 × Int32 × Int32 × zMs) ⊕ zMs))) fun j23 =>
st (fun (u_ : Unit) => (st (fun (y80 : Int32) => (st y80 fun x82 =>
st (-q7.2.2.1) fun x83 =>
j23 x82 x83 : Option ((Int32 × Int32 × Int32 × Int32 × Int32 × Int32 × zMs) ⊕ zMs))) fun j81 =>
if 0 ≤ x20 then
j81 ((318 : Int32) - x20)
else
j81 (-x20) : Option ((Int32 × Int32 × Int32 × Int32 × Int32 × Int32 × zMs) ⊕ zMs))) fun j79 =>
if x20 < 0 then
j79 ()
else
if x20 ≤ (159 : Int32) then
j23 x20 q7.2.2.1
else
j79 () : Option ((Int32 × Int32 × Int32 × Int32 × Int32 × Int32 × zMs) ⊕ zMs))) fun j17 =>
if (q7.2.2.2.1 + (2 : Int32)) ≤ (30 : Int32) then
j17 (q7.2.2.2.1 + (2 : Int32))
else
j17 (30 : Int32)
else
j13 () : Option ((Int32 × Int32 × Int32 × Int32 × Int32 × Int32 × zMs) ⊕ zMs))) 40000 (x1, x2, x3, x4, x5, x6, M)
def fX10_shoot (M : zMs) (i_1 : Int32) (i_2 : Int32) (i_3 : Int32) (i_4 : Int32) : Option (Int32 × zMs) :=
cl (fX10_in M i_2 (0 : Int32) (159 : Int32)) fun r1 =>
st (fun (y4 : Int32) => (st y4 fun x7 =>
cl (fX10_isTable M i_1) fun r8 =>
st (fun (y11 : Int32) => (cl2 (fX10_refused M y11) fun r13 M15 =>
if r13 = 0 then
gd (¬ (i_1 < 0 ∨ 6 ≤ i_1.toNatClampNeg)) (
st (M15 7 i_1.toNatClampNeg) fun x17 =>
gd (¬ (x17 < 0 ∨ 40 ≤ x17.toNatClampNeg)) (
st ((((3 : Int32) * x17) + (3 : Int32)) - (M15 26 x17.toNatClampNeg)) fun x18 =>
st (0 : Int32) fun x19 =>
lp (fun (q20 : (Int32 × zMs)) => (if (8 : Int32) ≤ q20.1 then
cl (fX10_load q20.2 x17) fun M28 =>
st (M28 41 0) fun x29 =>
cl (fX10_roll M28 i_1 x18 i_2 i_3 i_4) fun M32 =>
cl (fX10_keep M32 x17) fun M35 =>
gd (¬ (x17 < 0 ∨ 40 ≤ x17.toNatClampNeg)) (
gd (¬ (x17 < 0 ∨ 40 ≤ x17.toNatClampNeg)) (
st (pM M35 26 x17.toNatClampNeg ((M35 26 x17.toNatClampNeg) - (1 : Int32))) fun M36 =>
gd (¬ (x17 < 0 ∨ 40 ≤ x17.toNatClampNeg)) (
st (fun (y37 : Int32) => (gd (¬ (i_1 < 0 ∨ 6 ≤ i_1.toNatClampNeg)) (
st (pM M36 7 i_1.toNatClampNeg y37) fun M39 =>
some (.inr ((((M39 41 0) - x29), M39)))) : Option ((Int32 × zMs) ⊕ (Int32 × zMs)))) fun j38 =>
if (M36 26 x17.toNatClampNeg) = 0 then
j38 (-1 : Int32)
else
j38 x17)))
else
gd (¬ ((((8 : Int32) * i_1) + q20.1) < 0 ∨ 48 ≤ (((8 : Int32) * i_1) + q20.1).toNatClampNeg)) (
gd (¬ ((((8 : Int32) * x18) + q20.1) < 0 ∨ 960 ≤ (((8 : Int32) * x18) + q20.1).toNatClampNeg)) (
st (pM q20.2 39 (((8 : Int32) * x18) + q20.1).toNatClampNeg ((q20.2 16 (((8 : Int32) * i_1) + q20.1).toNatClampNeg) + (1 : Int32))) fun M40 =>
st (q20.1 + (1 : Int32)) fun x41 =>
some (.inl (x41, M40)))) : Option ((Int32 × zMs) ⊕ (Int32 × zMs)))) 40000 (x19, M15)))
else
some (((0 : Int32), M15)) : Option (Int32 × zMs))) fun j12 =>
if r8 = 0 then
j12 (1 : Int32)
else
if x7 = 0 then
j12 (2 : Int32)
else
cl (fX10_isFree M i_1) fun r42 =>
if r42 = 0 then
j12 (0 : Int32)
else
j12 (3 : Int32) : Option (Int32 × zMs))) fun j6 =>
st (fun (u_ : Unit) => (j6 (0 : Int32) : Option (Int32 × zMs))) fun j45 =>
if r1 = 0 then
j45 ()
else
cl (fX10_in M i_3 (-30 : Int32) (30 : Int32)) fun r46 =>
if r46 = 0 then
j45 ()
else
cl (fX10_in M i_4 (-30 : Int32) (30 : Int32)) fun r49 =>
if r49 = 0 then
j45 ()
else
j6 (1 : Int32)
def fX10_noTable (M : zMs) (i_1 : Int32) : Option (Int32 × zMs) :=
cl (fX10_isTable M i_1) fun r1 =>
st (fun (y4 : Int32) => (cl2 (fX10_refused M y4) fun r7 M9 =>
some ((r7, M9)) : Option (Int32 × zMs))) fun j6 =>
if r1 = 0 then
j6 (1 : Int32)
else
j6 (0 : Int32)
def fX10_noGame (M : zMs) (i_1 : Int32) : Option (Int32 × zMs) :=
cl (fX10_isGame M i_1) fun r1 =>
st (fun (y4 : Int32) => (cl2 (fX10_refused M y4) fun r7 M9 =>
some ((r7, M9)) : Option (Int32 × zMs))) fun j6 =>
if r1 = 0 then
j6 (1 : Int32)
else
j6 (0 : Int32)
def fX10_gameAt (M : zMs) (i_1 : Int32) : Option (Int32 × zMs) :=
cl2 (fX10_noTable M i_1) fun r1 M3 =>
if r1 = 0 then
gd (¬ (i_1 < 0 ∨ 6 ≤ i_1.toNatClampNeg)) (
some (((M3 7 i_1.toNatClampNeg), M3)))
else
some (((0 : Int32), M3))
def fX10_games (M : zMs)  : Option (Int32 × zMs) :=
cl2 (fX10_fine M (M 24 0)) fun r1 M3 =>
some ((r1, M3))
def fX10_ballsLeft (M : zMs) (i_1 : Int32) : Option (Int32 × zMs) :=
cl2 (fX10_noGame M i_1) fun r1 M3 =>
if r1 = 0 then
gd (¬ (i_1 < 0 ∨ 40 ≤ i_1.toNatClampNeg)) (
some (((M3 26 i_1.toNatClampNeg), M3)))
else
some (((0 : Int32), M3))
def fX10_stack (M : zMs) (i_1 : Int32) : Option (Int32 × zMs) :=
cl2 (fX10_noGame M i_1) fun r1 M3 =>
if r1 = 0 then
st (0 : Int32) fun x5 =>
st (0 : Int32) fun x6 =>
lp (fun (q7 : (Int32 × Int32)) => (gd (¬ (i_1 < 0 ∨ 40 ≤ i_1.toNatClampNeg)) (
if (M3 34 i_1.toNatClampNeg) ≤ q7.2 then
some (.inr ((q7.1, M3)))
else
gd (¬ ((((3 : Int32) * i_1) + q7.2) < 0 ∨ 120 ≤ (((3 : Int32) * i_1) + q7.2).toNatClampNeg)) (
st ((((10 : Int32) * q7.1) + (M3 35 (((3 : Int32) * i_1) + q7.2).toNatClampNeg)) + (1 : Int32)) fun x13 =>
st (q7.2 + (1 : Int32)) fun x14 =>
some (.inl (x13, x14)))) : Option ((Int32 × Int32) ⊕ (Int32 × zMs)))) 40000 (x5, x6)
else
some (((0 : Int32), M3))
def fX10_score (M : zMs) (i_1 : Int32) : Option (Int32 × zMs) :=
cl2 (fX10_noGame M i_1) fun r1 M3 =>
if r1 = 0 then
gd (¬ (i_1 < 0 ∨ 40 ≤ i_1.toNatClampNeg)) (
some (((M3 27 i_1.toNatClampNeg), M3)))
else
some (((0 : Int32), M3))
def fX10_rewind (M : zMs) (i_1 : Int32) : Option zMs :=
gd (¬ (i_1 < 0 ∨ 2 ≤ i_1.toNatClampNeg)) (
st (pM M 45 i_1.toNatClampNeg (0 : Int32)) fun M1 =>
gd (¬ (i_1 < 0 ∨ 2 ≤ i_1.toNatClampNeg)) (
st (pM M1 46 i_1.toNatClampNeg (1 : Int32)) fun M2 =>
gd (¬ (i_1 < 0 ∨ 2 ≤ i_1.toNatClampNeg)) (
st (pM M2 47 i_1.toNatClampNeg (0 : Int32)) fun M3 =>
some (M3))))
def fX10_partOf (M : zMs) (i_1 : Int32) (i_2 : Int32) (i_3 : Int32) : Option Int32 :=
gd (¬ (((((300 : Int32) * i_1) + i_2) - (1 : Int32)) < 0 ∨ 36000 ≤ ((((300 : Int32) * i_1) + i_2) - (1 : Int32)).toNatClampNeg)) (
st (M 38 ((((300 : Int32) * i_1) + i_2) - (1 : Int32)).toNatClampNeg) fun x1 =>
if (2 : Int32) ≤ i_3 then
st (fun (y2 : Int32) => (st y2 fun x4 =>
if x4 = 0 then
some ((0 : Int32))
else
some (((i_3 - (1 : Int32)) + ((16 : Int32) * x4))) : Option Int32)) fun j3 =>
if (i_2 - i_2 / (10 : Int32) * (10 : Int32)) = 0 then
gd (¬ (((((8 : Int32) * i_1) + i_3) - (2 : Int32)) < 0 ∨ 960 ≤ ((((8 : Int32) * i_1) + i_3) - (2 : Int32)).toNatClampNeg)) (
j3 (M 39 ((((8 : Int32) * i_1) + i_3) - (2 : Int32)).toNatClampNeg))
else
j3 (0 : Int32)
else
if i_3 = 0 then
some ((x1 - x1 / (9 : Int32) * (9 : Int32)))
else
some ((x1 / (9 : Int32))))
def fX10_next (M : zMs) (i_1 : Int32) (i_2 : Int32) : Option (Int32 × zMs) :=
lp (fun (q1 : (zMs)) => (gd (¬ (i_1 < 0 ∨ 2 ≤ i_1.toNatClampNeg)) (
gd (¬ (i_2 < 0 ∨ 40 ≤ i_2.toNatClampNeg)) (
if ((3 : Int32) - (q1 26 i_2.toNatClampNeg)) ≤ (q1 45 i_1.toNatClampNeg) then
some (.inr (((-1 : Int32), q1)))
else
gd (¬ (i_1 < 0 ∨ 2 ≤ i_1.toNatClampNeg)) (
st (((3 : Int32) * i_2) + (q1 45 i_1.toNatClampNeg)) fun x7 =>
gd (¬ (i_1 < 0 ∨ 2 ≤ i_1.toNatClampNeg)) (
gd (¬ (i_1 < 0 ∨ 2 ≤ i_1.toNatClampNeg)) (
cl (fX10_partOf q1 x7 (q1 46 i_1.toNatClampNeg) (q1 47 i_1.toNatClampNeg)) fun r8 =>
st r8 fun x10 =>
st (fun (y11 : Int32) => (st y11 fun x13 =>
gd (¬ (i_1 < 0 ∨ 2 ≤ i_1.toNatClampNeg)) (
gd (¬ (i_1 < 0 ∨ 2 ≤ i_1.toNatClampNeg)) (
st (pM q1 47 i_1.toNatClampNeg ((q1 47 i_1.toNatClampNeg) + (1 : Int32))) fun M14 =>
gd (¬ (i_1 < 0 ∨ 2 ≤ i_1.toNatClampNeg)) (
st (fun (S15 : zMs) => (gd (¬ (i_1 < 0 ∨ 2 ≤ i_1.toNatClampNeg)) (
gd (¬ (x7 < 0 ∨ 120 ≤ x7.toNatClampNeg)) (
st (fun (S17 : zMs) => (if x13 = (-1 : Int32) then
some (.inl (S17))
else
some (.inr ((x13, S17))) : Option ((zMs) ⊕ (Int32 × zMs)))) fun j18 =>
if (S15 46 i_1.toNatClampNeg) ≤ (S15 37 x7.toNatClampNeg) then
j18 S15
else
gd (¬ (i_1 < 0 ∨ 2 ≤ i_1.toNatClampNeg)) (
st (pM S15 46 i_1.toNatClampNeg (1 : Int32)) fun M19 =>
gd (¬ (i_1 < 0 ∨ 2 ≤ i_1.toNatClampNeg)) (
gd (¬ (i_1 < 0 ∨ 2 ≤ i_1.toNatClampNeg)) (
st (pM M19 45 i_1.toNatClampNeg ((M19 45 i_1.toNatClampNeg) + (1 : Int32))) fun M20 =>
j18 M20))))) : Option ((zMs) ⊕ (Int32 × zMs)))) fun j16 =>
if (M14 47 i_1.toNatClampNeg) = (10 : Int32) then
gd (¬ (i_1 < 0 ∨ 2 ≤ i_1.toNatClampNeg)) (
st (pM M14 47 i_1.toNatClampNeg (0 : Int32)) fun M21 =>
gd (¬ (i_1 < 0 ∨ 2 ≤ i_1.toNatClampNeg)) (
gd (¬ (i_1 < 0 ∨ 2 ≤ i_1.toNatClampNeg)) (
st (pM M21 46 i_1.toNatClampNeg ((M21 46 i_1.toNatClampNeg) + (1 : Int32))) fun M22 =>
j16 M22)))
else
j16 M14))) : Option ((zMs) ⊕ (Int32 × zMs)))) fun j12 =>
if x10 = 0 then
j12 (-1 : Int32)
else
gd (¬ (i_1 < 0 ∨ 2 ≤ i_1.toNatClampNeg)) (
gd (¬ (i_1 < 0 ∨ 2 ≤ i_1.toNatClampNeg)) (
j12 (((((x10 - x10 / (16 : Int32) * (16 : Int32)) - (1 : Int32)) + ((16 : Int32) * (q1 45 i_1.toNatClampNeg))) + ((256 : Int32) * (q1 46 i_1.toNatClampNeg))) + ((1048576 : Int32) * (x10 / (16 : Int32))))))))))) : Option ((zMs) ⊕ (Int32 × zMs)))) 40000 (M)
def fX10_replayed (M : zMs) (i_1 : Int32) (i_2 : Int32) : Option (Int32 × zMs) :=
st (pM M 40 0 i_1) fun M1 =>
st (pM M1 41 0 (0 : Int32)) fun M2 =>
st (pM M2 42 0 (0 : Int32)) fun M3 =>
cl (fX10_rewind M3 (0 : Int32)) fun M6 =>
cl2 (fX10_next M6 (0 : Int32) i_1) fun r7 M9 =>
st r7 fun x10 =>
lp (fun (q11 : (Int32 × zMs)) => (if q11.1 = (-1 : Int32) then
some (.inr (((q11.2 41 0), q11.2)))
else
st (q11.1 / (1048576 : Int32)) fun x17 =>
st (fun (S18 : zMs) => (cl2 (fX10_next S18 (0 : Int32) i_1) fun r20 M22 =>
st r20 fun x23 =>
some (.inl (x23, M22)) : Option ((Int32 × zMs) ⊕ (Int32 × zMs)))) fun j19 =>
st (fun (u_ : Unit) => (cl (fX10_close q11.2 (q11.1 - q11.1 / (16 : Int32) * (16 : Int32))) fun M27 =>
j19 M27 : Option ((Int32 × zMs) ⊕ (Int32 × zMs)))) fun j24 =>
if i_2 = 0 then
j24 ()
else
if x17 = 0 then
j24 ()
else
gd (¬ ((x17 - (1 : Int32)) < 0 ∨ 60 ≤ (x17 - (1 : Int32)).toNatClampNeg)) (
if (q11.2 23 (x17 - (1 : Int32)).toNatClampNeg) = 0 then
j24 ()
else
j19 q11.2) : Option ((Int32 × zMs) ⊕ (Int32 × zMs)))) 40000 (x10, M9)
def fX10_scoreByLog (M : zMs) (i_1 : Int32) : Option (Int32 × zMs) :=
cl2 (fX10_noGame M i_1) fun r1 M3 =>
if r1 = 0 then
cl2 (fX10_replayed M3 i_1 (0 : Int32)) fun r5 M7 =>
some ((r5, M7))
else
some (((0 : Int32), M3))
def fX10_valid (M : zMs) (i_1 : Int32) : Option (Int32 × zMs) :=
cl2 (fX10_noGame M i_1) fun r1 M3 =>
if r1 = 0 then
cl2 (fX10_replayed M3 i_1 (1 : Int32)) fun r5 M7 =>
some ((r5, M7))
else
some (((0 : Int32), M3))
def fX10_entries (M : zMs) (i_1 : Int32) : Option (Int32 × zMs) :=
st (0 : Int32) fun x1 =>
cl (fX10_rewind M (0 : Int32)) fun M4 =>
lp (fun (q5 : (Int32 × zMs)) => (cl2 (fX10_next q5.2 (0 : Int32) i_1) fun r11 M13 =>
if r11 = (-1 : Int32) then
some (.inr ((q5.1, M13)))
else
st (q5.1 + (1 : Int32)) fun x14 =>
some (.inl (x14, M13)) : Option ((Int32 × zMs) ⊕ (Int32 × zMs)))) 40000 (x1, M4)
def fX10_logged (M : zMs) (i_1 : Int32) : Option (Int32 × zMs) :=
cl2 (fX10_noGame M i_1) fun r1 M3 =>
if r1 = 0 then
cl2 (fX10_entries M3 i_1) fun r5 M7 =>
some ((r5, M7))
else
some (((0 : Int32), M3))
def fX10_entryAt (M : zMs) (i_1 : Int32) (i_2 : Int32) : Option (Int64 × zMs) :=
cl (fX10_isGame M i_1) fun r1 =>
st (fun (y4 : Int32) (S6 : zMs) => (st y4 fun x8 =>
st (fun (y9 : Int32) => (cl2 (fX10_refused S6 y9) fun r12 M14 =>
if r12 = 0 then
cl (fX10_rewind M14 (0 : Int32)) fun M18 =>
cl2 (fX10_next M18 (0 : Int32) i_1) fun r19 M21 =>
st r19 fun x22 =>
st (0 : Int32) fun x23 =>
lp (fun (q24 : (Int32 × Int32 × zMs)) => (if i_2 ≤ q24.2.1 then
some (.inr ((q24.1.toInt64, q24.2.2)))
else
cl2 (fX10_next q24.2.2 (0 : Int32) i_1) fun r30 M32 =>
st r30 fun x33 =>
st (q24.2.1 + (1 : Int32)) fun x34 =>
some (.inl (x33, x34, M32)) : Option ((Int32 × Int32 × zMs) ⊕ (Int64 × zMs)))) 40000 (x22, x23, M21)
else
some (((0 : Int64), M14)) : Option (Int64 × zMs))) fun j11 =>
if x8 = 0 then
j11 (1 : Int32)
else
j11 (0 : Int32) : Option (Int64 × zMs))) fun j7 =>
st (fun (S35 : zMs) => (j7 (0 : Int32) S35 : Option (Int64 × zMs))) fun j36 =>
if r1 = 0 then
j36 M
else
if i_2 < 0 then
j36 M
else
cl2 (fX10_entries M i_1) fun r37 M39 =>
if r37 ≤ i_2 then
j36 M39
else
j7 (1 : Int32) M39
def fX10_areAlike (M : zMs) (i_1 : Int32) (i_2 : Int32) : Option (Int32 × zMs) :=
cl (fX10_rewind M (0 : Int32)) fun M3 =>
cl (fX10_rewind M3 (1 : Int32)) fun M6 =>
cl2 (fX10_next M6 (0 : Int32) i_1) fun r7 M9 =>
st r7 fun x10 =>
cl2 (fX10_next M9 (1 : Int32) i_2) fun r11 M13 =>
st r11 fun x14 =>
lp (fun (q15 : (Int32 × Int32 × zMs)) => (st (fun (u_ : Unit) => (if q15.1 = q15.2.1 then
some (.inr (((1 : Int32), q15.2.2)))
else
some (.inr (((0 : Int32), q15.2.2))) : Option ((Int32 × Int32 × zMs) ⊕ (Int32 × zMs)))) fun j21 =>
if q15.1 = q15.2.1 then
if q15.1 = (-1 : Int32) then
j21 ()
else
cl2 (fX10_next q15.2.2 (0 : Int32) i_1) fun r22 M24 =>
st r22 fun x25 =>
cl2 (fX10_next M24 (1 : Int32) i_2) fun r26 M28 =>
st r26 fun x29 =>
some (.inl (x25, x29, M28))
else
j21 () : Option ((Int32 × Int32 × zMs) ⊕ (Int32 × zMs)))) 40000 (x10, x14, M13)
def fX10_twin (M : zMs) (i_1 : Int32) : Option (Int32 × zMs) :=
cl2 (fX10_noGame M i_1) fun r1 M3 =>
if r1 = 0 then
st (-1 : Int32) fun x5 =>
st ((M3 24 0) - (1 : Int32)) fun x6 =>
lp (fun (q7 : (Int32 × Int32 × zMs)) => (if q7.2.1 < 0 then
some (.inr ((q7.1, q7.2.2)))
else
gd (¬ (i_1 < 0 ∨ 40 ≤ i_1.toNatClampNeg)) (
if (q7.2.2 26 i_1.toNatClampNeg) = 0 then
cl2 (fX10_entries q7.2.2 i_1) fun r13 M15 =>
if r13 ≤ 0 then
some (.inr ((q7.1, M15)))
else
st (fun (y16 : Int32) (S17 : zMs) => (st y16 fun x19 =>
st (q7.2.1 + (-1 : Int32)) fun x20 =>
some (.inl (x19, x20, S17)) : Option ((Int32 × Int32 × zMs) ⊕ (Int32 × zMs)))) fun j18 =>
st (fun (S21 : zMs) => (j18 q7.1 S21 : Option ((Int32 × Int32 × zMs) ⊕ (Int32 × zMs)))) fun j22 =>
if q7.2.1 = i_1 then
j22 M15
else
gd (¬ (q7.2.1 < 0 ∨ 40 ≤ q7.2.1.toNatClampNeg)) (
if (M15 26 q7.2.1.toNatClampNeg) = 0 then
cl2 (fX10_areAlike M15 i_1 q7.2.1) fun r23 M25 =>
if r23 = 0 then
j22 M25
else
j18 q7.2.1 M25
else
j22 M15)
else
some (.inr ((q7.1, q7.2.2)))) : Option ((Int32 × Int32 × zMs) ⊕ (Int32 × zMs)))) 40000 (x5, x6, M3)
else
some (((0 : Int32), M3))
def fX10_isAhead (M : zMs) (i_1 : Int32) (i_2 : Int32) : Option Int32 :=
gd (¬ (i_1 < 0 ∨ 40 ≤ i_1.toNatClampNeg)) (
gd (¬ (i_2 < 0 ∨ 40 ≤ i_2.toNatClampNeg)) (
if (M 48 i_1.toNatClampNeg) = (M 48 i_2.toNatClampNeg) then
if i_2 ≤ i_1 then
some ((0 : Int32))
else
some ((1 : Int32))
else
gd (¬ (i_1 < 0 ∨ 40 ≤ i_1.toNatClampNeg)) (
gd (¬ (i_2 < 0 ∨ 40 ≤ i_2.toNatClampNeg)) (
if (M 48 i_1.toNatClampNeg) ≤ (M 48 i_2.toNatClampNeg) then
some ((0 : Int32))
else
some ((1 : Int32))))))
def fX10_high (M : zMs) (i_1 : Int32) (i_2 : Int32) : Option (Int32 × zMs) :=
cl (fX10_isTable M i_1) fun r1 =>
st (fun (y4 : Int32) => (cl2 (fX10_refused M y4) fun r6 M8 =>
if r6 = 0 then
st (0 : Int32) fun x10 =>
lp (fun (q11 : (Int32 × zMs)) => (if (q11.2 24 0) ≤ q11.1 then
st (-1 : Int32) fun x17 =>
st (0 : Int32) fun x18 =>
lp (fun (q19 : (Int32 × Int32)) => (if (q11.2 24 0) ≤ q19.2 then
some (.inr (.inr ((q19.1, q11.2))))
else
st (0 : Int32) fun x25 =>
st (0 : Int32) fun x26 =>
lp (fun (q27 : (Int32 × Int32)) => (if (q11.2 24 0) ≤ q27.2 then
gd (¬ (q19.2 < 0 ∨ 40 ≤ q19.2.toNatClampNeg)) (
st (fun (y33 : Int32) => (st y33 fun x35 =>
st (q19.2 + (1 : Int32)) fun x36 =>
some (.inr (.inl (x35, x36))) : Option ((Int32 × Int32) ⊕ ((Int32 × Int32) ⊕ ((Int32 × zMs) ⊕ (Int32 × zMs)))))) fun j34 =>
st (fun (u_ : Unit) => (j34 q19.1 : Option ((Int32 × Int32) ⊕ ((Int32 × Int32) ⊕ ((Int32 × zMs) ⊕ (Int32 × zMs)))))) fun j37 =>
if (q11.2 48 q19.2.toNatClampNeg) = (-1 : Int32) then
j37 ()
else
if q27.1 = i_2 then
j34 q19.2
else
j37 ())
else
gd (¬ (q27.2 < 0 ∨ 40 ≤ q27.2.toNatClampNeg)) (
st (fun (y38 : Int32) => (st (q27.1 + y38) fun x41 =>
st (q27.2 + (1 : Int32)) fun x42 =>
some (.inl (x41, x42)) : Option ((Int32 × Int32) ⊕ ((Int32 × Int32) ⊕ ((Int32 × zMs) ⊕ (Int32 × zMs)))))) fun j40 =>
st (fun (u_ : Unit) => (j40 (0 : Int32) : Option ((Int32 × Int32) ⊕ ((Int32 × Int32) ⊕ ((Int32 × zMs) ⊕ (Int32 × zMs)))))) fun j43 =>
if (q11.2 48 q27.2.toNatClampNeg) = (-1 : Int32) then
j43 ()
else
cl (fX10_isAhead q11.2 q27.2 q19.2) fun r44 =>
if r44 = 0 then
j43 ()
else
j40 (1 : Int32)) : Option ((Int32 × Int32) ⊕ ((Int32 × Int32) ⊕ ((Int32 × zMs) ⊕ (Int32 × zMs)))))) 40000 (x25, x26) : Option ((Int32 × Int32) ⊕ ((Int32 × zMs) ⊕ (Int32 × zMs))))) 40000 (x17, x18)
else
gd (¬ (q11.1 < 0 ∨ 40 ≤ q11.1.toNatClampNeg)) (
st (fun (y47 : Int32) (S48 : zMs) => (gd (¬ (q11.1 < 0 ∨ 40 ≤ q11.1.toNatClampNeg)) (
st (pM S48 48 q11.1.toNatClampNeg y47) fun M50 =>
st (q11.1 + (1 : Int32)) fun x51 =>
some (.inl (x51, M50))) : Option ((Int32 × zMs) ⊕ (Int32 × zMs)))) fun j49 =>
st (fun (u_ : Unit) => (j49 (-1 : Int32) q11.2 : Option ((Int32 × zMs) ⊕ (Int32 × zMs)))) fun j52 =>
if (q11.2 25 q11.1.toNatClampNeg) = i_1 then
gd (¬ (q11.1 < 0 ∨ 40 ≤ q11.1.toNatClampNeg)) (
if (q11.2 26 q11.1.toNatClampNeg) = 0 then
cl2 (fX10_replayed q11.2 q11.1 (1 : Int32)) fun r53 M55 =>
j49 r53 M55
else
j52 ())
else
j52 ()) : Option ((Int32 × zMs) ⊕ (Int32 × zMs)))) 40000 (x10, M8)
else
some (((0 : Int32), M8)) : Option (Int32 × zMs))) fun j5 =>
if r1 = 0 then
j5 (1 : Int32)
else
if 0 ≤ i_2 then
j5 (0 : Int32)
else
j5 (2 : Int32)
def fX10_rob (M : zMs) (i_1 : Int32) (i_2 : Int32) : Option (Int32 × zMs) :=
cl (fX10_in M i_2 (1 : Int32) (100 : Int32)) fun r1 =>
st r1 fun x4 =>
cl (fX10_isTable M i_1) fun r5 =>
st (fun (y8 : Int32) => (st y8 fun x11 =>
cl (fX10_isTable M i_1) fun r12 =>
st (fun (y15 : Int32) => (cl2 (fX10_refused M y15) fun r17 M19 =>
if r17 = 0 then
gd (¬ (i_1 < 0 ∨ 6 ≤ i_1.toNatClampNeg)) (
gd (¬ (i_1 < 0 ∨ 6 ≤ i_1.toNatClampNeg)) (
st (pM M19 4 i_1.toNatClampNeg ((M19 4 i_1.toNatClampNeg) - i_2)) fun M21 =>
gd (¬ (i_1 < 0 ∨ 6 ≤ i_1.toNatClampNeg)) (
some (((M21 4 i_1.toNatClampNeg), M21)))))
else
some (((0 : Int32), M19)) : Option (Int32 × zMs))) fun j16 =>
if r12 = 0 then
j16 (1 : Int32)
else
if x4 = 0 then
j16 (2 : Int32)
else
if x11 = 0 then
j16 (3 : Int32)
else
j16 (0 : Int32) : Option (Int32 × zMs))) fun j10 =>
st (fun (u_ : Unit) => (j10 (0 : Int32) : Option (Int32 × zMs))) fun j22 =>
if r5 = 0 then
j22 ()
else
if x4 = 0 then
j22 ()
else
gd (¬ (i_1 < 0 ∨ 6 ≤ i_1.toNatClampNeg)) (
if (M 4 i_1.toNatClampNeg) < i_2 then
j22 ()
else
j10 (1 : Int32))
def fX10_box (M : zMs) (i_1 : Int32) : Option (Int32 × zMs) :=
cl2 (fX10_noTable M i_1) fun r1 M3 =>
if r1 = 0 then
gd (¬ (i_1 < 0 ∨ 6 ≤ i_1.toNatClampNeg)) (
some (((M3 4 i_1.toNatClampNeg), M3)))
else
some (((0 : Int32), M3))
def fX10_missing (M : zMs) (i_1 : Int32) : Option (Int32 × zMs) :=
cl2 (fX10_noTable M i_1) fun r1 M3 =>
if r1 = 0 then
gd (¬ (i_1 < 0 ∨ 6 ≤ i_1.toNatClampNeg)) (
some (((M3 6 i_1.toNatClampNeg), M3)))
else
some (((0 : Int32), M3))
def fX10_load_ (M : zMs) (i_1 : Int32) (i_2 : Int32) (i_3 : Int32) : Option (Int32 × zMs) :=
cl (fX10_in M i_2 (0 : Int32) (1 : Int32)) fun r1 =>
st (fun (y4 : Int32) => (st y4 fun x7 =>
cl (fX10_isVan M i_1) fun r8 =>
st (fun (y11 : Int32) => (st y11 fun x14 =>
cl (fX10_isVan M i_1) fun r15 =>
st (fun (y18 : Int32) => (cl2 (fX10_refused M y18) fun r20 M22 =>
if r20 = 0 then
gd (¬ ((((2 : Int32) * i_1) + i_2) < 0 ∨ 4 ≤ (((2 : Int32) * i_1) + i_2).toNatClampNeg)) (
gd (¬ ((((2 : Int32) * i_1) + i_2) < 0 ∨ 4 ≤ (((2 : Int32) * i_1) + i_2).toNatClampNeg)) (
st (pM M22 50 (((2 : Int32) * i_1) + i_2).toNatClampNeg ((M22 50 (((2 : Int32) * i_1) + i_2).toNatClampNeg) + i_3)) fun M24 =>
gd (¬ ((((2 : Int32) * i_1) + i_2) < 0 ∨ 4 ≤ (((2 : Int32) * i_1) + i_2).toNatClampNeg)) (
some (((M24 50 (((2 : Int32) * i_1) + i_2).toNatClampNeg), M24)))))
else
some (((0 : Int32), M22)) : Option (Int32 × zMs))) fun j19 =>
if r15 = 0 then
j19 (1 : Int32)
else
if x7 = 0 then
j19 (2 : Int32)
else
if x14 = 0 then
j19 (3 : Int32)
else
j19 (0 : Int32) : Option (Int32 × zMs))) fun j13 =>
st (fun (u_ : Unit) => (j13 (0 : Int32) : Option (Int32 × zMs))) fun j25 =>
if r8 = 0 then
j25 ()
else
if x7 = 0 then
j25 ()
else
gd (¬ ((((2 : Int32) * i_1) + i_2) < 0 ∨ 4 ≤ (((2 : Int32) * i_1) + i_2).toNatClampNeg)) (
if (20 : Int32) < ((M 50 (((2 : Int32) * i_1) + i_2).toNatClampNeg) + i_3) then
j25 ()
else
j13 (1 : Int32)) : Option (Int32 × zMs))) fun j6 =>
st (fun (u_ : Unit) => (j6 (0 : Int32) : Option (Int32 × zMs))) fun j26 =>
if r1 = 0 then
j26 ()
else
cl (fX10_in M i_3 (1 : Int32) (20 : Int32)) fun r27 =>
if r27 = 0 then
j26 ()
else
j6 (1 : Int32)
def fX10_parts (M : zMs) (i_1 : Int32) (i_2 : Int32) : Option (Int32 × zMs) :=
cl (fX10_isVan M i_1) fun r1 =>
st (fun (y4 : Int32) => (cl2 (fX10_refused M y4) fun r6 M8 =>
if r6 = 0 then
gd (¬ ((((2 : Int32) * i_1) + i_2) < 0 ∨ 4 ≤ (((2 : Int32) * i_1) + i_2).toNatClampNeg)) (
some (((M8 50 (((2 : Int32) * i_1) + i_2).toNatClampNeg), M8)))
else
some (((0 : Int32), M8)) : Option (Int32 × zMs))) fun j5 =>
if r1 = 0 then
j5 (1 : Int32)
else
cl (fX10_in M i_2 (0 : Int32) (1 : Int32)) fun r10 =>
if r10 = 0 then
j5 (2 : Int32)
else
j5 (0 : Int32)
def fX10_isBad (M : zMs) (i_1 : Int32) (i_2 : Int32) : Option Int32 :=
if i_2 = 0 then
gd (¬ (i_1 < 0 ∨ 48 ≤ i_1.toNatClampNeg)) (
if (M 16 i_1.toNatClampNeg) = (-1 : Int32) then
some ((0 : Int32))
else
some ((1 : Int32)))
else
gd (¬ (i_1 < 0 ∨ 48 ≤ i_1.toNatClampNeg)) (
if (M 15 i_1.toNatClampNeg) < (40 : Int32) then
some ((0 : Int32))
else
some ((1 : Int32)))
def fX10_bad (M : zMs) (i_1 : Int32) (i_2 : Int32) : Option Int32 :=
st (0 : Int32) fun x1 =>
st ((8 : Int32) * i_1) fun x2 =>
lp (fun (q3 : (Int32 × Int32)) => (gd (¬ (i_1 < 0 ∨ 6 ≤ i_1.toNatClampNeg)) (
if (((8 : Int32) * i_1) + (M 8 i_1.toNatClampNeg)) ≤ q3.2 then
some (.inr (q3.1))
else
cl (fX10_isBad M q3.2 i_2) fun r9 =>
st (fun (y12 : Int32) => (st (q3.1 + y12) fun x15 =>
st (q3.2 + (1 : Int32)) fun x16 =>
some (.inl (x15, x16)) : Option ((Int32 × Int32) ⊕ Int32))) fun j14 =>
if r9 = 0 then
j14 (0 : Int32)
else
j14 (1 : Int32)) : Option ((Int32 × Int32) ⊕ Int32))) 40000 (x1, x2)
def fX10_wanted (M : zMs) (i_1 : Int32) : Option (Int32 × zMs) :=
cl (fX10_in M i_1 (0 : Int32) (1 : Int32)) fun r1 =>
st (fun (y4 : Int32) => (cl2 (fX10_refused M y4) fun r7 M9 =>
if r7 = 0 then
gd (¬ (i_1 < 0 ∨ 4 ≤ i_1.toNatClampNeg)) (
gd (¬ (((2 : Int32) + i_1) < 0 ∨ 4 ≤ ((2 : Int32) + i_1).toNatClampNeg)) (
st ((-(M9 50 i_1.toNatClampNeg)) - (M9 50 ((2 : Int32) + i_1).toNatClampNeg)) fun x11 =>
st (0 : Int32) fun x12 =>
lp (fun (q13 : (Int32 × Int32)) => (if (M9 1 0) ≤ q13.2 then
if 0 ≤ q13.1 then
some (.inr ((q13.1, M9)))
else
some (.inr (((0 : Int32), M9)))
else
cl (fX10_bad M9 q13.2 i_1) fun r19 =>
st (q13.1 + r19) fun x21 =>
st (q13.2 + (1 : Int32)) fun x22 =>
some (.inl (x21, x22)) : Option ((Int32 × Int32) ⊕ (Int32 × zMs)))) 40000 (x11, x12)))
else
some (((0 : Int32), M9)) : Option (Int32 × zMs))) fun j6 =>
if r1 = 0 then
j6 (1 : Int32)
else
j6 (0 : Int32)
def fX10_needsService (M : zMs) (i_1 : Int32) : Option Int32 :=
cl (fX10_isFree M i_1) fun r1 =>
st (fun (u_ : Unit) => (some ((0 : Int32)) : Option Int32)) fun j4 =>
if r1 = 0 then
j4 ()
else
gd (¬ (i_1 < 0 ∨ 6 ≤ i_1.toNatClampNeg)) (
st (fun (u_ : Unit) => (some ((1 : Int32)) : Option Int32)) fun j5 =>
if (20 : Int32) ≤ (M 4 i_1.toNatClampNeg) then
j5 ()
else
cl (fX10_bad M i_1 (0 : Int32)) fun r6 =>
if 0 < r6 then
j5 ()
else
cl (fX10_bad M i_1 (1 : Int32)) fun r8 =>
if r8 ≤ 0 then
j4 ()
else
j5 ())
def fX10_far (M : zMs) (i_1 : Int32) (i_2 : Int32) : Option Int32 :=
if i_2 ≤ i_1 then
some ((i_1 - i_2))
else
some ((i_2 - i_1))
def fX10_lengthOf (M : zMs) (i_1 : Int32) : Option Int32 :=
st (0 : Int32) fun x1 =>
gd (¬ (i_1 < 0 ∨ 2 ≤ i_1.toNatClampNeg)) (
st (M 49 i_1.toNatClampNeg) fun x2 =>
st (0 : Int32) fun x3 =>
lp (fun (q4 : (Int32 × Int32 × Int32)) => (if (M 51 0) ≤ q4.2.2 then
some (.inr (q4.1))
else
gd (¬ (q4.2.2 < 0 ∨ 6 ≤ q4.2.2.toNatClampNeg)) (
gd (¬ ((M 52 q4.2.2.toNatClampNeg) < 0 ∨ 6 ≤ (M 52 q4.2.2.toNatClampNeg).toNatClampNeg)) (
cl (fX10_far M q4.2.1 (M 2 (M 52 q4.2.2.toNatClampNeg).toNatClampNeg)) fun r10 =>
st (q4.1 + r10) fun x12 =>
gd (¬ (q4.2.2 < 0 ∨ 6 ≤ q4.2.2.toNatClampNeg)) (
gd (¬ ((M 52 q4.2.2.toNatClampNeg) < 0 ∨ 6 ≤ (M 52 q4.2.2.toNatClampNeg).toNatClampNeg)) (
st (M 2 (M 52 q4.2.2.toNatClampNeg).toNatClampNeg) fun x13 =>
st (q4.2.2 + (1 : Int32)) fun x14 =>
some (.inl (x12, x13, x14)))))) : Option ((Int32 × Int32 × Int32) ⊕ Int32))) 40000 (x1, x2, x3))
def fX10_swap (M : zMs) (i_1 : Int32) (i_2 : Int32) : Option zMs :=
gd (¬ (i_1 < 0 ∨ 6 ≤ i_1.toNatClampNeg)) (
st (M 52 i_1.toNatClampNeg) fun x1 =>
gd (¬ (i_2 < 0 ∨ 6 ≤ i_2.toNatClampNeg)) (
gd (¬ (i_1 < 0 ∨ 6 ≤ i_1.toNatClampNeg)) (
st (pM M 52 i_1.toNatClampNeg (M 52 i_2.toNatClampNeg)) fun M2 =>
gd (¬ (i_2 < 0 ∨ 6 ≤ i_2.toNatClampNeg)) (
st (pM M2 52 i_2.toNatClampNeg x1) fun M3 =>
some (M3)))))
def fX10_reorder (M : zMs)  : Option (Int32 × zMs) :=
st ((M 51 0) - (2 : Int32)) fun x1 =>
lp (fun (q2 : (Int32)) => (st (fun (u_ : Unit) => (if 0 ≤ q2 then
st ((M 51 0) - (1 : Int32)) fun x9 =>
lp (fun (q10 : (Int32)) => (gd (¬ (q10 < 0 ∨ 6 ≤ q10.toNatClampNeg)) (
gd (¬ (q2 < 0 ∨ 6 ≤ q2.toNatClampNeg)) (
if (M 52 q2.toNatClampNeg) ≤ (M 52 q10.toNatClampNeg) then
cl (fX10_swap M q2 q10) fun M18 =>
st (q2 + (1 : Int32)) fun x19 =>
st ((M18 51 0) - (1 : Int32)) fun x20 =>
lp (fun (q21 : (Int32 × Int32 × zMs)) => (if q21.2.1 ≤ q21.1 then
some (.inr (.inr (.inr (((1 : Int32), q21.2.2)))))
else
cl (fX10_swap q21.2.2 q21.1 q21.2.1) fun M29 =>
st (q21.1 + (1 : Int32)) fun x30 =>
st (q21.2.1 + (-1 : Int32)) fun x31 =>
some (.inl (x30, x31, M29)) : Option ((Int32 × Int32 × zMs) ⊕ ((Int32) ⊕ ((Int32) ⊕ (Int32 × zMs)))))) 40000 (x19, x20, M18)
else
st (q10 + (-1 : Int32)) fun x32 =>
some (.inl (x32)))) : Option ((Int32) ⊕ ((Int32) ⊕ (Int32 × zMs))))) 40000 (x9)
else
some (.inr (((0 : Int32), M))) : Option ((Int32) ⊕ (Int32 × zMs)))) fun j8 =>
if q2 < 0 then
j8 ()
else
gd (¬ (q2 < 0 ∨ 6 ≤ q2.toNatClampNeg)) (
gd (¬ ((q2 + (1 : Int32)) < 0 ∨ 6 ≤ (q2 + (1 : Int32)).toNatClampNeg)) (
if (M 52 q2.toNatClampNeg) ≤ (M 52 (q2 + (1 : Int32)).toNatClampNeg) then
j8 ()
else
st (q2 + (-1 : Int32)) fun x33 =>
some (.inl (x33)))) : Option ((Int32) ⊕ (Int32 × zMs)))) 40000 (x1)
def fX10_makePlan (M : zMs) (i_1 : Int32) : Option zMs :=
st (pM M 51 0 (0 : Int32)) fun M1 =>
st (0 : Int32) fun x2 =>
lp (fun (q3 : (Int32 × zMs)) => (if (q3.2 1 0) ≤ q3.1 then
st (pM q3.2 54 0 (-1 : Int32)) fun M9 =>
st (1 : Int32) fun x10 =>
lp (fun (q11 : (Int32 × zMs)) => (if q11.1 = 0 then
some (.inr (.inr (q11.2)))
else
cl (fX10_lengthOf q11.2 i_1) fun r17 =>
st r17 fun x19 =>
st (fun (S20 : zMs) => (cl2 (fX10_reorder S20) fun r22 M24 =>
st r22 fun x26 =>
some (.inl (x26, M24)) : Option ((Int32 × zMs) ⊕ ((Int32 × zMs) ⊕ zMs)))) fun j21 =>
st (fun (u_ : Unit) => (st (pM q11.2 54 0 x19) fun M28 =>
st (0 : Int32) fun x29 =>
lp (fun (q30 : (Int32 × zMs)) => (if (q30.2 51 0) ≤ q30.1 then
cl (j21 q30.2) fun v_ => some (.inr v_)
else
gd (¬ (q30.1 < 0 ∨ 6 ≤ q30.1.toNatClampNeg)) (
gd (¬ (q30.1 < 0 ∨ 6 ≤ q30.1.toNatClampNeg)) (
st (pM q30.2 53 q30.1.toNatClampNeg (q30.2 52 q30.1.toNatClampNeg)) fun M37 =>
st (q30.1 + (1 : Int32)) fun x38 =>
some (.inl (x38, M37)))) : Option ((Int32 × zMs) ⊕ ((Int32 × zMs) ⊕ ((Int32 × zMs) ⊕ zMs))))) 40000 (x29, M28) : Option ((Int32 × zMs) ⊕ ((Int32 × zMs) ⊕ zMs)))) fun j27 =>
if (q11.2 54 0) = (-1 : Int32) then
j27 ()
else
if (q11.2 54 0) ≤ x19 then
j21 q11.2
else
j27 () : Option ((Int32 × zMs) ⊕ ((Int32 × zMs) ⊕ zMs)))) 40000 (x10, M9)
else
cl (fX10_needsService q3.2 q3.1) fun r39 =>
st (fun (S42 : zMs) => (st (q3.1 + (1 : Int32)) fun x44 =>
some (.inl (x44, S42)) : Option ((Int32 × zMs) ⊕ zMs))) fun j43 =>
if r39 = 0 then
j43 q3.2
else
gd (¬ ((q3.2 51 0) < 0 ∨ 6 ≤ (q3.2 51 0).toNatClampNeg)) (
st (pM q3.2 52 (q3.2 51 0).toNatClampNeg q3.1) fun M45 =>
st (pM M45 51 0 ((M45 51 0) + (1 : Int32))) fun M46 =>
j43 M46) : Option ((Int32 × zMs) ⊕ zMs))) 40000 (x2, M1)
def fX10_way (M : zMs) (i_1 : Int32) : Option (Int32 × zMs) :=
cl (fX10_isVan M i_1) fun r1 =>
st (fun (y4 : Int32) => (cl2 (fX10_refused M y4) fun r7 M9 =>
if r7 = 0 then
cl (fX10_makePlan M9 i_1) fun M13 =>
some (((M13 54 0), M13))
else
some (((0 : Int32), M9)) : Option (Int32 × zMs))) fun j6 =>
if r1 = 0 then
j6 (1 : Int32)
else
j6 (0 : Int32)
def fX10_planned (M : zMs) (i_1 : Int32) (i_2 : Int32) : Option (Int32 × zMs) :=
cl (fX10_isVan M i_1) fun r1 =>
st (fun (y4 : Int32) => (st y4 fun x7 =>
st (fun (S8 : zMs) => (st (fun (y10 : Int32) => (cl2 (fX10_refused S8 y10) fun r13 M15 =>
if r13 = 0 then
gd (¬ (i_2 < 0 ∨ 6 ≤ i_2.toNatClampNeg)) (
some (((M15 53 i_2.toNatClampNeg), M15)))
else
some (((0 : Int32), M15)) : Option (Int32 × zMs))) fun j12 =>
st (fun (u_ : Unit) => (j12 (1 : Int32) : Option (Int32 × zMs))) fun j17 =>
if x7 = 0 then
j17 ()
else
if (S8 51 0) ≤ i_2 then
j17 ()
else
j12 (0 : Int32) : Option (Int32 × zMs))) fun j9 =>
if x7 = 0 then
j9 M
else
cl (fX10_makePlan M i_1) fun M20 =>
j9 M20 : Option (Int32 × zMs))) fun j6 =>
st (fun (u_ : Unit) => (j6 (0 : Int32) : Option (Int32 × zMs))) fun j21 =>
if r1 = 0 then
j21 ()
else
if i_2 < 0 then
j21 ()
else
j6 (1 : Int32)
def fX10_mend (M : zMs) (i_1 : Int32) (i_2 : Int32) (i_3 : Int32) : Option zMs :=
st ((8 : Int32) * i_2) fun x1 =>
lp (fun (q2 : (Int32 × zMs)) => (gd (¬ (i_2 < 0 ∨ 6 ≤ i_2.toNatClampNeg)) (
if (((8 : Int32) * i_2) + (q2.2 8 i_2.toNatClampNeg)) ≤ q2.1 then
some (.inr (q2.2))
else
gd (¬ ((((2 : Int32) * i_1) + i_3) < 0 ∨ 4 ≤ (((2 : Int32) * i_1) + i_3).toNatClampNeg)) (
if (q2.2 50 (((2 : Int32) * i_1) + i_3).toNatClampNeg) ≤ 0 then
some (.inr (q2.2))
else
cl (fX10_isBad q2.2 q2.1 i_3) fun r8 =>
st (fun (S11 : zMs) => (st (q2.1 + (1 : Int32)) fun x13 =>
some (.inl (x13, S11)) : Option ((Int32 × zMs) ⊕ zMs))) fun j12 =>
if r8 = 0 then
j12 q2.2
else
gd (¬ ((((2 : Int32) * i_1) + i_3) < 0 ∨ 4 ≤ (((2 : Int32) * i_1) + i_3).toNatClampNeg)) (
gd (¬ ((((2 : Int32) * i_1) + i_3) < 0 ∨ 4 ≤ (((2 : Int32) * i_1) + i_3).toNatClampNeg)) (
st (pM q2.2 50 (((2 : Int32) * i_1) + i_3).toNatClampNeg ((q2.2 50 (((2 : Int32) * i_1) + i_3).toNatClampNeg) - (1 : Int32))) fun M14 =>
if i_3 = 0 then
gd (¬ (q2.1 < 0 ∨ 48 ≤ q2.1.toNatClampNeg)) (
gd (¬ ((M14 16 q2.1.toNatClampNeg) < 0 ∨ 60 ≤ (M14 16 q2.1.toNatClampNeg).toNatClampNeg)) (
st (pM M14 23 (M14 16 q2.1.toNatClampNeg).toNatClampNeg (vp_nar .boolean (1 : Int32))) fun M16 =>
gd (¬ (q2.1 < 0 ∨ 48 ≤ q2.1.toNatClampNeg)) (
st (pM M16 16 q2.1.toNatClampNeg (-1 : Int32)) fun M17 =>
j12 M17)))
else
gd (¬ (q2.1 < 0 ∨ 48 ≤ q2.1.toNatClampNeg)) (
st (pM M14 15 q2.1.toNatClampNeg (0 : Int32)) fun M15 =>
j12 M15))))) : Option ((Int32 × zMs) ⊕ zMs))) 40000 (x1, M)
def fX10_go (M : zMs) (i_1 : Int32) : Option (Int32 × zMs) :=
cl (fX10_isVan M i_1) fun r1 =>
st (fun (S4 : zMs) => (cl (fX10_isVan S4 i_1) fun r6 =>
st (fun (y9 : Int32) => (cl2 (fX10_refused S4 y9) fun r11 M13 =>
if r11 = 0 then
st (0 : Int32) fun x15 =>
st (0 : Int32) fun x16 =>
lp (fun (q17 : (Int32 × Int32 × zMs)) => (if (q17.2.2 51 0) ≤ q17.2.1 then
some (.inr ((q17.1, q17.2.2)))
else
gd (¬ (q17.2.1 < 0 ∨ 6 ≤ q17.2.1.toNatClampNeg)) (
st (q17.2.2 53 q17.2.1.toNatClampNeg) fun x23 =>
gd (¬ (x23 < 0 ∨ 6 ≤ x23.toNatClampNeg)) (
st (q17.1 + (q17.2.2 4 x23.toNatClampNeg)) fun x24 =>
gd (¬ (x23 < 0 ∨ 6 ≤ x23.toNatClampNeg)) (
gd (¬ (x23 < 0 ∨ 6 ≤ x23.toNatClampNeg)) (
gd (¬ (x23 < 0 ∨ 6 ≤ x23.toNatClampNeg)) (
gd (¬ (x23 < 0 ∨ 6 ≤ x23.toNatClampNeg)) (
st (pM q17.2.2 6 x23.toNatClampNeg ((q17.2.2 6 x23.toNatClampNeg) + ((q17.2.2 5 x23.toNatClampNeg) - (q17.2.2 4 x23.toNatClampNeg)))) fun M25 =>
gd (¬ (x23 < 0 ∨ 6 ≤ x23.toNatClampNeg)) (
st (pM M25 4 x23.toNatClampNeg (0 : Int32)) fun M26 =>
gd (¬ (x23 < 0 ∨ 6 ≤ x23.toNatClampNeg)) (
st (pM M26 5 x23.toNatClampNeg (0 : Int32)) fun M27 =>
cl (fX10_mend M27 i_1 x23 (0 : Int32)) fun M30 =>
cl (fX10_mend M30 i_1 x23 (1 : Int32)) fun M33 =>
gd (¬ (x23 < 0 ∨ 6 ≤ x23.toNatClampNeg)) (
gd (¬ (i_1 < 0 ∨ 2 ≤ i_1.toNatClampNeg)) (
st (pM M33 49 i_1.toNatClampNeg (M33 2 x23.toNatClampNeg)) fun M34 =>
st (q17.2.1 + (1 : Int32)) fun x35 =>
some (.inl (x24, x35, M34)))))))))))) : Option ((Int32 × Int32 × zMs) ⊕ (Int32 × zMs)))) 40000 (x15, x16, M13)
else
some (((0 : Int32), M13)) : Option (Int32 × zMs))) fun j10 =>
if r6 = 0 then
j10 (1 : Int32)
else
if (S4 51 0) ≤ 0 then
j10 (2 : Int32)
else
j10 (0 : Int32) : Option (Int32 × zMs))) fun j5 =>
if r1 = 0 then
j5 M
else
cl (fX10_makePlan M i_1) fun M38 =>
j5 M38
def fX10_vanAt (M : zMs) (i_1 : Int32) : Option (Int32 × zMs) :=
cl (fX10_isVan M i_1) fun r1 =>
st (fun (y4 : Int32) => (cl2 (fX10_refused M y4) fun r7 M9 =>
if r7 = 0 then
gd (¬ (i_1 < 0 ∨ 2 ≤ i_1.toNatClampNeg)) (
some (((M9 49 i_1.toNatClampNeg), M9)))
else
some (((0 : Int32), M9)) : Option (Int32 × zMs))) fun j6 =>
if r1 = 0 then
j6 (1 : Int32)
else
j6 (0 : Int32)
def fX10_init (M : zMs) : Option zMs :=
st (0 : Int32) fun x1 =>
lp (fun (q2 : (Int32 × zMs)) => (if (48 : Int32) ≤ q2.1 then
st (0 : Int32) fun x8 =>
lp (fun (q9 : (Int32 × zMs)) => (if (24 : Int32) ≤ q9.1 then
some (.inr (.inr (q9.2)))
else
gd (¬ (q9.1 < 0 ∨ 24 ≤ q9.1.toNatClampNeg)) (
st (pM q9.2 17 q9.1.toNatClampNeg (-1 : Int32)) fun M15 =>
st (q9.1 + (1 : Int32)) fun x16 =>
some (.inl (x16, M15))) : Option ((Int32 × zMs) ⊕ ((Int32 × zMs) ⊕ zMs)))) 40000 (x8, q2.2)
else
gd (¬ (q2.1 < 0 ∨ 48 ≤ q2.1.toNatClampNeg)) (
st (pM q2.2 16 q2.1.toNatClampNeg (-1 : Int32)) fun M17 =>
st (q2.1 + (1 : Int32)) fun x18 =>
some (.inl (x18, M17))) : Option ((Int32 × zMs) ⊕ zMs))) 40000 (x1, M)
