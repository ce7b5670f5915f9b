/-! THE LAW'S METHODS as functions of rows -/
def fL_far (i_1 : Int32) (i_2 : Int32) : Option Int32 :=
if i_2 ≤ i_1 then
some ((i_1 - i_2))
else
some ((i_2 - i_1))
def fL_refuses (M : zMs) (I : Nat → Int32) (i_3 : Int32) : Option (Int32 × zMs) :=
st (fun (y1 : Int32) => (st y1 fun x3 =>
st (fun (y4 : Int32) => (st y4 fun x6 =>
st (fun (y7 : Int32) => (st y7 fun x9 =>
st (fun (y10 : Int32) => (st y10 fun x12 =>
st (N_tables M ((101 : Int32) + i_3) (1 : Int32)) fun M13 =>
st (fun (y14 : Int32) (M15 : zMs) => (st y14 fun x17 =>
if x17 = 0 then
gd (x17 = 0 ∨ x17 = 1) (some ((x17, M15)))
else
if (M15 1 0) ≤ 0 then
gd (x17 = 0 ∨ x17 = 1) (some ((x17, M15)))
else
gd (¬ (M15 1 0) = 0) (
st ((i_3 / (2 : Int32)) - (i_3 / (2 : Int32)) / (M15 1 0) * (M15 1 0)) fun x18 =>
gd (¬ (x18 < 0 ∨ 14 ≤ x18.toNatClampNeg)) (
st (I x18.toNatClampNeg) fun x19 =>
st (fun (y20 : Int32) => (st y20 fun x22 =>
st (N_bumpers M15 x18 ((160 : Int32) + i_3) (0 : Int32) (101 : Int32) (0 : Int32)) fun M23 =>
st (fun (y24 : Int32) (M25 : zMs) => (st y24 fun x27 =>
st (fun (y28 : Int32) (M29 : zMs) => (st (0 : Int32) fun x31 =>
lp (fun (q32 : (Int32 × Int32 × zMs)) => (if x19 ≤ q32.2.1 then
gd (q32.1 = 0 ∨ q32.1 = 1) (some (.inr ((q32.1, q32.2.2))))
else
if q32.1 = 0 then
gd (q32.1 = 0 ∨ q32.1 = 1) (some (.inr ((q32.1, q32.2.2))))
else
st (fun (y40 : Int32) (M41 : zMs) => (st y40 fun x43 =>
st (q32.2.1 + (1 : Int32)) fun x44 =>
some (.inl (x43, x44, M41)) : Option ((Int32 × Int32 × zMs) ⊕ (Int32 × zMs)))) fun j42 =>
st (fun (M45 : zMs) => (j42 (1 : Int32) M45 : Option ((Int32 × Int32 × zMs) ⊕ (Int32 × zMs)))) fun j46 =>
if (A_sticks q32.2.2 x18 q32.2.1) = 0 then
j46 q32.2.2
else
st (N_stick q32.2.2 x18 q32.2.1) fun M47 =>
if (A_stick q32.2.2 x18 q32.2.1) = (-2000000003 : Int32) then
j46 M47
else
j42 (0 : Int32) M47 : Option ((Int32 × Int32 × zMs) ⊕ (Int32 × zMs)))) 9 (y28, x31, M29) : Option (Int32 × zMs))) fun j30 =>
st (fun (u_ : Unit) => (if x27 = 0 then
j30 x27 M25
else
st (N_shoot M25 x18 (0 : Int32) (0 : Int32) (0 : Int32)) fun M49 =>
st (fun (y50 : Int32) (M51 : zMs) => (st y50 fun x53 =>
j30 x53 M51 : Option (Int32 × zMs))) fun j52 =>
st (fun (M54 : zMs) => (j52 (0 : Int32) M54 : Option (Int32 × zMs))) fun j55 =>
if (A_shoot M25 x18 (0 : Int32) (0 : Int32) (0 : Int32)) = (-2000000003 : Int32) then
st (fun (M56 : zMs) => (st (fun (M58 : zMs) => (j52 (1 : Int32) M58 : Option (Int32 × zMs))) fun j59 =>
if (M56 24 0) < (40 : Int32) then
j59 M56
else
st (N_coin M56 x18) fun M60 =>
if (A_coin M56 x18) = (-2000000003 : Int32) then
j59 M60
else
j55 M60 : Option (Int32 × zMs))) fun j57 =>
if x19 < (8 : Int32) then
j57 M49
else
st (N_bumpers M49 x18 (0 : Int32) (0 : Int32) (101 : Int32) (0 : Int32)) fun M61 =>
if (A_bumpers M49 x18 (0 : Int32) (0 : Int32) (101 : Int32) (0 : Int32)) = (-2000000003 : Int32) then
j57 M61
else
j55 M61
else
j55 M49 : Option (Int32 × zMs))) fun j48 =>
if x27 = 0 then
j48 ()
else
if (A_gameAt M25 x18) < 0 then
j48 ()
else
st (N_coin M25 x18) fun M62 =>
st (fun (y63 : Int32) (M64 : zMs) => (st y63 fun x66 =>
j30 x66 M64 : Option (Int32 × zMs))) fun j65 =>
st (fun (M67 : zMs) => (j65 (0 : Int32) M67 : Option (Int32 × zMs))) fun j68 =>
if (A_coin M25 x18) = (-2000000003 : Int32) then
st (N_bumpers M62 x18 (0 : Int32) (0 : Int32) (101 : Int32) (0 : Int32)) fun M69 =>
if (A_bumpers M62 x18 (0 : Int32) (0 : Int32) (101 : Int32) (0 : Int32)) = (-2000000003 : Int32) then
st (N_modes M69 x18 (0 : Int32) (-1 : Int32) (102 : Int32) (0 : Int32)) fun M70 =>
if (A_modes M69 x18 (0 : Int32) (-1 : Int32) (102 : Int32) (0 : Int32)) = (-2000000003 : Int32) then
st (fun (M71 : zMs) => (if (A_twin M71 (A_gameAt M71 x18)) = (-1 : Int32) then
j65 (1 : Int32) M71
else
j68 M71 : Option (Int32 × zMs))) fun j72 =>
if x19 = 0 then
j72 M70
else
st (N_points M70 x18 (0 : Int32) (5 : Int32)) fun M73 =>
if (A_points M70 x18 (0 : Int32) (5 : Int32)) = (-2000000003 : Int32) then
j72 M73
else
j68 M73
else
j68 M70
else
j68 M69
else
j68 M62 : Option (Int32 × zMs))) fun j26 =>
st (fun (M74 : zMs) => (j26 (0 : Int32) M74 : Option (Int32 × zMs))) fun j75 =>
if (A_bumpers M15 x18 ((160 : Int32) + i_3) (0 : Int32) (101 : Int32) (0 : Int32)) = (-2000000002 : Int32) then
st (N_bumpers M23 x18 (0 : Int32) ((240 : Int32) + i_3) (101 : Int32) (0 : Int32)) fun M76 =>
if (A_bumpers M23 x18 (0 : Int32) ((240 : Int32) + i_3) (101 : Int32) (0 : Int32)) = (-2000000002 : Int32) then
st (N_bumpers M76 x18 (0 : Int32) (0 : Int32) ((6200 : Int32) + i_3) (0 : Int32)) fun M77 =>
if (A_bumpers M76 x18 (0 : Int32) (0 : Int32) ((6200 : Int32) + i_3) (0 : Int32)) = (-2000000002 : Int32) then
st (N_bumpers M77 x18 (0 : Int32) (0 : Int32) ((-101 : Int32) - i_3) (0 : Int32)) fun M78 =>
if (A_bumpers M77 x18 (0 : Int32) (0 : Int32) ((-101 : Int32) - i_3) (0 : Int32)) = (-2000000002 : Int32) then
st (N_bumpers M78 x18 (0 : Int32) (0 : Int32) (101 : Int32) ((21 : Int32) + i_3)) fun M79 =>
if (A_bumpers M78 x18 (0 : Int32) (0 : Int32) (101 : Int32) ((21 : Int32) + i_3)) = (-2000000002 : Int32) then
st (N_points M79 x18 x22 (5 : Int32)) fun M80 =>
if (A_points M79 x18 x22 (5 : Int32)) = (-2000000001 : Int32) then
st (N_modes M80 x18 ((4 : Int32) + i_3) (-1 : Int32) (102 : Int32) (0 : Int32)) fun M81 =>
if (A_modes M80 x18 ((4 : Int32) + i_3) (-1 : Int32) (102 : Int32) (0 : Int32)) = (-2000000001 : Int32) then
st (N_modes M81 x18 (i_3 - i_3 / (4 : Int32) * (4 : Int32)) ((10 : Int32) * x19) (102 : Int32) (0 : Int32)) fun M82 =>
if (A_modes M81 x18 (i_3 - i_3 / (4 : Int32) * (4 : Int32)) ((10 : Int32) * x19) (102 : Int32) (0 : Int32)) = (-2000000001 : Int32) then
st (N_modes M82 x18 (i_3 - i_3 / (4 : Int32) * (4 : Int32)) ((-2 : Int32) - i_3) (102 : Int32) (0 : Int32)) fun M83 =>
if (A_modes M82 x18 (i_3 - i_3 / (4 : Int32) * (4 : Int32)) ((-2 : Int32) - i_3) (102 : Int32) (0 : Int32)) = (-2000000002 : Int32) then
st (N_modes M83 x18 (i_3 - i_3 / (4 : Int32) * (4 : Int32)) (-1 : Int32) ((-102 : Int32) - i_3) (0 : Int32)) fun M84 =>
if (A_modes M83 x18 (i_3 - i_3 / (4 : Int32) * (4 : Int32)) (-1 : Int32) ((-102 : Int32) - i_3) (0 : Int32)) = (-2000000002 : Int32) then
st (N_modes M84 x18 (i_3 - i_3 / (4 : Int32) * (4 : Int32)) (-1 : Int32) (102 : Int32) ((5001 : Int32) + i_3)) fun M85 =>
if (A_modes M84 x18 (i_3 - i_3 / (4 : Int32) * (4 : Int32)) (-1 : Int32) (102 : Int32) ((5001 : Int32) + i_3)) = (-2000000002 : Int32) then
st (N_stick M85 x18 x22) fun M86 =>
if (A_stick M85 x18 x22) = (-2000000001 : Int32) then
if (A_sticks M86 x18 x22) = (-2000000001 : Int32) then
if (A_wear M86 x18 x22) = (-2000000001 : Int32) then
st (N_shoot M86 x18 ((160 : Int32) + i_3) (0 : Int32) (0 : Int32)) fun M87 =>
if (A_shoot M86 x18 ((160 : Int32) + i_3) (0 : Int32) (0 : Int32)) = (-2000000002 : Int32) then
st (N_shoot M87 x18 (0 : Int32) ((-31 : Int32) - i_3) (0 : Int32)) fun M88 =>
if (A_shoot M87 x18 (0 : Int32) ((-31 : Int32) - i_3) (0 : Int32)) = (-2000000002 : Int32) then
st (N_shoot M88 x18 (0 : Int32) (0 : Int32) ((31 : Int32) + i_3)) fun M89 =>
if (A_shoot M88 x18 (0 : Int32) (0 : Int32) ((31 : Int32) + i_3)) = (-2000000002 : Int32) then
if (A_high M89 x18 ((-1 : Int32) - i_3)) = (-2000000002 : Int32) then
if (A_high M89 x18 ((40 : Int32) + i_3)) = (-1 : Int32) then
st (N_rob M89 x18 ((101 : Int32) + i_3)) fun M90 =>
if (A_rob M89 x18 ((101 : Int32) + i_3)) = (-2000000002 : Int32) then
st (N_rob M90 x18 (-i_3)) fun M91 =>
if (A_rob M90 x18 (-i_3)) = (-2000000002 : Int32) then
st (fun (M92 : zMs) => (j26 (1 : Int32) M92 : Option (Int32 × zMs))) fun j93 =>
if (99 : Int32) < (A_box M91 x18) then
j93 M91
else
st (N_rob M91 x18 ((A_box M91 x18) + (1 : Int32))) fun M94 =>
if (A_rob M91 x18 ((A_box M91 x18) + (1 : Int32))) = (-2000000003 : Int32) then
j93 M94
else
j75 M94
else
j75 M91
else
j75 M90
else
j75 M89
else
j75 M89
else
j75 M89
else
j75 M88
else
j75 M87
else
j75 M86
else
j75 M86
else
j75 M86
else
j75 M85
else
j75 M84
else
j75 M83
else
j75 M82
else
j75 M81
else
j75 M80
else
j75 M79
else
j75 M78
else
j75 M77
else
j75 M76
else
j75 M23 : Option (Int32 × zMs))) fun j21 =>
if x3 = 0 then
j21 (x19 + (i_3 - i_3 / (50 : Int32) * (50 : Int32)))
else
j21 ((-1 : Int32) - (i_3 - i_3 / (50 : Int32) * (50 : Int32))))) : Option (Int32 × zMs))) fun j16 =>
st (fun (M95 : zMs) => (j16 (0 : Int32) M95 : Option (Int32 × zMs))) fun j96 =>
if (A_tables M ((101 : Int32) + i_3) (1 : Int32)) = (-2000000002 : Int32) then
st (N_tables M13 (i_3 - i_3 / (101 : Int32) * (101 : Int32)) ((10 : Int32) + i_3)) fun M97 =>
if (A_tables M13 (i_3 - i_3 / (101 : Int32) * (101 : Int32)) ((10 : Int32) + i_3)) = (-2000000002 : Int32) then
st (N_tables M97 ((-1 : Int32) - i_3) (1 : Int32)) fun M98 =>
if (A_tables M97 ((-1 : Int32) - i_3) (1 : Int32)) = (-2000000002 : Int32) then
st (N_tables M98 (i_3 - i_3 / (101 : Int32) * (101 : Int32)) (-i_3)) fun M99 =>
if (A_tables M98 (i_3 - i_3 / (101 : Int32) * (101 : Int32)) (-i_3)) = (-2000000002 : Int32) then
st (N_bumpers M99 x6 (999 : Int32) (0 : Int32) (101 : Int32) (0 : Int32)) fun M100 =>
if (A_bumpers M99 x6 (999 : Int32) (0 : Int32) (101 : Int32) (0 : Int32)) = (-2000000001 : Int32) then
st (N_points M100 x6 (0 : Int32) (9999 : Int32)) fun M101 =>
if (A_points M100 x6 (0 : Int32) (9999 : Int32)) = (-2000000001 : Int32) then
st (N_modes M101 x6 (0 : Int32) (-5 : Int32) (0 : Int32) (0 : Int32)) fun M102 =>
if (A_modes M101 x6 (0 : Int32) (-5 : Int32) (0 : Int32) (0 : Int32)) = (-2000000001 : Int32) then
st (N_stick M102 x6 (0 : Int32)) fun M103 =>
if (A_stick M102 x6 (0 : Int32)) = (-2000000001 : Int32) then
if (A_sticks M103 x6 (0 : Int32)) = (-2000000001 : Int32) then
if (A_wear M103 x6 (0 : Int32)) = (-2000000001 : Int32) then
st (N_coin M103 x6) fun M104 =>
if (A_coin M103 x6) = (-2000000001 : Int32) then
st (N_shoot M104 x6 (999 : Int32) (0 : Int32) (0 : Int32)) fun M105 =>
if (A_shoot M104 x6 (999 : Int32) (0 : Int32) (0 : Int32)) = (-2000000001 : Int32) then
if (A_gameAt M105 x6) = (-2000000001 : Int32) then
if (A_balls M105 x9) = (-2000000001 : Int32) then
if (A_stack M105 x9) = (-2000000001 : Int32) then
if (A_score M105 x9) = (-2000000001 : Int32) then
if (A_byLog M105 x9) = (-2000000001 : Int32) then
if (A_valid M105 x9) = (-2000000001 : Int32) then
if (A_logged M105 x9) = (-2000000001 : Int32) then
if (lg_cmp (A_entry M105 x9 (0 : Int32)) (-2000000001 : Int64)) = 0 then
if (A_twin M105 x9) = (-2000000001 : Int32) then
if (A_high M105 x6 (-1 : Int32)) = (-2000000001 : Int32) then
st (N_rob M105 x6 (0 : Int32)) fun M106 =>
if (A_rob M105 x6 (0 : Int32)) = (-2000000001 : Int32) then
if (A_box M106 x6) = (-2000000001 : Int32) then
if (A_missing M106 x6) = (-2000000001 : Int32) then
st (N_load M106 x12 (5 : Int32) (0 : Int32)) fun M107 =>
if (A_load M106 x12 (5 : Int32) (0 : Int32)) = (-2000000001 : Int32) then
st (N_load M107 (i_3 - i_3 / (2 : Int32) * (2 : Int32)) ((2 : Int32) + i_3) (1 : Int32)) fun M108 =>
if (A_load M107 (i_3 - i_3 / (2 : Int32) * (2 : Int32)) ((2 : Int32) + i_3) (1 : Int32)) = (-2000000002 : Int32) then
st (N_load M108 (i_3 - i_3 / (2 : Int32) * (2 : Int32)) ((-1 : Int32) - i_3) (1 : Int32)) fun M109 =>
if (A_load M108 (i_3 - i_3 / (2 : Int32) * (2 : Int32)) ((-1 : Int32) - i_3) (1 : Int32)) = (-2000000002 : Int32) then
st (N_load M109 (i_3 - i_3 / (2 : Int32) * (2 : Int32)) (i_3 - i_3 / (2 : Int32) * (2 : Int32)) ((21 : Int32) + i_3)) fun M110 =>
if (A_load M109 (i_3 - i_3 / (2 : Int32) * (2 : Int32)) (i_3 - i_3 / (2 : Int32) * (2 : Int32)) ((21 : Int32) + i_3)) = (-2000000002 : Int32) then
st (N_load M110 (i_3 - i_3 / (2 : Int32) * (2 : Int32)) (i_3 - i_3 / (2 : Int32) * (2 : Int32)) (-i_3)) fun M111 =>
if (A_load M110 (i_3 - i_3 / (2 : Int32) * (2 : Int32)) (i_3 - i_3 / (2 : Int32) * (2 : Int32)) (-i_3)) = (-2000000002 : Int32) then
if (A_parts M111 x12 (0 : Int32)) = (-2000000001 : Int32) then
if (A_parts M111 (i_3 - i_3 / (2 : Int32) * (2 : Int32)) ((2 : Int32) + i_3)) = (-2000000002 : Int32) then
if (A_wanted M111 ((-1 : Int32) - i_3)) = (-2000000002 : Int32) then
if (A_wanted M111 ((2 : Int32) + i_3)) = (-2000000002 : Int32) then
if (A_way M111 x12) = (-2000000001 : Int32) then
if (A_planned M111 x12 (0 : Int32)) = (-2000000001 : Int32) then
if (A_planned M111 (i_3 - i_3 / (2 : Int32) * (2 : Int32)) ((6 : Int32) + i_3)) = (-2000000001 : Int32) then
if (A_planned M111 (i_3 - i_3 / (2 : Int32) * (2 : Int32)) ((-1 : Int32) - i_3)) = (-2000000001 : Int32) then
st (N_go M111 x12) fun M112 =>
if (A_go M111 x12) = (-2000000001 : Int32) then
if (A_vanAt M112 x12) = (-2000000001 : Int32) then
st (fun (M113 : zMs) => (st (fun (M115 : zMs) => (st (fun (M117 : zMs) => (j16 (1 : Int32) M117 : Option (Int32 × zMs))) fun j118 =>
if (A_parts M115 (i_3 - i_3 / (2 : Int32) * (2 : Int32)) (0 : Int32)) < (1 : Int32) then
j118 M115
else
st (N_load M115 (i_3 - i_3 / (2 : Int32) * (2 : Int32)) (0 : Int32) (20 : Int32)) fun M119 =>
if (A_load M115 (i_3 - i_3 / (2 : Int32) * (2 : Int32)) (0 : Int32) (20 : Int32)) = (-2000000003 : Int32) then
j118 M119
else
j96 M119 : Option (Int32 × zMs))) fun j116 =>
if 0 ≤ (A_planned M113 (i_3 - i_3 / (2 : Int32) * (2 : Int32)) (0 : Int32)) then
j116 M113
else
st (N_go M113 (i_3 - i_3 / (2 : Int32) * (2 : Int32))) fun M120 =>
if (A_go M113 (i_3 - i_3 / (2 : Int32) * (2 : Int32))) = (-2000000003 : Int32) then
if (A_way M120 (i_3 - i_3 / (2 : Int32) * (2 : Int32))) = 0 then
j116 M120
else
j96 M120
else
j96 M120 : Option (Int32 × zMs))) fun j114 =>
if (M112 1 0) < (6 : Int32) then
j114 M112
else
st (N_tables M112 (0 : Int32) (1 : Int32)) fun M121 =>
if (A_tables M112 (0 : Int32) (1 : Int32)) = (-2000000003 : Int32) then
j114 M121
else
j96 M121
else
j96 M112
else
j96 M112
else
j96 M111
else
j96 M111
else
j96 M111
else
j96 M111
else
j96 M111
else
j96 M111
else
j96 M111
else
j96 M111
else
j96 M111
else
j96 M110
else
j96 M109
else
j96 M108
else
j96 M107
else
j96 M106
else
j96 M106
else
j96 M106
else
j96 M105
else
j96 M105
else
j96 M105
else
j96 M105
else
j96 M105
else
j96 M105
else
j96 M105
else
j96 M105
else
j96 M105
else
j96 M105
else
j96 M105
else
j96 M104
else
j96 M103
else
j96 M103
else
j96 M103
else
j96 M102
else
j96 M101
else
j96 M100
else
j96 M99
else
j96 M98
else
j96 M97
else
j96 M13 : Option (Int32 × zMs))) fun j11 =>
if x3 = 0 then
j11 ((2 : Int32) + (i_3 - i_3 / (50 : Int32) * (50 : Int32)))
else
j11 ((-1 : Int32) - (i_3 - i_3 / (50 : Int32) * (50 : Int32))) : Option (Int32 × zMs))) fun j8 =>
if x3 = 0 then
j8 ((M 24 0) + (i_3 - i_3 / (50 : Int32) * (50 : Int32)))
else
j8 ((-1 : Int32) - (i_3 - i_3 / (50 : Int32) * (50 : Int32))) : Option (Int32 × zMs))) fun j5 =>
if x3 = 0 then
j5 ((M 1 0) + (i_3 - i_3 / (50 : Int32) * (50 : Int32)))
else
j5 ((-1 : Int32) - (i_3 - i_3 / (50 : Int32) * (50 : Int32))) : Option (Int32 × zMs))) fun j2 =>
if (i_3 - i_3 / (2 : Int32) * (2 : Int32)) = 0 then
j2 (1 : Int32)
else
j2 (0 : Int32)
def fL_act (M : zMs) (I : Nat → Int32) (i_3 : Int32) : Option (Int32 × zMs) :=
st (i_3 / (32 : Int32)) fun x1 =>
st (fun (y2 : Int32) => (st y2 fun x4 =>
st (fun (y5 : Int32) => (st y5 fun x7 =>
st (fun (y8 : Int32) => (st y8 fun x10 =>
if (i_3 - i_3 / (32 : Int32) * (32 : Int32)) < 0 ∨ (20 : Int32) < (i_3 - i_3 / (32 : Int32) * (32 : Int32)) then
st (N_shoot M x4 ((x1 / (8 : Int32)) - (x1 / (8 : Int32)) / (160 : Int32) * (160 : Int32)) (((x1 / (1280 : Int32)) - (x1 / (1280 : Int32)) / (61 : Int32) * (61 : Int32)) - (30 : Int32)) (((x1 / (9 : Int32)) - (x1 / (9 : Int32)) / (61 : Int32) * (61 : Int32)) - (30 : Int32))) fun M11 =>
some (((A_shoot M x4 ((x1 / (8 : Int32)) - (x1 / (8 : Int32)) / (160 : Int32) * (160 : Int32)) (((x1 / (1280 : Int32)) - (x1 / (1280 : Int32)) / (61 : Int32) * (61 : Int32)) - (30 : Int32)) (((x1 / (9 : Int32)) - (x1 / (9 : Int32)) / (61 : Int32) * (61 : Int32)) - (30 : Int32))), M11))
else
if (i_3 - i_3 / (32 : Int32) * (32 : Int32)) = (0 : Int32) then
st (N_tables M (x1 - x1 / (101 : Int32) * (101 : Int32)) ((1 : Int32) + ((x1 / (101 : Int32)) - (x1 / (101 : Int32)) / (9 : Int32) * (9 : Int32)))) fun M12 =>
some (((A_tables M (x1 - x1 / (101 : Int32) * (101 : Int32)) ((1 : Int32) + ((x1 / (101 : Int32)) - (x1 / (101 : Int32)) / (9 : Int32) * (9 : Int32)))), M12))
else
if (i_3 - i_3 / (32 : Int32) * (32 : Int32)) = (1 : Int32) ∨ (i_3 - i_3 / (32 : Int32) * (32 : Int32)) = (2 : Int32) ∨ (i_3 - i_3 / (32 : Int32) * (32 : Int32)) = (3 : Int32) ∨ (i_3 - i_3 / (32 : Int32) * (32 : Int32)) = (4 : Int32) then
st (N_bumpers M x4 ((x1 / (8 : Int32)) - (x1 / (8 : Int32)) / (160 : Int32) * (160 : Int32)) ((x1 / (1280 : Int32)) - (x1 / (1280 : Int32)) / (240 : Int32) * (240 : Int32)) ((((100 : Int32) * ((1 : Int32) + ((x1 / (7 : Int32)) - (x1 / (7 : Int32)) / (60 : Int32) * (60 : Int32)))) + (1 : Int32)) + ((x1 / (11 : Int32)) - (x1 / (11 : Int32)) / (60 : Int32) * (60 : Int32))) ((x1 / (13 : Int32)) - (x1 / (13 : Int32)) / (21 : Int32) * (21 : Int32))) fun M13 =>
some (((A_bumpers M x4 ((x1 / (8 : Int32)) - (x1 / (8 : Int32)) / (160 : Int32) * (160 : Int32)) ((x1 / (1280 : Int32)) - (x1 / (1280 : Int32)) / (240 : Int32) * (240 : Int32)) ((((100 : Int32) * ((1 : Int32) + ((x1 / (7 : Int32)) - (x1 / (7 : Int32)) / (60 : Int32) * (60 : Int32)))) + (1 : Int32)) + ((x1 / (11 : Int32)) - (x1 / (11 : Int32)) / (60 : Int32) * (60 : Int32))) ((x1 / (13 : Int32)) - (x1 / (13 : Int32)) / (21 : Int32) * (21 : Int32))), M13))
else
if (i_3 - i_3 / (32 : Int32) * (32 : Int32)) = (5 : Int32) ∨ (i_3 - i_3 / (32 : Int32) * (32 : Int32)) = (6 : Int32) then
st (N_points M x4 x10 ((x1 / (16 : Int32)) - (x1 / (16 : Int32)) / (1001 : Int32) * (1001 : Int32))) fun M14 =>
some (((A_points M x4 x10 ((x1 / (16 : Int32)) - (x1 / (16 : Int32)) / (1001 : Int32) * (1001 : Int32))), M14))
else
if (i_3 - i_3 / (32 : Int32) * (32 : Int32)) = (7 : Int32) ∨ (i_3 - i_3 / (32 : Int32) * (32 : Int32)) = (8 : Int32) then
st (fun (y15 : Int32) => (st (N_modes M x4 ((x1 / (8 : Int32)) - (x1 / (8 : Int32)) / (4 : Int32) * (4 : Int32)) y15 ((((100 : Int32) * ((1 : Int32) + ((x1 / (256 : Int32)) - (x1 / (256 : Int32)) / (8 : Int32) * (8 : Int32)))) + (2 : Int32)) + ((x1 / (5 : Int32)) - (x1 / (5 : Int32)) / (8 : Int32) * (8 : Int32))) ((x1 / (9 : Int32)) - (x1 / (9 : Int32)) / (5001 : Int32) * (5001 : Int32))) fun M17 =>
some (((A_modes M x4 ((x1 / (8 : Int32)) - (x1 / (8 : Int32)) / (4 : Int32) * (4 : Int32)) y15 ((((100 : Int32) * ((1 : Int32) + ((x1 / (256 : Int32)) - (x1 / (256 : Int32)) / (8 : Int32) * (8 : Int32)))) + (2 : Int32)) + ((x1 / (5 : Int32)) - (x1 / (5 : Int32)) / (8 : Int32) * (8 : Int32))) ((x1 / (9 : Int32)) - (x1 / (9 : Int32)) / (5001 : Int32) * (5001 : Int32))), M17)) : Option (Int32 × zMs))) fun j16 =>
if ((x1 / (3 : Int32)) - (x1 / (3 : Int32)) / (5 : Int32) * (5 : Int32)) = 0 then
j16 (-1 : Int32)
else
st (fun (y18 : Int32) => (j16 (((10 : Int32) * x10) + y18) : Option (Int32 × zMs))) fun j19 =>
if x7 = 0 then
j19 (0 : Int32)
else
gd (¬ x7 = 0) (
j19 ((x1 / (64 : Int32)) - (x1 / (64 : Int32)) / x7 * x7))
else
if (i_3 - i_3 / (32 : Int32) * (32 : Int32)) = (9 : Int32) ∨ (i_3 - i_3 / (32 : Int32) * (32 : Int32)) = (10 : Int32) ∨ (i_3 - i_3 / (32 : Int32) * (32 : Int32)) = (11 : Int32) then
st (N_stick M x4 x10) fun M20 =>
some (((A_stick M x4 x10), M20))
else
if (i_3 - i_3 / (32 : Int32) * (32 : Int32)) = (12 : Int32) ∨ (i_3 - i_3 / (32 : Int32) * (32 : Int32)) = (13 : Int32) ∨ (i_3 - i_3 / (32 : Int32) * (32 : Int32)) = (14 : Int32) ∨ (i_3 - i_3 / (32 : Int32) * (32 : Int32)) = (15 : Int32) then
st (N_coin M x4) fun M21 =>
some (((A_coin M x4), M21))
else
if (i_3 - i_3 / (32 : Int32) * (32 : Int32)) = (16 : Int32) then
st (N_rob M x4 ((1 : Int32) + ((x1 / (8 : Int32)) - (x1 / (8 : Int32)) / (9 : Int32) * (9 : Int32)))) fun M22 =>
some (((A_rob M x4 ((1 : Int32) + ((x1 / (8 : Int32)) - (x1 / (8 : Int32)) / (9 : Int32) * (9 : Int32)))), M22))
else
if (i_3 - i_3 / (32 : Int32) * (32 : Int32)) = (17 : Int32) ∨ (i_3 - i_3 / (32 : Int32) * (32 : Int32)) = (18 : Int32) then
st (N_load M ((x1 / (8 : Int32)) - (x1 / (8 : Int32)) / (2 : Int32) * (2 : Int32)) ((x1 / (16 : Int32)) - (x1 / (16 : Int32)) / (2 : Int32) * (2 : Int32)) ((1 : Int32) + ((x1 / (32 : Int32)) - (x1 / (32 : Int32)) / (4 : Int32) * (4 : Int32)))) fun M23 =>
some (((A_load M ((x1 / (8 : Int32)) - (x1 / (8 : Int32)) / (2 : Int32) * (2 : Int32)) ((x1 / (16 : Int32)) - (x1 / (16 : Int32)) / (2 : Int32) * (2 : Int32)) ((1 : Int32) + ((x1 / (32 : Int32)) - (x1 / (32 : Int32)) / (4 : Int32) * (4 : Int32)))), M23))
else
if (i_3 - i_3 / (32 : Int32) * (32 : Int32)) = (19 : Int32) ∨ (i_3 - i_3 / (32 : Int32) * (32 : Int32)) = (20 : Int32) then
st (N_go M ((x1 / (8 : Int32)) - (x1 / (8 : Int32)) / (2 : Int32) * (2 : Int32))) fun M24 =>
some (((A_go M ((x1 / (8 : Int32)) - (x1 / (8 : Int32)) / (2 : Int32) * (2 : Int32))), M24))
else
none : Option (Int32 × zMs))) fun j9 =>
if x7 = 0 then
j9 (0 : Int32)
else
gd (¬ x7 = 0) (
j9 ((x1 / (8 : Int32)) - (x1 / (8 : Int32)) / x7 * x7)) : Option (Int32 × zMs))) fun j6 =>
if (M 1 0) = 0 then
j6 (0 : Int32)
else
gd (¬ (x4 < 0 ∨ 14 ≤ x4.toNatClampNeg)) (
j6 (I x4.toNatClampNeg)) : Option (Int32 × zMs))) fun j3 =>
if (M 1 0) = 0 then
j3 (0 : Int32)
else
gd (¬ (M 1 0) = 0) (
j3 (x1 - x1 / (M 1 0) * (M 1 0)))
def fL_alike (M : zMs) (I : Nat → Int32) (i_4 : Int32) : Option Int32 :=
st (fun (y1 : Int32) => (st y1 fun x3 =>
st (0 : Int32) fun x4 =>
lp (fun (q5 : (Int32 × Int32)) => (st (fun (u_ : Unit) => (st (0 : Int32) fun x14 =>
lp (fun (q15 : (Int32 × Int32)) => (st (fun (u_ : Unit) => (st (0 : Int32) fun x24 =>
lp (fun (q25 : (Int32 × Int32)) => (if (2 : Int32) ≤ q25.2 then
gd (q25.1 = 0 ∨ q25.1 = 1) (some (.inr (.inr (.inr (q25.1)))))
else
if q25.1 = 0 then
gd (q25.1 = 0 ∨ q25.1 = 1) (some (.inr (.inr (.inr (q25.1)))))
else
st (fun (y33 : Int32) => (st y33 fun x35 =>
st (q25.2 + (1 : Int32)) fun x36 =>
some (.inl (x35, x36)) : Option ((Int32 × Int32) ⊕ ((Int32 × Int32) ⊕ ((Int32 × Int32) ⊕ Int32))))) fun j34 =>
st (fun (u_ : Unit) => (j34 (0 : Int32) : Option ((Int32 × Int32) ⊕ ((Int32 × Int32) ⊕ ((Int32 × Int32) ⊕ Int32))))) fun j37 =>
if (A_vanAt M q25.2) = (A_vanAt M q25.2) then
if (A_parts M q25.2 (0 : Int32)) = (A_parts M q25.2 (0 : Int32)) then
if (A_parts M q25.2 (1 : Int32)) = (A_parts M q25.2 (1 : Int32)) then
if (A_way M q25.2) = (A_way M q25.2) then
if (A_planned M q25.2 (i_4 - i_4 / (3 : Int32) * (3 : Int32))) = (A_planned M q25.2 (i_4 - i_4 / (3 : Int32) * (3 : Int32))) then
j34 (1 : Int32)
else
j37 ()
else
j37 ()
else
j37 ()
else
j37 ()
else
j37 () : Option ((Int32 × Int32) ⊕ ((Int32 × Int32) ⊕ ((Int32 × Int32) ⊕ Int32))))) 3 (q15.1, x24) : Option ((Int32 × Int32) ⊕ ((Int32 × Int32) ⊕ Int32)))) fun j23 =>
if (M 24 0) ≤ q15.2 then
j23 ()
else
if q15.1 = 0 then
j23 ()
else
st (fun (y38 : Int32) => (st y38 fun x40 =>
st (q15.2 + (1 : Int32)) fun x41 =>
some (.inl (x40, x41)) : Option ((Int32 × Int32) ⊕ ((Int32 × Int32) ⊕ Int32)))) fun j39 =>
st (fun (u_ : Unit) => (j39 (0 : Int32) : Option ((Int32 × Int32) ⊕ ((Int32 × Int32) ⊕ Int32)))) fun j42 =>
if (A_score M q15.2) = (A_score M q15.2) then
if (A_balls M q15.2) = (A_balls M q15.2) then
if (A_stack M q15.2) = (A_stack M q15.2) then
st (fun (u_ : Unit) => (j39 (1 : Int32) : Option ((Int32 × Int32) ⊕ ((Int32 × Int32) ⊕ Int32)))) fun j43 =>
if (q15.2 - q15.2 / (4 : Int32) * (4 : Int32)) = (i_4 - i_4 / (4 : Int32) * (4 : Int32)) then
if (A_logged M q15.2) = (A_logged M q15.2) then
if (lg_cmp (A_entry M q15.2 (i_4 - i_4 / (50 : Int32) * (50 : Int32))) (A_entry M q15.2 (i_4 - i_4 / (50 : Int32) * (50 : Int32)))) = 0 then
if (A_valid M q15.2) = (A_valid M q15.2) then
j43 ()
else
j42 ()
else
j42 ()
else
j42 ()
else
j43 ()
else
j42 ()
else
j42 ()
else
j42 () : Option ((Int32 × Int32) ⊕ ((Int32 × Int32) ⊕ Int32)))) 41 (q5.1, x14) : Option ((Int32 × Int32) ⊕ Int32))) fun j13 =>
if (M 1 0) ≤ q5.2 then
j13 ()
else
if q5.1 = 0 then
j13 ()
else
st (fun (y44 : Int32) => (st y44 fun x46 =>
st (0 : Int32) fun x47 =>
lp (fun (q48 : (Int32 × Int32)) => (gd (¬ (q5.2 < 0 ∨ 14 ≤ q5.2.toNatClampNeg)) (
st (fun (u_ : Unit) => (st (q5.2 + (1 : Int32)) fun x57 =>
some (.inr (.inl (q48.1, x57))) : Option ((Int32 × Int32) ⊕ ((Int32 × Int32) ⊕ Int32)))) fun j56 =>
if (I q5.2.toNatClampNeg) ≤ q48.2 then
j56 ()
else
if q48.1 = 0 then
j56 ()
else
st (fun (y58 : Int32) => (st y58 fun x60 =>
st (q48.2 + (1 : Int32)) fun x61 =>
some (.inl (x60, x61)) : Option ((Int32 × Int32) ⊕ ((Int32 × Int32) ⊕ Int32)))) fun j59 =>
st (fun (u_ : Unit) => (j59 (0 : Int32) : Option ((Int32 × Int32) ⊕ ((Int32 × Int32) ⊕ Int32)))) fun j62 =>
if (A_wear M q5.2 q48.2) = (A_wear M q5.2 q48.2) then
if (A_sticks M q5.2 q48.2) = (A_sticks M q5.2 q48.2) then
j59 (1 : Int32)
else
j62 ()
else
j62 ()) : Option ((Int32 × Int32) ⊕ ((Int32 × Int32) ⊕ Int32)))) 9 (x46, x47) : Option ((Int32 × Int32) ⊕ Int32))) fun j45 =>
st (fun (u_ : Unit) => (j45 (0 : Int32) : Option ((Int32 × Int32) ⊕ Int32))) fun j63 =>
if (A_gameAt M q5.2) = (A_gameAt M q5.2) then
if (A_box M q5.2) = (A_box M q5.2) then
if (A_missing M q5.2) = (A_missing M q5.2) then
if (A_high M q5.2 (i_4 - i_4 / (3 : Int32) * (3 : Int32))) = (A_high M q5.2 (i_4 - i_4 / (3 : Int32) * (3 : Int32))) then
j45 (1 : Int32)
else
j63 ()
else
j63 ()
else
j63 ()
else
j63 () : Option ((Int32 × Int32) ⊕ Int32))) 7 (x3, x4) : Option Int32)) fun j2 =>
st (fun (u_ : Unit) => (j2 (0 : Int32) : Option Int32)) fun j64 =>
if (M 1 0) = (M 1 0) then
if (M 24 0) = (M 24 0) then
if (A_wanted M (0 : Int32)) = (A_wanted M (0 : Int32)) then
if (A_wanted M (1 : Int32)) = (A_wanted M (1 : Int32)) then
j2 (1 : Int32)
else
j64 ()
else
j64 ()
else
j64 ()
else
j64 ()
def fL_plans (M : zMs) (I : Nat → Int32) (i_3 : Int32) : Option Int32 :=
st (0 : Int32) fun x1 =>
st (0 : Int32) fun x2 =>
st (A_vanAt M i_3) fun x3 =>
st (0 : Int32) fun x4 =>
st (1 : Int32) fun x5 =>
lp (fun (q6 : (Int32 × Int32 × Int32 × Int32 × Int32)) => (st (fun (u_ : Unit) => (st (0 : Int32) fun x15 =>
lp (fun (q16 : (Int32 × Int32)) => (st (fun (u_ : Unit) => (st (fun (u_ : Unit) => (gd ((0 : Int32) = 0 ∨ (0 : Int32) = 1) (some (.inr (.inr ((0 : Int32))))) : Option ((Int32 × Int32) ⊕ ((Int32 × Int32 × Int32 × Int32 × Int32) ⊕ Int32)))) fun j25 =>
if q16.1 = 0 then
j25 ()
else
if (A_way M i_3) = q6.2.1 then
gd ((1 : Int32) = 0 ∨ (1 : Int32) = 1) (some (.inr (.inr ((1 : Int32)))))
else
j25 () : Option ((Int32 × Int32) ⊕ ((Int32 × Int32 × Int32 × Int32 × Int32) ⊕ Int32)))) fun j24 =>
if (M 1 0) ≤ q16.2 then
j24 ()
else
if q16.1 = 0 then
j24 ()
else
st (fun (y26 : Int32) => (st y26 fun x28 =>
st (0 : Int32) fun x29 =>
lp (fun (q30 : (Int32 × Int32)) => (gd (¬ (q16.2 < 0 ∨ 14 ≤ q16.2.toNatClampNeg)) (
if (I q16.2.toNatClampNeg) ≤ q30.2 then
st (fun (y38 : Int32) => (st (fun (y40 : Int32) => (st (fun (y42 : Int32) => (st y42 fun x44 =>
st (q16.2 + (1 : Int32)) fun x45 =>
some (.inr (.inl (x44, x45))) : Option ((Int32 × Int32) ⊕ ((Int32 × Int32) ⊕ ((Int32 × Int32 × Int32 × Int32 × Int32) ⊕ Int32))))) fun j43 =>
if y38 = y40 then
j43 (1 : Int32)
else
j43 (0 : Int32) : Option ((Int32 × Int32) ⊕ ((Int32 × Int32) ⊕ ((Int32 × Int32 × Int32 × Int32 × Int32) ⊕ Int32))))) fun j41 =>
if ((q6.1 >>> (q16.2 &&& 31)) &&& (1 : Int32)) = (1 : Int32) then
j41 (1 : Int32)
else
j41 (0 : Int32) : Option ((Int32 × Int32) ⊕ ((Int32 × Int32) ⊕ ((Int32 × Int32 × Int32 × Int32 × Int32) ⊕ Int32))))) fun j39 =>
st (fun (u_ : Unit) => (j39 (0 : Int32) : Option ((Int32 × Int32) ⊕ ((Int32 × Int32) ⊕ ((Int32 × Int32 × Int32 × Int32 × Int32) ⊕ Int32))))) fun j46 =>
if q30.1 = 0 then
j46 ()
else
if (A_gameAt M q16.2) = (-1 : Int32) then
j39 (1 : Int32)
else
j46 ()
else
st (fun (y47 : Int32) => (st y47 fun x49 =>
st (q30.2 + (1 : Int32)) fun x50 =>
some (.inl (x49, x50)) : Option ((Int32 × Int32) ⊕ ((Int32 × Int32) ⊕ ((Int32 × Int32 × Int32 × Int32 × Int32) ⊕ Int32))))) fun j48 =>
st (fun (u_ : Unit) => (j48 (1 : Int32) : Option ((Int32 × Int32) ⊕ ((Int32 × Int32) ⊕ ((Int32 × Int32 × Int32 × Int32 × Int32) ⊕ Int32))))) fun j51 =>
if q30.1 = 0 then
if (A_sticks M q16.2 q30.2) = (1 : Int32) then
j51 ()
else
if (A_wear M q16.2 q30.2) ≤ (39 : Int32) then
j48 (0 : Int32)
else
j51 ()
else
j51 ()) : Option ((Int32 × Int32) ⊕ ((Int32 × Int32) ⊕ ((Int32 × Int32 × Int32 × Int32 × Int32) ⊕ Int32))))) 9 (x28, x29) : Option ((Int32 × Int32) ⊕ ((Int32 × Int32 × Int32 × Int32 × Int32) ⊕ Int32)))) fun j27 =>
if (A_box M q16.2) ≤ (19 : Int32) then
j27 (0 : Int32)
else
j27 (1 : Int32) : Option ((Int32 × Int32) ⊕ ((Int32 × Int32 × Int32 × Int32 × Int32) ⊕ Int32)))) 7 (q6.2.2.2.2, x15) : Option ((Int32 × Int32 × Int32 × Int32 × Int32) ⊕ Int32))) fun j14 =>
if q6.2.2.2.2 = 0 then
j14 ()
else
if (A_planned M i_3 q6.2.2.2.1) < 0 then
j14 ()
else
st (A_planned M i_3 q6.2.2.2.1) fun x52 =>
st (fun (y53 : Int32) => (st y53 fun x55 =>
st (q6.1 ||| ((1 : Int32) <<< (x52 &&& 31))) fun x56 =>
gd (¬ (((8 : Int32) + x52) < 0 ∨ 14 ≤ ((8 : Int32) + x52).toNatClampNeg)) (
cl (fL_far q6.2.2.1 (I ((8 : Int32) + x52).toNatClampNeg)) fun r57 =>
st (q6.2.1 + r57) fun x58 =>
gd (¬ (((8 : Int32) + x52) < 0 ∨ 14 ≤ ((8 : Int32) + x52).toNatClampNeg)) (
st (I ((8 : Int32) + x52).toNatClampNeg) fun x59 =>
st (q6.2.2.2.1 + (1 : Int32)) fun x60 =>
some (.inl (x56, x58, x59, x60, x55)))) : Option ((Int32 × Int32 × Int32 × Int32 × Int32) ⊕ Int32))) fun j54 =>
st (fun (u_ : Unit) => (j54 (0 : Int32) : Option ((Int32 × Int32 × Int32 × Int32 × Int32) ⊕ Int32))) fun j61 =>
if ((q6.1 >>> (x52 &&& 31)) &&& (1 : Int32)) = 0 then
if (A_gameAt M x52) = (-1 : Int32) then
j54 (1 : Int32)
else
j61 ()
else
j61 () : Option ((Int32 × Int32 × Int32 × Int32 × Int32) ⊕ Int32))) 8 (x1, x2, x3, x4, x5)
def fL_holds (M : zMs) (I : Nat → Int32) (i_3 : Int32) : Option Int32 :=
cl (fL_plans M I (i_3 - i_3 / (2 : Int32) * (2 : Int32))) fun r1 =>
st r1 fun x2 =>
st (0 : Int32) fun x3 =>
lp (fun (q4 : (Int32 × Int32)) => (st (fun (u_ : Unit) => (st (0 : Int32) fun x13 =>
lp (fun (q14 : (Int32 × Int32)) => (if (M 1 0) ≤ q14.2 then
gd (q14.1 = 0 ∨ q14.1 = 1) (some (.inr (.inr (q14.1))))
else
if q14.1 = 0 then
gd (q14.1 = 0 ∨ q14.1 = 1) (some (.inr (.inr (q14.1))))
else
st (2147483647 : Int32) fun x22 =>
st (0 : Int32) fun x23 =>
lp (fun (q24 : (Int32 × Int32 × Int32)) => (st (fun (u_ : Unit) => (st (q14.2 + (1 : Int32)) fun x33 =>
some (.inr (.inl (q24.1, x33))) : Option ((Int32 × Int32 × Int32) ⊕ ((Int32 × Int32) ⊕ ((Int32 × Int32) ⊕ Int32))))) fun j32 =>
if q24.1 = 0 then
j32 ()
else
if (A_high M q14.2 q24.2.2) < 0 then
j32 ()
else
st (A_high M q14.2 q24.2.2) fun x34 =>
st (fun (y35 : Int32) => (st y35 fun x37 =>
st (A_valid M x34) fun x38 =>
st (q24.2.2 + (1 : Int32)) fun x39 =>
some (.inl (x37, x38, x39)) : Option ((Int32 × Int32 × Int32) ⊕ ((Int32 × Int32) ⊕ ((Int32 × Int32) ⊕ Int32))))) fun j36 =>
st (fun (u_ : Unit) => (j36 (0 : Int32) : Option ((Int32 × Int32 × Int32) ⊕ ((Int32 × Int32) ⊕ ((Int32 × Int32) ⊕ Int32))))) fun j40 =>
if (A_balls M x34) = 0 then
if q24.2.1 < (A_valid M x34) then
j40 ()
else
j36 (1 : Int32)
else
j40 () : Option ((Int32 × Int32 × Int32) ⊕ ((Int32 × Int32) ⊕ ((Int32 × Int32) ⊕ Int32))))) 42 (q14.1, x22, x23) : Option ((Int32 × Int32) ⊕ ((Int32 × Int32) ⊕ Int32)))) 7 (q4.1, x13) : Option ((Int32 × Int32) ⊕ Int32))) fun j12 =>
if (M 24 0) ≤ q4.2 then
j12 ()
else
if q4.1 = 0 then
j12 ()
else
st (A_logged M q4.2) fun x41 =>
st (A_balls M q4.2) fun x42 =>
st (A_twin M q4.2) fun x43 =>
st (fun (y44 : Int32) => (st y44 fun x46 =>
st (-1 : Int64) fun x47 =>
st (i_3 - i_3 / (7 : Int32) * (7 : Int32)) fun x48 =>
lp (fun (q49 : (Int32 × Int64 × Int32)) => (st (fun (u_ : Unit) => (st (q4.2 + (1 : Int32)) fun x58 =>
some (.inr (.inl (q49.1, x58))) : Option ((Int32 × Int64 × Int32) ⊕ ((Int32 × Int32) ⊕ Int32)))) fun j57 =>
if x41 ≤ q49.2.2 then
j57 ()
else
if q49.1 = 0 then
j57 ()
else
st (A_entry M q4.2 q49.2.2) fun x59 =>
st ((((x59 / (16 : Int64)) - (x59 / (16 : Int64)) / (16 : Int64) * (16 : Int64)) * (4096 : Int64)) + ((x59 / (256 : Int64)) - (x59 / (256 : Int64)) / (4096 : Int64) * (4096 : Int64))) fun x60 =>
st (fun (y61 : Int32) => (st y61 fun x63 =>
st x60 fun x64 =>
st (q49.2.2 + (7 : Int32)) fun x65 =>
some (.inl (x63, x64, x65)) : Option ((Int32 × Int64 × Int32) ⊕ ((Int32 × Int32) ⊕ Int32)))) fun j62 =>
st (fun (u_ : Unit) => (j62 (0 : Int32) : Option ((Int32 × Int64 × Int32) ⊕ ((Int32 × Int32) ⊕ Int32)))) fun j66 =>
if (lg_cmp x60 q49.2.1) < 0 then
j66 ()
else
if 0 ≤ (lg_cmp (x59 - x59 / (16 : Int64) * (16 : Int64)) (8 : Int64)) then
j66 ()
else
if 0 ≤ (lg_cmp ((x59 / (16 : Int64)) - (x59 / (16 : Int64)) / (16 : Int64) * (16 : Int64)) ((3 : Int64) - x42.toInt64)) then
j66 ()
else
if (lg_cmp ((x59 / (256 : Int64)) - (x59 / (256 : Int64)) / (4096 : Int64) * (4096 : Int64)) (0 : Int64)) ≤ 0 then
j66 ()
else
if 0 < (lg_cmp ((x59 / (256 : Int64)) - (x59 / (256 : Int64)) / (4096 : Int64) * (4096 : Int64)) (300 : Int64)) then
j66 ()
else
gd (¬ ((6 : Int32) < 0 ∨ 14 ≤ (6 : Int32).toNatClampNeg)) (
if 0 < (lg_cmp (x59 / (1048576 : Int64)) ((I (6 : Int32).toNatClampNeg).toInt64)) then
j66 ()
else
j62 (1 : Int32)) : Option ((Int32 × Int64 × Int32) ⊕ ((Int32 × Int32) ⊕ Int32)))) 362 (x46, x47, x48) : Option ((Int32 × Int32) ⊕ Int32))) fun j45 =>
st (fun (u_ : Unit) => (j45 (0 : Int32) : Option ((Int32 × Int32) ⊕ Int32))) fun j67 =>
if (A_byLog M q4.2) = (A_score M q4.2) then
if x42 < 0 then
j67 ()
else
if (3 : Int32) < x42 then
j67 ()
else
if x41 < 0 then
j67 ()
else
if (2520 : Int32) < x41 then
j67 ()
else
if (A_score M q4.2) < 0 then
j67 ()
else
st (fun (u_ : Unit) => (if (500 : Int32) ≤ (A_stack M q4.2) then
j67 ()
else
st (fun (u_ : Unit) => (if (lg_cmp (A_entry M q4.2 x41) (-2000000001 : Int64)) = 0 then
j45 (1 : Int32)
else
j67 () : Option ((Int32 × Int32) ⊕ Int32))) fun j69 =>
if x43 = (-1 : Int32) then
j69 ()
else
if x42 = 0 then
if x43 = q4.2 then
j67 ()
else
if x41 ≤ 0 then
j67 ()
else
if (A_logged M x43) = x41 then
if (lg_cmp (A_entry M x43 (x41 - (1 : Int32))) (A_entry M q4.2 (x41 - (1 : Int32)))) = 0 then
if (A_balls M x43) = 0 then
j69 ()
else
j67 ()
else
j67 ()
else
j67 ()
else
j67 () : Option ((Int32 × Int32) ⊕ Int32))) fun j68 =>
if x42 < (3 : Int32) then
j68 ()
else
if x41 = 0 then
if (A_score M q4.2) = 0 then
j68 ()
else
j67 ()
else
j67 ()
else
j67 () : Option ((Int32 × Int32) ⊕ Int32))) 41 (x2, x3)
def fL_ends (M : zMs) (I : Nat → Int32) (i_3 : Int32) : Option (Int32 × zMs) :=
st (1 : Int32) fun x1 =>
st (0 : Int32) fun x2 =>
st (0 : Int32) fun x3 =>
lp (fun (q4 : (Int32 × Int32 × zMs)) => (st (fun (u_ : Unit) => (st (0 : Int32) fun x13 =>
lp (fun (q14 : (Int32 × Int32 × zMs)) => (st (fun (u_ : Unit) => (st (0 : Int32) fun x23 =>
lp (fun (q24 : (Int32 × Int32)) => (st (fun (u_ : Unit) => (st (0 : Int32) fun x33 =>
lp (fun (q34 : (Int32 × Int32)) => (st (fun (u_ : Unit) => (st (fun (M43 : zMs) => (gd ((0 : Int32) = 0 ∨ (0 : Int32) = 1) (some (.inr (.inr (.inr (.inr (((0 : Int32), M43))))))) : Option ((Int32 × Int32) ⊕ ((Int32 × Int32) ⊕ ((Int32 × Int32 × zMs) ⊕ ((Int32 × Int32 × zMs) ⊕ (Int32 × zMs))))))) fun j44 =>
if q34.1 = 0 then
j44 q14.2.2
else
if (A_wanted q14.2.2 (0 : Int32)) = 0 then
if (A_wanted q14.2.2 (1 : Int32)) = 0 then
st (N_go q14.2.2 (0 : Int32)) fun M45 =>
if (A_go q14.2.2 (0 : Int32)) = (-2000000003 : Int32) then
st (N_go M45 (1 : Int32)) fun M46 =>
if (A_go M45 (1 : Int32)) = (-2000000003 : Int32) then
gd ((1 : Int32) = 0 ∨ (1 : Int32) = 1) (some (.inr (.inr (.inr (.inr (((1 : Int32), M46)))))))
else
j44 M46
else
j44 M45
else
j44 q14.2.2
else
j44 q14.2.2 : Option ((Int32 × Int32) ⊕ ((Int32 × Int32) ⊕ ((Int32 × Int32 × zMs) ⊕ ((Int32 × Int32 × zMs) ⊕ (Int32 × zMs))))))) fun j42 =>
if (q14.2.2 24 0) ≤ q34.2 then
j42 ()
else
if q34.1 = 0 then
j42 ()
else
st (1 : Int32) fun x47 =>
st ((A_logged q14.2.2 q34.2) - (1 : Int32)) fun x48 =>
lp (fun (q49 : (Int32 × Int32)) => (st (fun (u_ : Unit) => (st (fun (y58 : Int32) => (st y58 fun x60 =>
st (q34.2 + (1 : Int32)) fun x61 =>
some (.inr (.inl (x60, x61))) : Option ((Int32 × Int32) ⊕ ((Int32 × Int32) ⊕ ((Int32 × Int32) ⊕ ((Int32 × Int32 × zMs) ⊕ ((Int32 × Int32 × zMs) ⊕ (Int32 × zMs)))))))) fun j59 =>
st (fun (u_ : Unit) => (j59 (1 : Int32) : Option ((Int32 × Int32) ⊕ ((Int32 × Int32) ⊕ ((Int32 × Int32) ⊕ ((Int32 × Int32 × zMs) ⊕ ((Int32 × Int32 × zMs) ⊕ (Int32 × zMs)))))))) fun j62 =>
if q49.1 = 0 then
j62 ()
else
if (A_valid q14.2.2 q34.2) = (A_score q14.2.2 q34.2) then
j62 ()
else
j59 (0 : Int32) : Option ((Int32 × Int32) ⊕ ((Int32 × Int32) ⊕ ((Int32 × Int32) ⊕ ((Int32 × Int32 × zMs) ⊕ ((Int32 × Int32 × zMs) ⊕ (Int32 × zMs)))))))) fun j57 =>
if q49.2 < 0 then
j57 ()
else
if q49.1 = 0 then
j57 ()
else
st (fun (y63 : Int32) => (st y63 fun x65 =>
st (q49.2 + (-1 : Int32)) fun x66 =>
some (.inl (x65, x66)) : Option ((Int32 × Int32) ⊕ ((Int32 × Int32) ⊕ ((Int32 × Int32) ⊕ ((Int32 × Int32 × zMs) ⊕ ((Int32 × Int32 × zMs) ⊕ (Int32 × zMs)))))))) fun j64 =>
if 0 ≤ (lg_cmp (A_entry q14.2.2 q34.2 q49.2) (1048576 : Int64)) then
j64 (0 : Int32)
else
j64 (1 : Int32) : Option ((Int32 × Int32) ⊕ ((Int32 × Int32) ⊕ ((Int32 × Int32) ⊕ ((Int32 × Int32 × zMs) ⊕ ((Int32 × Int32 × zMs) ⊕ (Int32 × zMs)))))))) 2522 (x47, x48) : Option ((Int32 × Int32) ⊕ ((Int32 × Int32) ⊕ ((Int32 × Int32 × zMs) ⊕ ((Int32 × Int32 × zMs) ⊕ (Int32 × zMs))))))) 41 (q24.1, x33) : Option ((Int32 × Int32) ⊕ ((Int32 × Int32 × zMs) ⊕ ((Int32 × Int32 × zMs) ⊕ (Int32 × zMs)))))) fun j32 =>
if (q14.2.2 1 0) ≤ q24.2 then
j32 ()
else
if q24.1 = 0 then
j32 ()
else
st (fun (y67 : Int32) => (st y67 fun x69 =>
st (0 : Int32) fun x70 =>
lp (fun (q71 : (Int32 × Int32)) => (gd (¬ (q24.2 < 0 ∨ 14 ≤ q24.2.toNatClampNeg)) (
st (fun (u_ : Unit) => (st (q24.2 + (1 : Int32)) fun x80 =>
some (.inr (.inl (q71.1, x80))) : Option ((Int32 × Int32) ⊕ ((Int32 × Int32) ⊕ ((Int32 × Int32 × zMs) ⊕ ((Int32 × Int32 × zMs) ⊕ (Int32 × zMs))))))) fun j79 =>
if (I q24.2.toNatClampNeg) ≤ q71.2 then
j79 ()
else
if q71.1 = 0 then
j79 ()
else
st (fun (y81 : Int32) => (st y81 fun x83 =>
st (q71.2 + (1 : Int32)) fun x84 =>
some (.inl (x83, x84)) : Option ((Int32 × Int32) ⊕ ((Int32 × Int32) ⊕ ((Int32 × Int32 × zMs) ⊕ ((Int32 × Int32 × zMs) ⊕ (Int32 × zMs))))))) fun j82 =>
st (fun (u_ : Unit) => (j82 (0 : Int32) : Option ((Int32 × Int32) ⊕ ((Int32 × Int32) ⊕ ((Int32 × Int32 × zMs) ⊕ ((Int32 × Int32 × zMs) ⊕ (Int32 × zMs))))))) fun j85 =>
if (A_sticks q14.2.2 q24.2 q71.2) = 0 then
if (40 : Int32) ≤ (A_wear q14.2.2 q24.2 q71.2) then
j85 ()
else
j82 (1 : Int32)
else
j85 ()) : Option ((Int32 × Int32) ⊕ ((Int32 × Int32) ⊕ ((Int32 × Int32 × zMs) ⊕ ((Int32 × Int32 × zMs) ⊕ (Int32 × zMs))))))) 9 (x69, x70) : Option ((Int32 × Int32) ⊕ ((Int32 × Int32 × zMs) ⊕ ((Int32 × Int32 × zMs) ⊕ (Int32 × zMs)))))) fun j68 =>
if (20 : Int32) ≤ (A_box q14.2.2 q24.2) then
j68 (0 : Int32)
else
j68 (1 : Int32) : Option ((Int32 × Int32) ⊕ ((Int32 × Int32 × zMs) ⊕ ((Int32 × Int32 × zMs) ⊕ (Int32 × zMs)))))) 7 (q14.1, x23) : Option ((Int32 × Int32 × zMs) ⊕ ((Int32 × Int32 × zMs) ⊕ (Int32 × zMs))))) fun j22 =>
if (12 : Int32) ≤ q14.2.1 then
j22 ()
else
if q14.1 = 0 then
j22 ()
else
if ((A_way q14.2.2 (0 : Int32)) + (A_planned q14.2.2 (0 : Int32) (0 : Int32))) < 0 then
j22 ()
else
st (0 : Int32) fun x86 =>
st (0 : Int32) fun x87 =>
lp (fun (q88 : (Int32 × Int32)) => (if (A_planned q14.2.2 (0 : Int32) q88.2) < 0 then
st (0 : Int32) fun x96 =>
lp (fun (q97 : (Int32 × Int32 × zMs)) => (st (fun (u_ : Unit) => (st (fun (y106 : Int32) (M107 : zMs) => (st y106 fun x109 =>
st (q14.2.1 + (1 : Int32)) fun x110 =>
some (.inr (.inr (.inl (x109, x110, M107)))) : Option ((Int32 × Int32 × zMs) ⊕ ((Int32 × Int32) ⊕ ((Int32 × Int32 × zMs) ⊕ ((Int32 × Int32 × zMs) ⊕ (Int32 × zMs))))))) fun j108 =>
st (fun (M111 : zMs) => (j108 (0 : Int32) M111 : Option ((Int32 × Int32 × zMs) ⊕ ((Int32 × Int32) ⊕ ((Int32 × Int32 × zMs) ⊕ ((Int32 × Int32 × zMs) ⊕ (Int32 × zMs))))))) fun j112 =>
if q97.1 = 0 then
j112 q97.2.2
else
st (N_go q97.2.2 (0 : Int32)) fun M113 =>
if (A_go q97.2.2 (0 : Int32)) = q88.1 then
j108 (1 : Int32) M113
else
j112 M113 : Option ((Int32 × Int32 × zMs) ⊕ ((Int32 × Int32) ⊕ ((Int32 × Int32 × zMs) ⊕ ((Int32 × Int32 × zMs) ⊕ (Int32 × zMs))))))) fun j105 =>
if (2 : Int32) ≤ q97.2.1 then
j105 ()
else
if q97.1 = 0 then
j105 ()
else
st ((20 : Int32) - (A_parts q97.2.2 (0 : Int32) q97.2.1)) fun x114 =>
st (fun (y115 : Int32) (M116 : zMs) => (st y115 fun x118 =>
st (q97.2.1 + (1 : Int32)) fun x119 =>
some (.inl (x118, x119, M116)) : Option ((Int32 × Int32 × zMs) ⊕ ((Int32 × Int32) ⊕ ((Int32 × Int32 × zMs) ⊕ ((Int32 × Int32 × zMs) ⊕ (Int32 × zMs))))))) fun j117 =>
st (fun (M120 : zMs) => (j117 (1 : Int32) M120 : Option ((Int32 × Int32 × zMs) ⊕ ((Int32 × Int32) ⊕ ((Int32 × Int32 × zMs) ⊕ ((Int32 × Int32 × zMs) ⊕ (Int32 × zMs))))))) fun j121 =>
if x114 = 0 then
j121 q97.2.2
else
st (N_load q97.2.2 (0 : Int32) q97.2.1 x114) fun M122 =>
if (A_load q97.2.2 (0 : Int32) q97.2.1 x114) = (20 : Int32) then
j121 M122
else
j117 (0 : Int32) M122 : Option ((Int32 × Int32 × zMs) ⊕ ((Int32 × Int32) ⊕ ((Int32 × Int32 × zMs) ⊕ ((Int32 × Int32 × zMs) ⊕ (Int32 × zMs))))))) 3 (q14.1, x96, q14.2.2)
else
st (q88.1 + (A_box q14.2.2 (A_planned q14.2.2 (0 : Int32) q88.2))) fun x123 =>
st (q88.2 + (1 : Int32)) fun x124 =>
some (.inl (x123, x124)) : Option ((Int32 × Int32) ⊕ ((Int32 × Int32 × zMs) ⊕ ((Int32 × Int32 × zMs) ⊕ (Int32 × zMs)))))) 8 (x86, x87) : Option ((Int32 × Int32 × zMs) ⊕ ((Int32 × Int32 × zMs) ⊕ (Int32 × zMs))))) 13 (q4.1, x13, q4.2.2) : Option ((Int32 × Int32 × zMs) ⊕ (Int32 × zMs)))) fun j12 =>
if (q4.2.2 1 0) ≤ q4.2.1 then
j12 ()
else
if q4.1 = 0 then
j12 ()
else
lp (fun (q125 : (Int32 × zMs)) => (st (fun (u_ : Unit) => (st (q4.2.1 + (1 : Int32)) fun x134 =>
some (.inr (.inl (q125.1, x134, q125.2))) : Option ((Int32 × zMs) ⊕ ((Int32 × Int32 × zMs) ⊕ (Int32 × zMs))))) fun j133 =>
if (A_gameAt q125.2 q4.2.1) < 0 then
j133 ()
else
if q125.1 = 0 then
j133 ()
else
st (A_gameAt q125.2 q4.2.1) fun x135 =>
st (A_balls q125.2 x135) fun x136 =>
st (A_score q125.2 x135) fun x137 =>
st (N_shoot q125.2 q4.2.1 (i_3 - i_3 / (160 : Int32) * (160 : Int32)) (((i_3 / (160 : Int32)) - (i_3 / (160 : Int32)) / (61 : Int32) * (61 : Int32)) - (30 : Int32)) (0 : Int32)) fun M138 =>
st (A_shoot q125.2 q4.2.1 (i_3 - i_3 / (160 : Int32) * (160 : Int32)) (((i_3 / (160 : Int32)) - (i_3 / (160 : Int32)) / (61 : Int32) * (61 : Int32)) - (30 : Int32)) (0 : Int32)) fun x139 =>
st (fun (y140 : Int32) (M141 : zMs) => (st y140 fun x143 =>
some (.inl (x143, M141)) : Option ((Int32 × zMs) ⊕ ((Int32 × Int32 × zMs) ⊕ (Int32 × zMs))))) fun j142 =>
st (fun (M144 : zMs) => (j142 (0 : Int32) M144 : Option ((Int32 × zMs) ⊕ ((Int32 × Int32 × zMs) ⊕ (Int32 × zMs))))) fun j145 =>
if x139 < 0 then
j145 M138
else
if (A_score M138 x135) = (x137 + x139) then
if (A_balls M138 x135) = (x136 - (1 : Int32)) then
if (A_byLog M138 x135) = (x137 + x139) then
j142 (1 : Int32) M138
else
j145 M138
else
j145 M138
else
j145 M138 : Option ((Int32 × zMs) ⊕ ((Int32 × Int32 × zMs) ⊕ (Int32 × zMs))))) 5 (q4.1, q4.2.2) : Option ((Int32 × Int32 × zMs) ⊕ (Int32 × zMs)))) 7 (x1, x3, M)
