def f_X11_isWithin (p1 : Int32) (p2 : Int32) (p3 : Int32) : Option (Int32) :=
    if p1 < p2 then
    (some (0))
    else
    (if p3 < p1 then
      (some (0))
      else
      (some (1)))
def f_X11_isDay (p1 : Int32) : Option (Int32) :=
    cb1 (f_X11_isWithin p1 0 399) fun r5_1 =>
    bo r5_1 <|
    some (r5_1)
def f_X11_isMinute (p1 : Int32) : Option (Int32) :=
    cb1 (f_X11_isWithin p1 0 1439) fun r5_1 =>
    bo r5_1 <|
    some (r5_1)
def f_X11_isShape (p1 : Int32) : Option (Int32) :=
    cb1 (f_X11_isWithin p1 0 3) fun r3_1 =>
    bo r3_1 <|
    some (r3_1)
def f_X11_isReader (p1 : Int32) : Option (Int32) :=
    cb1 (f_X11_isWithin p1 0 3) fun r3_1 =>
    bo r3_1 <|
    some (r3_1)
def f_X11_isStory (p1 : Int32) : Option (Int32) :=
    cb1 (f_X11_isWithin p1 0 5) fun r3_1 =>
    bo r3_1 <|
    some (r3_1)
def f_X11_isBeat (p1 : Int32) : Option (Int32) :=
    cb1 (f_X11_isWithin p1 1 1000000) fun r5_1 =>
    bo r5_1 <|
    some (r5_1)
def f_X11_isNightError (p1 : Int32) : Option (Int32) :=
    cb1 (f_X11_isWithin p1 0 100000) fun r4_1 =>
    bo r4_1 <|
    some (r4_1)
def f_X11_isLook (p1 : Int32) (p2 : Int32) (p3 : Int32) : Option (Int32) :=
    cb1 (f_X11_isWithin p1 0 20) fun r4_1 =>
    if r4_1 = 0 then
    (some (0))
    else
    (cb1 (f_X11_isWithin p2 0 20) fun r14_9 =>
      if r14_9 = 0 then
      (some (0))
      else
      (cb1 (f_X11_isWithin p3 0 (jmin p1 p2)) fun r27_17 =>
        if r27_17 = 0 then
        (some (0))
        else
        (some (1))))
def f_X11_starMinute (p1 : Int32) (p2 : Int32) : Option (Int32) :=
    some ((jrem (p2 + (4 * p1)) 1440))
def f_X9_put_L3 (p1 : Int32)  : Nat → Int32 → Int32 → (Nat → Int32) → Option (Int32 × (Nat → Int32))
  | 0, _, _, _ => none
  | n3 + 1, x2_2, length__3, bytes__4 =>
    if x2_2 < 0 then
    (some (length__3, bytes__4))
    else
    (if 200 ≤ length__3 then
      (some (length__3, bytes__4))
      else
      (nmI ((jushr p1 x2_2) &&& 255) fun v34_11 =>
        wrI bytes__4 200 length__3 v34_11 fun g34_14 =>
        nmI (length__3 + 1) fun v42_19 =>
        nmI (x2_2 + (-8)) fun v45_23 =>
        (f_X9_put_L3 p1  n3) v45_23 v42_19 g34_14))
def f_X9_put (s_length : Int32) (s_bytes : Nat → Int32) (p1 : Int32) : Option (Int32 × (Nat → Int32)) :=
    (f_X9_put_L3 p1  FU) 24 s_length s_bytes
def f_X9_clear (s_length : Int32) : Option (Int32) :=
    some (0)
def f_X0_add_J33 (s_many : Int32) (s_times : Nat → Int32) (p1 : Int32)   : Option (Int32 × Int32 × (Nat → Int32)) :=
    wrI s_times 40 s_many p1 fun g42_4 =>
    nmI (s_many + 1) fun v50_9 =>
    some ((v50_9 - 1), v50_9, g42_4)
def f_X0_add (s_many : Int32) (s_times : Nat → Int32) (p1 : Int32) : Option (Int32 × Int32 × (Nat → Int32)) :=
    if 40 ≤ s_many then
    (some ((-1), s_many, s_times))
    else
    (if s_many ≤ 0 then
      ((f_X0_add_J33 s_many s_times p1 ))
      else
      (rdI s_times 40 (s_many - 1) fun v27_16 =>
        if v27_16 < p1 then
        ((f_X0_add_J33 s_many s_times p1 ))
        else
        (some ((-1), s_many, s_times))))
def f_X3_add_J33 (s_many : Int32) (s_days : Nat → Int32) (s_minutes : Nat → Int32) (s_shapes : Nat → Int32) (p1 : Int32) (p2 : Int32) (p3 : Int32)   : Option (Int32 × Int32 × (Nat → Int32) × (Nat → Int32) × (Nat → Int32)) :=
    wrI s_days 40 s_many p1 fun g42_4 =>
    wrI s_minutes 40 s_many p2 fun g52_9 =>
    wrI s_shapes 40 s_many p3 fun g62_14 =>
    nmI (s_many + 1) fun v70_19 =>
    some ((v70_19 - 1), v70_19, g42_4, g52_9, g62_14)
def f_X3_add (s_many : Int32) (s_days : Nat → Int32) (s_minutes : Nat → Int32) (s_shapes : Nat → Int32) (p1 : Int32) (p2 : Int32) (p3 : Int32) : Option (Int32 × Int32 × (Nat → Int32) × (Nat → Int32) × (Nat → Int32)) :=
    if 40 ≤ s_many then
    (some ((-1), s_many, s_days, s_minutes, s_shapes))
    else
    (if s_many ≤ 0 then
      ((f_X3_add_J33 s_many s_days s_minutes s_shapes p1 p2 p3 ))
      else
      (rdI s_days 40 (s_many - 1) fun v27_26 =>
        if v27_26 ≤ p1 then
        ((f_X3_add_J33 s_many s_days s_minutes s_shapes p1 p2 p3 ))
        else
        (some ((-1), s_many, s_days, s_minutes, s_shapes))))
def f_X3_gather_L6 (s_many : Int32) (s_days : Nat → Int32) (s_minutes : Nat → Int32) (s_shapes : Nat → Int32) (p1 : Int32) (p2 : Int32) (p3 : Int32)  : Nat → Int32 → Int32 → (Nat → Int32) → Option (Int32 × (Nat → Int32))
  | 0, _, _, _ => none
  | n6 + 1, x4_3, x5_4, gathered__5 =>
    if s_many ≤ x5_4 then
    (some (x4_3, gathered__5))
    else
    (rdI s_shapes 40 x5_4 fun v21_9 =>
      if v21_9 = p1 then
      (rdI s_days 40 x5_4 fun v32_20 =>
        if p2 < v32_20 then
        (nmI (x5_4 + 1) fun v78_27 =>
          (f_X3_gather_L6 s_many s_days s_minutes s_shapes p1 p2 p3  n6) x4_3 v78_27 gathered__5)
        else
        (if p3 = 0 then
          (rdI s_minutes 40 x5_4 fun v73_34 =>
            wrI gathered__5 40 x4_3 v73_34 fun g74_38 =>
            nmI (x4_3 + 1) fun v75_43 =>
            nmI (x5_4 + 1) fun v78_47 =>
            (f_X3_gather_L6 s_many s_days s_minutes s_shapes p1 p2 p3  n6) v75_43 v78_47 g74_38)
          else
          (rdI s_days 40 x5_4 fun v53_51 =>
            rdI s_minutes 40 x5_4 fun v60_55 =>
            cb1 (f_X11_starMinute v53_51 v60_55) fun r61_59 =>
            wrI gathered__5 40 x4_3 r61_59 fun g74_64 =>
            nmI (x4_3 + 1) fun v75_69 =>
            nmI (x5_4 + 1) fun v78_73 =>
            (f_X3_gather_L6 s_many s_days s_minutes s_shapes p1 p2 p3  n6) v75_69 v78_73 g74_64)))
      else
      (nmI (x5_4 + 1) fun v78_16 =>
        (f_X3_gather_L6 s_many s_days s_minutes s_shapes p1 p2 p3  n6) x4_3 v78_16 gathered__5))
def f_X3_gather (s_many : Int32) (s_days : Nat → Int32) (s_gathered : Nat → Int32) (s_minutes : Nat → Int32) (s_shapes : Nat → Int32) (p1 : Int32) (p2 : Int32) (p3 : Int32) : Option (Int32 × (Nat → Int32)) :=
    (f_X3_gather_L6 s_many s_days s_minutes s_shapes p1 p2 p3  FU) 0 0 s_gathered
def f_X3_oneBy (s_many : Int32) (s_days : Nat → Int32) (s_gathered : Nat → Int32) (s_minutes : Nat → Int32) (s_shapes : Nat → Int32) (p1 : Int32) (p2 : Int32) (p3 : Int32) : Option (Int32 × (Nat → Int32)) :=
    cb2 (f_X3_gather s_many s_days s_gathered s_minutes s_shapes p1 p3 1) fun r4_1 o_gathered4_2 =>
    if 2 ≤ r4_1 then
    (none)
    else
    (some ((-1), o_gathered4_2))
def f_X3_knownDay_L2 (s_many : Int32) (s_days : Nat → Int32) (s_minutes : Nat → Int32) (s_shapes : Nat → Int32) (p1 : Int32) (p2 : Int32)  : Nat → Int32 → (Nat → Int32) → Option (Int32 × (Nat → Int32))
  | 0, _, _ => none
  | n2 + 1, x3_2, gathered__3 =>
    if s_many ≤ x3_2 then
    (some ((-1), gathered__3))
    else
    (rdI s_shapes 40 x3_2 fun v15_7 =>
      if v15_7 = p1 then
      (rdI s_days 40 x3_2 fun v28_18 =>
        cb2 (f_X3_oneBy s_many s_days gathered__3 s_minutes s_shapes p1 p2 v28_18) fun r29_22 o_gathered29_23 =>
        if r29_22 = 1 then
        (rdI s_days 40 x3_2 fun v51_32 =>
          some (v51_32, o_gathered29_23))
        else
        (if r29_22 = 2 then
          (rdI s_days 40 x3_2 fun v51_43 =>
            some (v51_43, o_gathered29_23))
          else
          (nmI (x3_2 + 1) fun v53_39 =>
            (f_X3_knownDay_L2 s_many s_days s_minutes s_shapes p1 p2  n2) v53_39 o_gathered29_23)))
      else
      (nmI (x3_2 + 1) fun v53_14 =>
        (f_X3_knownDay_L2 s_many s_days s_minutes s_shapes p1 p2  n2) v53_14 gathered__3))
def f_X3_knownDay (s_many : Int32) (s_days : Nat → Int32) (s_gathered : Nat → Int32) (s_minutes : Nat → Int32) (s_shapes : Nat → Int32) (p1 : Int32) (p2 : Int32) : Option (Int32 × (Nat → Int32)) :=
    (f_X3_knownDay_L2 s_many s_days s_minutes s_shapes p1 p2  FU) 0 s_gathered
def f_X3_longestRow (s_many : Int32) (s_days : Nat → Int32) (s_gathered : Nat → Int32) (s_minutes : Nat → Int32) (s_shapes : Nat → Int32) (p1 : Int32) (p2 : Int32) (p3 : Int32) : Option (Int32 × (Nat → Int32)) :=
    cb2 (f_X3_gather s_many s_days s_gathered s_minutes s_shapes p1 400 1) fun r6_1 o_gathered6_2 =>
    if r6_1 ≤ 0 then
    (if p3 = 0 then
      (if r6_1 ≤ 0 then
        (some ((-1), o_gathered6_2))
        else
        (some (0, o_gathered6_2)))
      else
      (some ((-1), o_gathered6_2)))
    else
    (rdI o_gathered6_2 40 0 fun v34_20 =>
      none)
def f_X2_add (s_many : Int32) (s_days : Nat → Int32) (s_shifts : Nat → Int32) (p1 : Int32) (p2 : Int32) : Option (Int32 × Int32 × (Nat → Int32) × (Nat → Int32)) :=
    if s_many < 30 then
    (wrI s_days 30 s_many p1 fun g20_4 =>
      wrI s_shifts 30 s_many p2 fun g30_9 =>
      nmI (s_many + 1) fun v38_14 =>
      some ((v38_14 - 1), v38_14, g20_4, g30_9))
    else
    (some ((-1), s_many, s_days, s_shifts))
def f_X2_storyAt (s_stories : Nat → Option Nat) (p1 : Int32) : Option (Unit) :=
    cb1 (f_X11_isStory p1) fun r1_1 =>
    if r1_1 = 0 then
    (some ())
    else
    (rdN s_stories 6 p1 <|
      some ())
def f_X2_alone_J112 (p2 : Int32) (fallen__2 : Nat → Int32)  (x3_4 : Int32) (x5_5 : Int32) : Option (Int32 × (Nat → Int32)) :=
    if p2 = 0 then
    (some (x3_4, fallen__2))
    else
    (some (x5_5, fallen__2))
def f_X2_alone_J106 (x3_9 : Int32) (K46 : Int32 → Option (Int32 × (Nat → Int32))) (K112 : Int32 → Int32 → Option (Int32 × (Nat → Int32))) (x4_16 : Int32) (x5_17 : Int32) : Option (Int32 × (Nat → Int32)) :=
    if x4_16 = 1 then
    (K112 x3_9 x5_17)
    else
    (nmI (x3_9 + 1) fun v123_21 =>
      K46 v123_21)
def f_X2_alone_J93 (x4_25 : Int32) (K63 : Int32 → Int32 → Int32 → Option (Int32 × (Nat → Int32))) (x6_35 : Int32) : Option (Int32 × (Nat → Int32)) :=
    nmI (x4_25 + 1) fun v93_36 =>
    nmI (x6_35 + 1) fun v100_41 =>
    K63 v93_36 x6_35 v100_41
def f_X2_alone_L63 (fallen__2 : Nat → Int32) (x3_9 : Int32) (K106 : Int32 → Int32 → Option (Int32 × (Nat → Int32))) : Nat → Int32 → Int32 → Int32 → Option (Int32 × (Nat → Int32))
  | 0, _, _, _ => none
  | n63 + 1, x4_25, x5_26, x6_27 =>
    if 6 ≤ x6_27 then
    (K106 x4_25 x5_26)
    else
    (rdI fallen__2 6 x6_27 fun v76_31 =>
      if v76_31 = (-2) then
      ((f_X2_alone_J93 x4_25 (f_X2_alone_L63 fallen__2 x3_9 K106 n63)) x6_27)
      else
      (rdI fallen__2 6 x6_27 fun v88_48 =>
        if v88_48 ≤ x3_9 then
        (nmI (x6_27 + 1) fun v100_55 =>
          (f_X2_alone_L63 fallen__2 x3_9 K106 n63) x4_25 x5_26 v100_55)
        else
        ((f_X2_alone_J93 x4_25 (f_X2_alone_L63 fallen__2 x3_9 K106 n63)) x6_27)))
def f_X2_alone_L46 (s_many : Int32) (fallen__2 : Nat → Int32) (K112 : Int32 → Int32 → Option (Int32 × (Nat → Int32))) : Nat → Int32 → Option (Int32 × (Nat → Int32))
  | 0, _ => none
  | n46 + 1, x3_9 =>
    if s_many ≤ x3_9 then
    (some ((-1), fallen__2))
    else
    ((f_X2_alone_L63 fallen__2 x3_9 (f_X2_alone_J106 x3_9 (f_X2_alone_L46 s_many fallen__2 K112 n46) K112) FU) 0 (-1) 0)
def f_X2_alone_J44 (s_many : Int32) (p2 : Int32)  (fallen__2 : Nat → Int32) : Option (Int32 × (Nat → Int32)) :=
    (f_X2_alone_L46 s_many fallen__2 (f_X2_alone_J112 p2 fallen__2 ) FU) 0
def f_X2_alone_L2 (s_stories : Nat → Option Nat) (K44 : (Nat → Int32) → Option (Int32 × (Nat → Int32))) : Nat → Int32 → (Nat → Int32) → Option (Int32 × (Nat → Int32))
  | 0, _, _ => none
  | n2 + 1, x3_59, fallen__60 =>
    if 6 ≤ x3_59 then
    (K44 fallen__60)
    else
    (rdN s_stories 6 x3_59 <|
      wrI fallen__60 6 x3_59 0 fun g37_67 =>
      nmI (x3_59 + 1) fun v38_72 =>
      (f_X2_alone_L2 s_stories K44 n2) v38_72 g37_67)
def f_X2_alone (s_many : Int32) (s_fallen : Nat → Int32) (s_stories : Nat → Option Nat) (p1 : Int32) (p2 : Int32) : Option (Int32 × (Nat → Int32)) :=
    (f_X2_alone_L2 s_stories (f_X2_alone_J44 s_many p2 ) FU) 0 s_fallen
def f_X2_greatestSize_J165    : Option (Int32) :=
    some (2000)
def f_X2_greatestSize (s_many : Int32) (s_days : Nat → Int32) (p1 : Int32) (p2 : Int32) (p3 : Int32) : Option (Int32) :=
    if s_many ≤ 0 then
    (f_X2_greatestSize_J165)
    else
    (if p1 ≤ 0 then
      (f_X2_greatestSize_J165)
      else
      (rdI s_days 30 0 fun v30_11 =>
        dvI p1 <|
        none))
def f_X2_greatestOrbit_L6 (s_many : Int32) (s_days : Nat → Int32) (p1 : Int32) (p2 : Int32)  : Nat → Int32 → Int32 → Option (Int32)
  | 0, _, _ => none
  | n6 + 1, x3_3, x4_4 =>
    if p1 ≤ x4_4 then
    (some (x3_3))
    else
    (cb1 (f_X2_greatestSize s_many s_days p1 x4_4 p2) fun r18_8 =>
      nmI (jmax x3_3 r18_8) fun v24_13 =>
      nmI (x4_4 + 1) fun v25_17 =>
      (f_X2_greatestOrbit_L6 s_many s_days p1 p2  n6) v24_13 v25_17)
def f_X2_greatestOrbit (s_many : Int32) (s_days : Nat → Int32) (p1 : Int32) (p2 : Int32) : Option (Int32) :=
    (f_X2_greatestOrbit_L6 s_many s_days p1 p2  FU) (-2) 0
def f_X1_missesFrom (s_best : Nat → Int32) (s_tens : Nat → Int32) (p1 : Int32) (p2 : Int32) (p3 : Int32) : Option (Int32) :=
    rdI s_best 287 ((p2 * 41) + (jmin 40 (p1 + p3))) fun v17_1 =>
    if v17_1 = (-1) then
    (some ((-1)))
    else
    (rdI s_tens 40 p1 fun v37_9 =>
      some (((10 - v37_9) * v17_1)))
def f_X1_weigh_J97 (x3_2 : Int32) (x4_14 : Int32) (best__15 : Nat → Int32) (v50_23 : Int32) (t0_28 : Int32) (K32 : Int32 → (Nat → Int32) → Option ((Nat → Int32))) (t0_30 : Int32) : Option ((Nat → Int32)) :=
    if t0_30 = 0 then
    (wrI best__15 287 ((x3_2 * 41) + x4_14) v50_23 fun g122_35 =>
      nmI (x4_14 + (-1)) fun v123_40 =>
      K32 v123_40 g122_35)
    else
    (wrI best__15 287 ((x3_2 * 41) + x4_14) t0_28 fun g122_44 =>
      nmI (x4_14 + (-1)) fun v123_49 =>
      K32 v123_49 g122_44)
def f_X1_weigh_J71 (x3_2 : Int32) (x4_14 : Int32) (best__15 : Nat → Int32) (v50_23 : Int32) (K32 : Int32 → (Nat → Int32) → Option ((Nat → Int32))) (t0_28 : Int32) : Option ((Nat → Int32)) :=
    if t0_28 = (-1) then
    ((f_X1_weigh_J97 x3_2 x4_14 best__15 v50_23 t0_28 K32) 0)
    else
    (if v50_23 = (-1) then
      ((f_X1_weigh_J97 x3_2 x4_14 best__15 v50_23 t0_28 K32) 1)
      else
      (if v50_23 ≤ t0_28 then
        ((f_X1_weigh_J97 x3_2 x4_14 best__15 v50_23 t0_28 K32) 0)
        else
        ((f_X1_weigh_J97 x3_2 x4_14 best__15 v50_23 t0_28 K32) 1)))
def f_X1_weigh_L32 (s_tens : Nat → Int32) (p2 : Int32) (x3_2 : Int32) (K2 : Int32 → (Nat → Int32) → Option ((Nat → Int32))) : Nat → Int32 → (Nat → Int32) → Option ((Nat → Int32))
  | 0, _, _ => none
  | n32 + 1, x4_14, best__15 =>
    if x4_14 < 0 then
    (nmI (x3_2 + 1) fun v129_19 =>
      K2 v129_19 best__15)
    else
    (rdI best__15 287 (((x3_2 * 41) + x4_14) + 1) fun v50_23 =>
      if x3_2 = 0 then
      ((f_X1_weigh_J71 x3_2 x4_14 best__15 v50_23 (f_X1_weigh_L32 s_tens p2 x3_2 K2 n32)) 1)
      else
      (cb1 (f_X1_missesFrom best__15 s_tens x4_14 (x3_2 - 1) p2) fun r68_65 =>
        (f_X1_weigh_J71 x3_2 x4_14 best__15 v50_23 (f_X1_weigh_L32 s_tens p2 x3_2 K2 n32)) r68_65))
def f_X1_weigh_J27 (s_tens : Nat → Int32) (p2 : Int32) (x3_2 : Int32) (best__3 : Nat → Int32) (K2 : Int32 → (Nat → Int32) → Option ((Nat → Int32))) (t2_7 : Int32) : Option ((Nat → Int32)) :=
    wrI best__3 287 ((x3_2 * 41) + 40) t2_7 fun g27_8 =>
    (f_X1_weigh_L32 s_tens p2 x3_2 K2 FU) 39 g27_8
def f_X1_weigh_L2 (s_tens : Nat → Int32) (p1 : Int32) (p2 : Int32)  : Nat → Int32 → (Nat → Int32) → Option ((Nat → Int32))
  | 0, _, _ => none
  | n2 + 1, x3_2, best__3 =>
    if p1 < x3_2 then
    (some (best__3))
    else
    (if x3_2 = 0 then
      ((f_X1_weigh_J27 s_tens p2 x3_2 best__3 (f_X1_weigh_L2 s_tens p1 p2  n2)) 1)
      else
      ((f_X1_weigh_J27 s_tens p2 x3_2 best__3 (f_X1_weigh_L2 s_tens p1 p2  n2)) (-1)))
def f_X1_weigh (s_best : Nat → Int32) (s_tens : Nat → Int32) (p1 : Int32) (p2 : Int32) : Option ((Nat → Int32)) :=
    (f_X1_weigh_L2 s_tens p1 p2  FU) 0 s_best
def f_X1_goesOn (s_unseen : Int32) (s_best : Nat → Int32) (s_tens : Nat → Int32) (p1 : Int32) (p2 : Int32) (p3 : Int32) (p4 : Int32) : Option (Int32) :=
    cb1 (f_X1_missesFrom s_best s_tens p2 p3 p4) fun r5_1 =>
    if r5_1 = (-1) then
    (some (0))
    else
    (if (p1 * r5_1) = s_unseen then
      (some (1))
      else
      (some (0)))
def f_X1_choose_J67 (s_tens : Nat → Int32) (p2 : Int32) (x3_14 : Int32) (x5_16 : Int32) (chosen__17 : Nat → Int32) (K27 : Int32 → Int32 → Int32 → (Nat → Int32) → Option (Int32 × (Nat → Int32) × (Nat → Int32))) (x4_25 : Int32) : Option (Int32 × (Nat → Int32) × (Nat → Int32)) :=
    wrI chosen__17 6 x5_16 x4_25 fun g75_26 =>
    rdI s_tens 40 x4_25 fun v85_31 =>
    nmI (x3_14 * (10 - v85_31)) fun v88_35 =>
    nmI (jmin 39 (x4_25 + p2)) fun v98_39 =>
    nmI (x5_16 + 1) fun v100_43 =>
    K27 v88_35 v98_39 v100_43 g75_26
def f_X1_choose_L41 (s_tens : Nat → Int32) (p2 : Int32) (o_best3_1 : Nat → Int32) (v15_6 : Int32) (x3_14 : Int32) (v39_21 : Int32) (K67 : Int32 → Option (Int32 × (Nat → Int32) × (Nat → Int32))) : Nat → Int32 → Option (Int32 × (Nat → Int32) × (Nat → Int32))
  | 0, _ => none
  | n41 + 1, x4_47 =>
    if 39 ≤ x4_47 then
    (K67 x4_47)
    else
    (cb1 (f_X1_goesOn v15_6 o_best3_1 s_tens x3_14 x4_47 v39_21 p2) fun r55_51 =>
      if r55_51 = 0 then
      (nmI (x4_47 + 1) fun v61_59 =>
        (f_X1_choose_L41 s_tens p2 o_best3_1 v15_6 x3_14 v39_21 K67 n41) v61_59)
      else
      (K67 x4_47))
def f_X1_choose_L27 (s_tens : Nat → Int32) (p1 : Int32) (p2 : Int32) (o_best3_1 : Nat → Int32) (v15_6 : Int32)  : Nat → Int32 → Int32 → Int32 → (Nat → Int32) → Option (Int32 × (Nat → Int32) × (Nat → Int32))
  | 0, _, _, _, _ => none
  | n27 + 1, x3_14, x4_15, x5_16, chosen__17 =>
    if p1 ≤ x5_16 then
    (some (v15_6, o_best3_1, chosen__17))
    else
    (nmI ((p1 - x5_16) - 1) fun v39_21 =>
      (f_X1_choose_L41 s_tens p2 o_best3_1 v15_6 x3_14 v39_21 (f_X1_choose_J67 s_tens p2 x3_14 x5_16 chosen__17 (f_X1_choose_L27 s_tens p1 p2 o_best3_1 v15_6  n27)) FU) x4_15)
def f_X1_choose (s_unseen : Int32) (s_best : Nat → Int32) (s_chosen : Nat → Int32) (s_tens : Nat → Int32) (p1 : Int32) (p2 : Int32) : Option (Int32 × (Nat → Int32) × (Nat → Int32)) :=
    cb1 (f_X1_weigh s_best s_tens p1 p2) fun o_best3_1 =>
    rdI o_best3_1 287 (p1 * 41) fun v15_6 =>
    (f_X1_choose_L27 s_tens p1 p2 o_best3_1 v15_6  FU) 1 0 0 s_chosen
def f_X1_choices_L5 (p1 : Int32) (p2 : Int32)  : Nat → Int64 → Int32 → Option (Int64)
  | 0, _, _ => none
  | n5 + 1, x2_3, x4_4 =>
    if p2 < x4_4 then
    (some (x2_3))
    else
    (dvL (Int32.toInt64 x4_4) <|
      nmL ((x2_3 * (Int32.toInt64 ((p1 - p2) + x4_4))) / (Int32.toInt64 x4_4)) fun v24_10 =>
      nmI (x4_4 + 1) fun v25_14 =>
      (f_X1_choices_L5 p1 p2  n5) v24_10 v25_14)
def f_X1_choices (p1 : Int32) (p2 : Int32) : Option (Int64) :=
    (f_X1_choices_L5 p1 p2  FU) 1 1
def f_X1_drawsWith (p1 : Int32) (p2 : Int32) (p3 : Int32) (p4 : Int32) : Option (Int64) :=
    cb1 (f_X1_choices p1 p3) fun r2_1 =>
    cb1 (f_X1_choices (p4 - p1) (p2 - p3)) fun r11_6 =>
    some ((r2_1 * r11_6))
def f_X1_commonDivisor_J44   (x4_4 : Int64) : Option (Int64) :=
    some ((jmaxL 1 x4_4))
def f_X1_commonDivisor_L9  (K44 : Int64 → Option (Int64)) : Nat → Int64 → Int64 → Int32 → Option (Int64)
  | 0, _, _, _ => none
  | n9 + 1, x4_5, x6_6, x8_7 =>
    if 100 ≤ x8_7 then
    (K44 x4_5)
    else
    (if (lg_cmp x6_6 0) = 0 then
      (K44 x4_5)
      else
      (dvL x6_6 <|
        nmL (jremL x4_5 x6_6) fun v28_16 =>
        nmI (x8_7 + 1) fun v38_22 =>
        (f_X1_commonDivisor_L9  K44 n9) x6_6 v28_16 v38_22))
def f_X1_commonDivisor (p1 : Int64) (p2 : Int64) : Option (Int64) :=
    (f_X1_commonDivisor_L9  f_X1_commonDivisor_J44 FU) p1 p2 0
def f_X7_add (s_many : Int32) : Option (Int32 × Int32) :=
    if s_many < 10 then
    (gdN 10 s_many <|
      nmI (s_many + 1) fun v28_7 =>
      some ((v28_7 - 1), v28_7))
    else
    (some ((-1), s_many))
def f_X7_sourceAt (s_many : Int32) (s_sources : Nat → Option Nat) (p1 : Int32) : Option (Unit) :=
    cb1 (f_X11_isWithin p1 0 (s_many - 1)) fun r8_1 =>
    if r8_1 = 0 then
    (some ())
    else
    (rdN s_sources 10 p1 <|
      some ())
def f_J7_fill_53178_L5 (n_p1 : Nat) (p2 : Int32) (v4_2 : Int32)  : Nat → Int32 → (Nat → Int32) → Option ((Nat → Int32))
  | 0, _, _ => none
  | n5 + 1, x2_6, p1__7 =>
    if v4_2 ≤ x2_6 then
    (some (p1__7))
    else
    (wrI p1__7 n_p1 x2_6 p2 fun g13_11 =>
      nmI (x2_6 + 1) fun v14_16 =>
      (f_J7_fill_53178_L5 n_p1 p2 v4_2  n5) v14_16 g13_11)
def f_J7_fill_53178 (n_p1 : Nat) (s_p1 : Nat → Int32) (p2 : Int32) : Option ((Nat → Int32)) :=
    nmI (Int32.ofNat n_p1) fun v4_2 =>
    (f_J7_fill_53178_L5 n_p1 p2 v4_2  FU) 0 s_p1
def f_X4_clear (s_readers : Int32) (s_day : Int32) (s_heights : Nat → Int32) (s_highest : Nat → Int32) (s_shapes : Nat → Int32) (p1 : Int32) : Option (Int32 × Int32 × (Nat → Int32) × (Nat → Int32) × (Nat → Int32)) :=
    cb1 (f_J7_fill_53178 1440 s_heights 0) fun o_p115_3 =>
    cb1 (f_J7_fill_53178 1440 s_highest 0) fun o_p123_8 =>
    cb1 (f_J7_fill_53178 1440 s_shapes 4) fun o_p131_13 =>
    some (0, p1, o_p115_3, o_p123_8, o_p131_13)
def f_X7_lay_L16 (s_many : Int32) (s_sources : Nat → Option Nat) (o_readers11_4 : Int32) (o_day11_5 : Int32) (o_heights11_6 : Nat → Int32) (o_highest11_7 : Nat → Int32) (o_shapes11_8 : Nat → Int32)  : Nat → Int32 → Option (Int32 × Int32 × (Nat → Int32) × (Nat → Int32) × (Nat → Int32))
  | 0, _ => none
  | n16 + 1, x3_14 =>
    if s_many ≤ x3_14 then
    (some (o_readers11_4, o_day11_5, o_heights11_6, o_highest11_7, o_shapes11_8))
    else
    (rdN s_sources 10 x3_14 <|
      nmI (x3_14 + 1) fun v61_22 =>
      (f_X7_lay_L16 s_many s_sources o_readers11_4 o_day11_5 o_heights11_6 o_highest11_7 o_shapes11_8  n16) v61_22)
def f_X7_lay (s_many : Int32) (s_p1_readers : Int32) (s_p1_day : Int32) (s_p1_heights : Nat → Int32) (s_p1_highest : Nat → Int32) (s_p1_shapes : Nat → Int32) (s_sources : Nat → Option Nat) (p2 : Int32) : Option (Int32 × Int32 × (Nat → Int32) × (Nat → Int32) × (Nat → Int32)) :=
    if s_p1_day = p2 then
    (some (s_p1_readers, s_p1_day, s_p1_heights, s_p1_highest, s_p1_shapes))
    else
    (cb5 (f_X4_clear s_p1_readers s_p1_day s_p1_heights s_p1_highest s_p1_shapes p2) fun o_readers11_4 o_day11_5 o_heights11_6 o_highest11_7 o_shapes11_8 =>
      (f_X7_lay_L16 s_many s_sources o_readers11_4 o_day11_5 o_heights11_6 o_highest11_7 o_shapes11_8  FU) 0)
def f_X4_forget (s_day : Int32) : Option (Int32) :=
    some ((-1))
def f_X4_greatestOf_L5 (s_heights : Nat → Int32) (p2 : Int32)  : Nat → Int32 → Int32 → Option (Int32)
  | 0, _, _ => none
  | n5 + 1, x3_3, x4_4 =>
    if p2 < x4_4 then
    (some (x3_3))
    else
    (if 1440 ≤ x4_4 then
      (some (x3_3))
      else
      (rdI s_heights 1440 x4_4 fun v26_11 =>
        nmI (jmax x3_3 v26_11) fun v30_15 =>
        nmI (x4_4 + 1) fun v31_19 =>
        (f_X4_greatestOf_L5 s_heights p2  n5) v30_15 v31_19))
def f_X4_greatestOf (s_heights : Nat → Int32) (p1 : Int32) (p2 : Int32) : Option (Int32) :=
    (f_X4_greatestOf_L5 s_heights p2  FU) 0 p1
def f_X4_greatestBefore_J51 (s_heights : Nat → Int32) (p1 : Int32) (p2 : Int32) (v31_1 : Int32)  (t0_5 : Int32) : Option (Int32) :=
    if t0_5 = 0 then
    (cb1 (f_X4_greatestOf s_heights (v31_1 + 1) (p1 - 1)) fun r69_10 =>
      some (r69_10))
    else
    (some (p2))
def f_X4_greatestBefore_J25 (s_heights : Nat → Int32) (p1 : Int32) (p2 : Int32)   : Option (Int32) :=
    nmI ((p1 - 10) - 1) fun v31_1 =>
    if v31_1 < 0 then
    ((f_X4_greatestBefore_J51 s_heights p1 p2 v31_1 ) 1)
    else
    (rdI s_heights 1440 v31_1 fun v41_18 =>
      if p2 ≤ v41_18 then
      ((f_X4_greatestBefore_J51 s_heights p1 p2 v31_1 ) 0)
      else
      ((f_X4_greatestBefore_J51 s_heights p1 p2 v31_1 ) 1))
def f_X4_greatestBefore (s_heights : Nat → Int32) (p1 : Int32) (p2 : Int32) : Option (Int32) :=
    if p1 ≤ 0 then
    ((f_X4_greatestBefore_J25 s_heights p1 p2 ))
    else
    (rdI s_heights 1440 (p1 - 1) fun v11_28 =>
      if v11_28 < p2 then
      ((f_X4_greatestBefore_J25 s_heights p1 p2 ))
      else
      (rdI s_heights 1440 (p1 - 1) fun v23_35 =>
        some (v23_35)))
def f_X4_isMarked (s_marked : Nat → Int32) (p1 : Int32) (p2 : Int32) : Option (Int32) :=
    cb1 (f_X11_isMinute p2) fun r1_1 =>
    if r1_1 = 0 then
    (some (0))
    else
    (rdI s_marked 1440 p2 fun v12_9 =>
      if ((jshr v12_9 p1) &&& 1) = 1 then
      (some (1))
      else
      (some (0)))
def f_X4_read_J192 (v3_1 : Int32) (x6_34 : Int32) (marked__35 : Nat → Int32) (r79_40 : Int32) (K66 : Int32 → Int32 → (Nat → Int32) → (Nat → Int32) → Option (Int32 × (Nat → Int32) × (Nat → Int32))) (reckoner_letters__95 : Nat → Int32) : Option (Int32 × (Nat → Int32) × (Nat → Int32)) :=
    rdI marked__35 1440 x6_34 fun v244_98 =>
    nmI (v244_98 &&& (v3_1 ^^^ (-1))) fun v249_102 =>
    wrI marked__35 1440 x6_34 v249_102 fun g249_105 =>
    nmI (x6_34 + 1) fun v250_110 =>
    K66 r79_40 v250_110 g249_105 reckoner_letters__95
def f_X4_read_J125 (s_day : Int32) (s_shapes : Nat → Int32) (p1 : Int32) (v3_1 : Int32) (x6_34 : Int32) (marked__35 : Nat → Int32) (r79_40 : Int32) (g102_55 : Nat → Int32) (K66 : Int32 → Int32 → (Nat → Int32) → (Nat → Int32) → Option (Int32 × (Nat → Int32) × (Nat → Int32))) (t2_60 : Int32) : Option (Int32 × (Nat → Int32) × (Nat → Int32)) :=
    wrI g102_55 128 98 t2_60 fun g125_61 =>
    rdI s_shapes 1440 x6_34 fun v136_66 =>
    wrI g125_61 128 108 v136_66 fun g137_70 =>
    wrI g137_70 128 109 x6_34 fun g144_75 =>
    cb1 (f_X11_starMinute s_day x6_34) fun r155_80 =>
    wrI g144_75 128 115 r155_80 fun g158_85 =>
    cb1 (f_X4_isMarked marked__35 p1 (x6_34 - 2)) fun r165_90 =>
    if r165_90 = 0 then
    ((f_X4_read_J192 v3_1 x6_34 marked__35 r79_40 K66) g158_85)
    else
    (cb1 (f_X4_isMarked marked__35 p1 (x6_34 - 1)) fun r177_117 =>
      if r177_117 = 0 then
      (rdI g158_85 128 116 fun v188_125 =>
        nmI (v188_125 + 1) fun v191_129 =>
        wrI g158_85 128 116 v191_129 fun g191_132 =>
        (f_X4_read_J192 v3_1 x6_34 marked__35 r79_40 K66) g191_132)
      else
      ((f_X4_read_J192 v3_1 x6_34 marked__35 r79_40 K66) g158_85))
def f_X4_read_L66 (s_day : Int32) (s_heights : Nat → Int32) (s_shapes : Nat → Int32) (p1 : Int32) (v3_1 : Int32) (v21_8 : Int32)  : Nat → Int32 → Int32 → (Nat → Int32) → (Nat → Int32) → Option (Int32 × (Nat → Int32) × (Nat → Int32))
  | 0, _, _, _, _ => none
  | n66 + 1, x5_33, x6_34, marked__35, reckoner_letters__36 =>
    if 1440 ≤ x6_34 then
    (some (v21_8, marked__35, reckoner_letters__36))
    else
    (cb1 (f_X4_greatestBefore s_heights x6_34 x5_33) fun r79_40 =>
      wrI reckoner_letters__36 128 103 r79_40 fun g90_46 =>
      rdI s_heights 1440 x6_34 fun v101_51 =>
      wrI g90_46 128 104 v101_51 fun g102_55 =>
      if x6_34 ≤ 0 then
      ((f_X4_read_J125 s_day s_shapes p1 v3_1 x6_34 marked__35 r79_40 g102_55 (f_X4_read_L66 s_day s_heights s_shapes p1 v3_1 v21_8  n66)) 0)
      else
      (rdI s_heights 1440 (x6_34 - 1) fun v120_140 =>
        (f_X4_read_J125 s_day s_shapes p1 v3_1 x6_34 marked__35 r79_40 g102_55 (f_X4_read_L66 s_day s_heights s_shapes p1 v3_1 v21_8  n66)) v120_140))
def f_X4_read (s_readers : Int32) (s_day : Int32) (s_heights : Nat → Int32) (s_marked : Nat → Int32) (s_shapes : Nat → Int32) (s_reckoner_letters : Nat → Int32) (p1 : Int32) : Option (Int32 × (Nat → Int32) × (Nat → Int32)) :=
    nmI (jshl 1 p1) fun v3_1 =>
    if (s_readers &&& v3_1) = 0 then
    (nmI (s_readers ||| v3_1) fun v21_8 =>
      wrI s_reckoner_letters 128 100 s_day fun g41_13 =>
      nmI (jrem s_day 7) fun v53_18 =>
      wrI g41_13 128 102 v53_18 fun g53_21 =>
      wrI g53_21 128 116 0 fun g59_26 =>
      (f_X4_read_L66 s_day s_heights s_shapes p1 v3_1 v21_8  FU) 0 0 s_marked g59_26)
    else
    (some (s_readers, s_marked, s_reckoner_letters))
def f_X4_beginsMark (s_marked : Nat → Int32) (p1 : Int32) (p2 : Int32) : Option (Int32) :=
    cb1 (f_X4_isMarked s_marked p1 p2) fun r3_1 =>
    if r3_1 = 0 then
    (some (0))
    else
    (cb1 (f_X4_isMarked s_marked p1 (p2 - 1)) fun r14_9 =>
      if r14_9 = 0 then
      (some (1))
      else
      (some (0)))
def f_X4_marksOf_L4 (s_marked : Nat → Int32) (p1 : Int32)  : Nat → Int32 → Int32 → Option (Int32)
  | 0, _, _ => none
  | n4 + 1, x2_3, x3_4 =>
    if 1440 ≤ x3_4 then
    (some (x2_3))
    else
    (cb1 (f_X4_beginsMark s_marked p1 x3_4) fun r15_8 =>
      if r15_8 = 0 then
      (nmI (x2_3 + 0) fun v27_16 =>
        nmI (x3_4 + 1) fun v28_20 =>
        (f_X4_marksOf_L4 s_marked p1  n4) v27_16 v28_20)
      else
      (nmI (x2_3 + 1) fun v27_24 =>
        nmI (x3_4 + 1) fun v28_28 =>
        (f_X4_marksOf_L4 s_marked p1  n4) v27_24 v28_28))
def f_X4_marksOf (s_marked : Nat → Int32) (p1 : Int32) : Option (Int32) :=
    (f_X4_marksOf_L4 s_marked p1  FU) 0 0
def f_X4_markNumber_J29   (x4_6 : Int32) : Option (Int32) :=
    none
def f_X4_markNumber_L7 (s_marked : Nat → Int32) (p1 : Int32) (K29 : Int32 → Option (Int32)) : Nat → Int32 → Int32 → Option (Int32)
  | 0, _, _ => none
  | n7 + 1, x3_7, x4_8 =>
    if 1440 ≤ x4_8 then
    (some ((-1)))
    else
    (cb1 (f_X4_beginsMark s_marked p1 x4_8) fun r19_12 =>
      if r19_12 = 0 then
      (nmI (x4_8 + 1) fun v43_20 =>
        (f_X4_markNumber_L7 s_marked p1 K29 n7) x3_7 v43_20)
      else
      (if x3_7 = 0 then
        (K29 x4_8)
        else
        (nmI (x3_7 + (-1)) fun v40_27 =>
          nmI (x4_8 + 1) fun v43_31 =>
          (f_X4_markNumber_L7 s_marked p1 K29 n7) v40_27 v43_31)))
def f_X4_markNumber (s_marked : Nat → Int32) (p1 : Int32) (p2 : Int32) : Option (Int32) :=
    nmI (p2 / 3) fun v3_1 =>
    (f_X4_markNumber_L7 s_marked p1 f_X4_markNumber_J29 FU) v3_1 0
def f_X4_beginsPassed_L14 (s_marked : Nat → Int32) (p1 : Int32) (p2 : Int32)  : Nat → Int32 → Option (Int32)
  | 0, _ => none
  | n14 + 1, x4_10 =>
    if 1440 ≤ x4_10 then
    (some (1))
    else
    (cb1 (f_X4_isMarked s_marked p2 x4_10) fun r26_14 =>
      if r26_14 = 0 then
      (some (1))
      else
      (cb1 (f_X4_isMarked s_marked p1 x4_10) fun r36_22 =>
        if r36_22 = 0 then
        (nmI (x4_10 + 1) fun v44_30 =>
          (f_X4_beginsPassed_L14 s_marked p1 p2  n14) v44_30)
        else
        (some (0))))
def f_X4_beginsPassed (s_marked : Nat → Int32) (p1 : Int32) (p2 : Int32) (p3 : Int32) : Option (Int32) :=
    cb1 (f_X4_beginsMark s_marked p2 p3) fun r3_1 =>
    if r3_1 = 0 then
    (some (0))
    else
    ((f_X4_beginsPassed_L14 s_marked p1 p2  FU) p3)
def f_X4_passedMarks_L5 (s_marked : Nat → Int32) (p1 : Int32) (p2 : Int32)  : Nat → Int32 → Int32 → Option (Int32)
  | 0, _, _ => none
  | n5 + 1, x3_3, x4_4 =>
    if 1440 ≤ x4_4 then
    (some (x3_3))
    else
    (cb1 (f_X4_beginsPassed s_marked p1 p2 x4_4) fun r19_8 =>
      if r19_8 = 0 then
      (nmI (x3_3 + 0) fun v31_16 =>
        nmI (x4_4 + 1) fun v32_20 =>
        (f_X4_passedMarks_L5 s_marked p1 p2  n5) v31_16 v32_20)
      else
      (nmI (x3_3 + 1) fun v31_24 =>
        nmI (x4_4 + 1) fun v32_28 =>
        (f_X4_passedMarks_L5 s_marked p1 p2  n5) v31_24 v32_28))
def f_X4_passedMarks (s_marked : Nat → Int32) (p1 : Int32) (p2 : Int32) : Option (Int32) :=
    (f_X4_passedMarks_L5 s_marked p1 p2  FU) 0 0
def f_X4_firstWrong_J80 (p3 : Int32)   : Option (Int32) :=
    if (3 * p3) ≤ 0 then
    (some ((-1)))
    else
    (some (0))
def f_X4_firstWrong_L6 (s_marked : Nat → Int32) (p1 : Int32) (p3 : Int32) (K80 : Option (Int32)) : Nat → Int32 → Option (Int32)
  | 0, _ => none
  | n6 + 1, x5_6 =>
    if 1440 ≤ x5_6 then
    (K80)
    else
    (cb1 (f_X4_beginsMark s_marked p1 x5_6) fun r18_10 =>
      if r18_10 = 0 then
      (nmI (x5_6 + 1) fun v74_18 =>
        (f_X4_firstWrong_L6 s_marked p1 p3 K80 n6) v74_18)
      else
      (if 0 < (3 * p3) then
        (none)
        else
        (some (0))))
def f_X4_firstWrong (s_marked : Nat → Int32) (p1 : Int32) (p3 : Int32) : Option (Int32) :=
    (f_X4_firstWrong_L6 s_marked p1 p3 (f_X4_firstWrong_J80 p3 ) FU) 0
def f_X11_tapeHas (s_tape_length : Int32) (p1 : Int32) (p2 : Int32) : Option (Int32) :=
    cb1 (f_X11_isWithin p1 1 p2) fun r3_1 =>
    if r3_1 = 0 then
    (some (0))
    else
    (if s_tape_length < p1 then
      (some (0))
      else
      (some (1)))
def f_X11_canScan_J30 (s_blips_many : Int32) (p1 : Int32) (p2 : Int32) (p3 : Int32)  (t0_6 : Int32) : Option (Int32) :=
    if t0_6 = 0 then
    (some (0))
    else
    (if p2 < p1 then
      (some (0))
      else
      (if 2000 < (p2 - p1) then
        (some (0))
        else
        (if p1 ≤ (2 * p3) then
          (some (0))
          else
          (if s_blips_many < 2 then
            (some (0))
            else
            (some (1))))))
def f_X11_canScan (s_blips_many : Int32) (p1 : Int32) (p2 : Int32) (p3 : Int32) : Option (Int32) :=
    cb1 (f_X11_isBeat p1) fun r1_1 =>
    if r1_1 = 0 then
    ((f_X11_canScan_J30 s_blips_many p1 p2 p3 ) 0)
    else
    (cb1 (f_X11_isBeat p2) fun r8_26 =>
      if r8_26 = 0 then
      ((f_X11_canScan_J30 s_blips_many p1 p2 p3 ) 0)
      else
      (cb1 (f_X11_isWithin p3 0 1000) fun r19_34 =>
        if r19_34 = 0 then
        ((f_X11_canScan_J30 s_blips_many p1 p2 p3 ) 0)
        else
        ((f_X11_canScan_J30 s_blips_many p1 p2 p3 ) 1)))
def f_X11_clausesOf  : Option (Int32) :=
    some (0)
def f_X11_textCount (s_sky_many : Int32) (s_ways : Nat → Option Nat) (s_nights_stories : Nat → Option Nat) (s_sky_sources : Nat → Option Nat) (p1 : Int32) : Option (Int32) :=
    cb1 (f_X11_isWithin p1 10 ((10 + s_sky_many) - 1)) fun r15_1 =>
    if r15_1 = 0 then
    (cb1 (f_X11_isWithin p1 20 23) fun r54_9 =>
      if r54_9 = 0 then
      (cb1 (f_X11_isWithin p1 30 35) fun r78_17 =>
        if r78_17 = 0 then
        (some ((-1)))
        else
        (rdN s_nights_stories 6 (p1 - 30) <|
          cb1 (f_X11_clausesOf ) fun r96_28 =>
          some (r96_28)))
      else
      (rdN s_ways 4 (p1 - 20) <|
        cb1 (f_X11_clausesOf ) fun r69_36 =>
        some (r69_36)))
    else
    (cb1 (f_X7_sourceAt s_sky_many s_sky_sources (p1 - 10)) fun u29_41 =>
      some ((-1)))
def f_X11_seed (s_page_day : Int32) (s_sky_seed : Int32) (p1 : Int32) : Option (Int32 × Int32 × Int32) :=
    cb1 (f_X11_isWithin p1 0 999) fun r5_1 =>
    if r5_1 = 0 then
    (some (0, s_page_day, s_sky_seed))
    else
    (cb1 (f_X4_forget s_page_day) fun o_day17_9 =>
      some (1, o_day17_9, p1))
def f_X11_feed (s_tape_length : Int32) (s_tape_bytes : Nat → Int32) (p1 : Int32) (p2 : Int32) (p3 : Int32) (p4 : Int32) (p5 : Int32) : Option (Int32 × Int32 × (Nat → Int32)) :=
    if s_tape_length ≤ 180 then
    (cb2 (f_X9_put s_tape_length s_tape_bytes p1) fun o_length20_4 o_bytes20_5 =>
      cb2 (f_X9_put o_length20_4 o_bytes20_5 p2) fun o_length28_10 o_bytes28_11 =>
      cb2 (f_X9_put o_length28_10 o_bytes28_11 p3) fun o_length36_16 o_bytes36_17 =>
      cb2 (f_X9_put o_length36_16 o_bytes36_17 p4) fun o_length45_22 o_bytes45_23 =>
      cb2 (f_X9_put o_length45_22 o_bytes45_23 p5) fun o_length54_28 o_bytes54_29 =>
      some (o_length54_28, o_length54_28, o_bytes54_29))
    else
    (some ((-1), s_tape_length, s_tape_bytes))
def f_X11_law (s_sky_many : Int32) (s_sky_sources : Nat → Option Nat) (p1 : Int32) (p2 : Int32) : Option (Int32) :=
    cb1 (f_X7_sourceAt s_sky_many s_sky_sources p1) fun u5_1 =>
    some ((-1))
def f_X11_way (s_tape_length : Int32) (p1 : Int32) (p2 : Int32) : Option (Int32) :=
    cb1 (f_X11_isReader p1) fun r1_1 =>
    if r1_1 = 0 then
    (some ((-1)))
    else
    (cb1 (f_X11_tapeHas s_tape_length p2 120) fun r11_9 =>
      if r11_9 = 0 then
      (some ((-1)))
      else
      (none))
def f_X11_story (s_tape_length : Int32) (p1 : Int32) (p2 : Int32) : Option (Int32) :=
    cb1 (f_X11_isStory p1) fun r1_1 =>
    if r1_1 = 0 then
    (some ((-1)))
    else
    (cb1 (f_X11_tapeHas s_tape_length p2 60) fun r11_9 =>
      if r11_9 = 0 then
      (some ((-1)))
      else
      (none))
def f_X11_star (p1 : Int32) (p2 : Int32) : Option (Int32) :=
    cb1 (f_X11_isDay p1) fun r1_1 =>
    if r1_1 = 0 then
    (some ((-1)))
    else
    (cb1 (f_X11_isMinute p2) fun r8_9 =>
      if r8_9 = 0 then
      (some ((-1)))
      else
      (cb1 (f_X11_starMinute p1 p2) fun r16_17 =>
        some (r16_17)))
def f_X11_height (s_sky_many : Int32) (s_sky_sources : Nat → Option Nat) (p1 : Int32) (p2 : Int32) (p3 : Int32) : Option (Int32) :=
    cb1 (f_X7_sourceAt s_sky_many s_sky_sources p1) fun u5_1 =>
    some ((-1))
def f_X11_paper (s_page_readers : Int32) (s_page_day : Int32) (s_sky_many : Int32) (s_page_heights : Nat → Int32) (s_page_highest : Nat → Int32) (s_page_shapes : Nat → Int32) (s_sky_sources : Nat → Option Nat) (p1 : Int32) (p2 : Int32) (p3 : Int32) : Option (Int32 × Int32 × Int32 × (Nat → Int32) × (Nat → Int32) × (Nat → Int32)) :=
    cb1 (f_X11_isDay p1) fun r1_1 =>
    if r1_1 = 0 then
    (some ((-1), s_page_readers, s_page_day, s_page_heights, s_page_highest, s_page_shapes))
    else
    (cb1 (f_X11_isMinute p2) fun r8_9 =>
      if r8_9 = 0 then
      (some ((-1), s_page_readers, s_page_day, s_page_heights, s_page_highest, s_page_shapes))
      else
      (cb1 (f_X11_isWithin p3 0 1) fun r17_17 =>
        if r17_17 = 0 then
        (some ((-1), s_page_readers, s_page_day, s_page_heights, s_page_highest, s_page_shapes))
        else
        (cb5 (f_X7_lay s_sky_many s_page_readers s_page_day s_page_heights s_page_highest s_page_shapes s_sky_sources p1) fun o_p1_readers34_25 o_p1_day34_26 o_p1_heights34_27 o_p1_highest34_28 o_p1_shapes34_29 =>
          if p3 = 0 then
          (rdI o_p1_heights34_27 1440 p2 fun v49_41 =>
            some (v49_41, o_p1_readers34_25, o_p1_day34_26, o_p1_heights34_27, o_p1_highest34_28, o_p1_shapes34_29))
          else
          (rdI o_p1_shapes34_29 1440 p2 fun v61_37 =>
            some (v61_37, o_p1_readers34_25, o_p1_day34_26, o_p1_heights34_27, o_p1_highest34_28, o_p1_shapes34_29)))))
def f_X11_marks (s_page_readers : Int32) (s_page_day : Int32) (s_sky_many : Int32) (s_ways : Nat → Option Nat) (s_page_heights : Nat → Int32) (s_page_highest : Nat → Int32) (s_page_marked : Nat → Int32) (s_page_shapes : Nat → Int32) (s_sky_sources : Nat → Option Nat) (s_page_reckoner_letters : Nat → Int32) (p1 : Int32) (p2 : Int32) (p3 : Int32) : Option (Int32 × Int32 × Int32 × (Nat → Int32) × (Nat → Int32) × (Nat → Int32) × (Nat → Int32) × (Nat → Int32)) :=
    cb1 (f_X11_isReader p1) fun r1_1 =>
    if r1_1 = 0 then
    (some ((-1), s_page_readers, s_page_day, s_page_heights, s_page_highest, s_page_marked, s_page_shapes, s_page_reckoner_letters))
    else
    (cb1 (f_X11_isDay p2) fun r8_9 =>
      if r8_9 = 0 then
      (some ((-1), s_page_readers, s_page_day, s_page_heights, s_page_highest, s_page_marked, s_page_shapes, s_page_reckoner_letters))
      else
      (if (-1) ≤ p3 then
        (cb5 (f_X7_lay s_sky_many s_page_readers s_page_day s_page_heights s_page_highest s_page_shapes s_sky_sources p2) fun o_p1_readers30_20 o_p1_day30_21 o_p1_heights30_22 o_p1_highest30_23 o_p1_shapes30_24 =>
          rdN s_ways 4 p1 <|
          cb3 (f_X4_read o_p1_readers30_20 o_p1_day30_21 o_p1_heights30_22 s_page_marked o_p1_shapes30_24 s_page_reckoner_letters p1) fun o_readers44_32 o_marked44_33 o_reckoner_letters44_34 =>
          if p3 = (-1) then
          (cb1 (f_X4_marksOf o_marked44_33 p1) fun r57_47 =>
            some (r57_47, o_readers44_32, o_p1_day30_21, o_p1_heights30_22, o_p1_highest30_23, o_marked44_33, o_p1_shapes30_24, o_reckoner_letters44_34))
          else
          (cb1 (f_X4_markNumber o_marked44_33 p1 p3) fun r69_42 =>
            some (r69_42, o_readers44_32, o_p1_day30_21, o_p1_heights30_22, o_p1_highest30_23, o_marked44_33, o_p1_shapes30_24, o_reckoner_letters44_34)))
        else
        (some ((-1), s_page_readers, s_page_day, s_page_heights, s_page_highest, s_page_marked, s_page_shapes, s_page_reckoner_letters))))
def f_X11_passed_J143 (p5 : Int32)  (x8_19 : Int32) (page_day__20 : Int32) (page_readers__21 : Int32) (page_heights__22 : Nat → Int32) (page_highest__23 : Nat → Int32) (page_marked__24 : Nat → Int32) (page_reckoner_letters__25 : Nat → Int32) (page_shapes__26 : Nat → Int32) : Option (Int32 × Int32 × Int32 × (Nat → Int32) × (Nat → Int32) × (Nat → Int32) × (Nat → Int32) × (Nat → Int32)) :=
    if p5 = 1 then
    (some (x8_19, page_readers__21, page_day__20, page_heights__22, page_highest__23, page_marked__24, page_shapes__26, page_reckoner_letters__25))
    else
    (none)
def f_X11_passed_J177 (p5 : Int32)  (x7_30 : Int32) (page_day__31 : Int32) (page_readers__32 : Int32) (page_heights__33 : Nat → Int32) (page_highest__34 : Nat → Int32) (page_marked__35 : Nat → Int32) (page_reckoner_letters__36 : Nat → Int32) (page_shapes__37 : Nat → Int32) : Option (Int32 × Int32 × Int32 × (Nat → Int32) × (Nat → Int32) × (Nat → Int32) × (Nat → Int32) × (Nat → Int32)) :=
    if p5 = 0 then
    (some (x7_30, page_readers__32, page_day__31, page_heights__33, page_highest__34, page_marked__35, page_shapes__37, page_reckoner_letters__36))
    else
    (some ((-1), page_readers__32, page_day__31, page_heights__33, page_highest__34, page_marked__35, page_shapes__37, page_reckoner_letters__36))
def f_X11_passed_J164 (x7_41 : Int32) (x8_42 : Int32) (o_p1_day91_54 : Int32) (o_p1_heights91_55 : Nat → Int32) (o_p1_highest91_56 : Nat → Int32) (o_p1_shapes91_57 : Nat → Int32) (o_readers119_75 : Int32) (o_marked119_76 : Nat → Int32) (o_reckoner_letters119_77 : Nat → Int32) (r128_82 : Int32) (K74 : Int32 → Int32 → Int32 → Int32 → (Nat → Int32) → (Nat → Int32) → (Nat → Int32) → (Nat → Int32) → (Nat → Int32) → Option (Int32 × Int32 × Int32 × (Nat → Int32) × (Nat → Int32) × (Nat → Int32) × (Nat → Int32) × (Nat → Int32)))  : Option (Int32 × Int32 × Int32 × (Nat → Int32) × (Nat → Int32) × (Nat → Int32) × (Nat → Int32) × (Nat → Int32)) :=
    nmI (x7_41 + r128_82) fun v169_88 =>
    nmI (x8_42 + 1) fun v171_92 =>
    K74 v169_88 v171_92 o_p1_day91_54 o_readers119_75 o_p1_heights91_55 o_p1_highest91_56 o_marked119_76 o_reckoner_letters119_77 o_p1_shapes91_57
def f_X11_passed_L74 (s_sky_many : Int32) (s_ways : Nat → Option Nat) (s_sky_sources : Nat → Option Nat) (p1 : Int32) (p2 : Int32) (p4 : Int32) (p5 : Int32) (K143 : Int32 → Int32 → Int32 → (Nat → Int32) → (Nat → Int32) → (Nat → Int32) → (Nat → Int32) → (Nat → Int32) → Option (Int32 × Int32 × Int32 × (Nat → Int32) × (Nat → Int32) × (Nat → Int32) × (Nat → Int32) × (Nat → Int32))) (K177 : Int32 → Int32 → Int32 → (Nat → Int32) → (Nat → Int32) → (Nat → Int32) → (Nat → Int32) → (Nat → Int32) → Option (Int32 × Int32 × Int32 × (Nat → Int32) × (Nat → Int32) × (Nat → Int32) × (Nat → Int32) × (Nat → Int32))) : Nat → Int32 → Int32 → Int32 → Int32 → (Nat → Int32) → (Nat → Int32) → (Nat → Int32) → (Nat → Int32) → (Nat → Int32) → Option (Int32 × Int32 × Int32 × (Nat → Int32) × (Nat → Int32) × (Nat → Int32) × (Nat → Int32) × (Nat → Int32))
  | 0, _, _, _, _, _, _, _, _, _ => none
  | n74 + 1, x7_41, x8_42, page_day__43, page_readers__44, page_heights__45, page_highest__46, page_marked__47, page_reckoner_letters__48, page_shapes__49 =>
    if p4 < x8_42 then
    (K177 x7_41 page_day__43 page_readers__44 page_heights__45 page_highest__46 page_marked__47 page_reckoner_letters__48 page_shapes__49)
    else
    (cb5 (f_X7_lay s_sky_many page_readers__44 page_day__43 page_heights__45 page_highest__46 page_shapes__49 s_sky_sources x8_42) fun o_p1_readers91_53 o_p1_day91_54 o_p1_heights91_55 o_p1_highest91_56 o_p1_shapes91_57 =>
      rdN s_ways 4 p1 <|
      cb3 (f_X4_read o_p1_readers91_53 o_p1_day91_54 o_p1_heights91_55 page_marked__47 o_p1_shapes91_57 page_reckoner_letters__48 p1) fun o_readers105_65 o_marked105_66 o_reckoner_letters105_67 =>
      rdN s_ways 4 p2 <|
      cb3 (f_X4_read o_readers105_65 o_p1_day91_54 o_p1_heights91_55 o_marked105_66 o_p1_shapes91_57 o_reckoner_letters105_67 p2) fun o_readers119_75 o_marked119_76 o_reckoner_letters119_77 =>
      cb1 (f_X4_passedMarks o_marked119_76 p1 p2) fun r128_82 =>
      if r128_82 ≤ 0 then
      ((f_X11_passed_J164 x7_41 x8_42 o_p1_day91_54 o_p1_heights91_55 o_p1_highest91_56 o_p1_shapes91_57 o_readers119_75 o_marked119_76 o_reckoner_letters119_77 r128_82 (f_X11_passed_L74 s_sky_many s_ways s_sky_sources p1 p2 p4 p5 K143 K177 n74)))
      else
      (if p5 ≤ 0 then
        ((f_X11_passed_J164 x7_41 x8_42 o_p1_day91_54 o_p1_heights91_55 o_p1_highest91_56 o_p1_shapes91_57 o_readers119_75 o_marked119_76 o_reckoner_letters119_77 r128_82 (f_X11_passed_L74 s_sky_many s_ways s_sky_sources p1 p2 p4 p5 K143 K177 n74)))
        else
        (K143 x8_42 o_p1_day91_54 o_readers119_75 o_p1_heights91_55 o_p1_highest91_56 o_marked119_76 o_reckoner_letters119_77 o_p1_shapes91_57)))
def f_X11_passed_J44 (s_page_readers : Int32) (s_page_day : Int32) (s_sky_many : Int32) (s_ways : Nat → Option Nat) (s_page_heights : Nat → Int32) (s_page_highest : Nat → Int32) (s_page_marked : Nat → Int32) (s_page_shapes : Nat → Int32) (s_sky_sources : Nat → Option Nat) (s_page_reckoner_letters : Nat → Int32) (p1 : Int32) (p2 : Int32) (p3 : Int32) (p4 : Int32) (p5 : Int32)  (t0_6 : Int32) : Option (Int32 × Int32 × Int32 × (Nat → Int32) × (Nat → Int32) × (Nat → Int32) × (Nat → Int32) × (Nat → Int32)) :=
    if t0_6 = 0 then
    (some ((-1), s_page_readers, s_page_day, s_page_heights, s_page_highest, s_page_marked, s_page_shapes, s_page_reckoner_letters))
    else
    (if p4 < p3 then
      (some ((-1), s_page_readers, s_page_day, s_page_heights, s_page_highest, s_page_marked, s_page_shapes, s_page_reckoner_letters))
      else
      (if (p4 - p3) < 30 then
        ((f_X11_passed_L74 s_sky_many s_ways s_sky_sources p1 p2 p4 p5 (f_X11_passed_J143 p5 ) (f_X11_passed_J177 p5 ) FU) 0 p3 s_page_day s_page_readers s_page_heights s_page_highest s_page_marked s_page_reckoner_letters s_page_shapes)
        else
        (some ((-1), s_page_readers, s_page_day, s_page_heights, s_page_highest, s_page_marked, s_page_shapes, s_page_reckoner_letters))))
def f_X11_passed (s_page_readers : Int32) (s_page_day : Int32) (s_sky_many : Int32) (s_ways : Nat → Option Nat) (s_page_heights : Nat → Int32) (s_page_highest : Nat → Int32) (s_page_marked : Nat → Int32) (s_page_shapes : Nat → Int32) (s_sky_sources : Nat → Option Nat) (s_page_reckoner_letters : Nat → Int32) (p1 : Int32) (p2 : Int32) (p3 : Int32) (p4 : Int32) (p5 : Int32) : Option (Int32 × Int32 × Int32 × (Nat → Int32) × (Nat → Int32) × (Nat → Int32) × (Nat → Int32) × (Nat → Int32)) :=
    cb1 (f_X11_isReader p1) fun r1_1 =>
    if r1_1 = 0 then
    ((f_X11_passed_J44 s_page_readers s_page_day s_sky_many s_ways s_page_heights s_page_highest s_page_marked s_page_shapes s_sky_sources s_page_reckoner_letters p1 p2 p3 p4 p5 ) 0)
    else
    (cb1 (f_X11_isReader p2) fun r8_105 =>
      if r8_105 = 0 then
      ((f_X11_passed_J44 s_page_readers s_page_day s_sky_many s_ways s_page_heights s_page_highest s_page_marked s_page_shapes s_sky_sources s_page_reckoner_letters p1 p2 p3 p4 p5 ) 0)
      else
      (cb1 (f_X11_isDay p3) fun r15_113 =>
        if r15_113 = 0 then
        ((f_X11_passed_J44 s_page_readers s_page_day s_sky_many s_ways s_page_heights s_page_highest s_page_marked s_page_shapes s_sky_sources s_page_reckoner_letters p1 p2 p3 p4 p5 ) 0)
        else
        (cb1 (f_X11_isDay p4) fun r23_121 =>
          if r23_121 = 0 then
          ((f_X11_passed_J44 s_page_readers s_page_day s_sky_many s_ways s_page_heights s_page_highest s_page_marked s_page_shapes s_sky_sources s_page_reckoner_letters p1 p2 p3 p4 p5 ) 0)
          else
          (cb1 (f_X11_isWithin p5 0 2) fun r33_129 =>
            if r33_129 = 0 then
            ((f_X11_passed_J44 s_page_readers s_page_day s_sky_many s_ways s_page_heights s_page_highest s_page_marked s_page_shapes s_sky_sources s_page_reckoner_letters p1 p2 p3 p4 p5 ) 0)
            else
            ((f_X11_passed_J44 s_page_readers s_page_day s_sky_many s_ways s_page_heights s_page_highest s_page_marked s_page_shapes s_sky_sources s_page_reckoner_letters p1 p2 p3 p4 p5 ) 1)))))
def f_X11_note_J26 (s_notes_many : Int32) (s_notes_days : Nat → Int32) (s_notes_minutes : Nat → Int32) (s_notes_shapes : Nat → Int32) (p1 : Int32) (p2 : Int32) (p3 : Int32)  (t0_6 : Int32) : Option (Int32 × Int32 × (Nat → Int32) × (Nat → Int32) × (Nat → Int32)) :=
    if t0_6 = 0 then
    (some ((-1), s_notes_many, s_notes_days, s_notes_minutes, s_notes_shapes))
    else
    (cb5 (f_X3_add s_notes_many s_notes_days s_notes_minutes s_notes_shapes p1 p2 p3) fun r40_11 o_many40_12 o_days40_13 o_minutes40_14 o_shapes40_15 =>
      some (r40_11, o_many40_12, o_days40_13, o_minutes40_14, o_shapes40_15))
def f_X11_note (s_notes_many : Int32) (s_notes_days : Nat → Int32) (s_notes_minutes : Nat → Int32) (s_notes_shapes : Nat → Int32) (p1 : Int32) (p2 : Int32) (p3 : Int32) : Option (Int32 × Int32 × (Nat → Int32) × (Nat → Int32) × (Nat → Int32)) :=
    cb1 (f_X11_isDay p1) fun r1_1 =>
    if r1_1 = 0 then
    ((f_X11_note_J26 s_notes_many s_notes_days s_notes_minutes s_notes_shapes p1 p2 p3 ) 0)
    else
    (cb1 (f_X11_isMinute p2) fun r8_23 =>
      if r8_23 = 0 then
      ((f_X11_note_J26 s_notes_many s_notes_days s_notes_minutes s_notes_shapes p1 p2 p3 ) 0)
      else
      (cb1 (f_X11_isShape p3) fun r15_31 =>
        if r15_31 = 0 then
        ((f_X11_note_J26 s_notes_many s_notes_days s_notes_minutes s_notes_shapes p1 p2 p3 ) 0)
        else
        ((f_X11_note_J26 s_notes_many s_notes_days s_notes_minutes s_notes_shapes p1 p2 p3 ) 1)))
def f_X11_one (s_notes_many : Int32) (s_notes_days : Nat → Int32) (s_notes_gathered : Nat → Int32) (s_notes_minutes : Nat → Int32) (s_notes_shapes : Nat → Int32) (p1 : Int32) (p2 : Int32) : Option (Int32 × (Nat → Int32)) :=
    cb1 (f_X11_isShape p1) fun r1_1 =>
    if r1_1 = 0 then
    (some ((-1), s_notes_gathered))
    else
    (cb1 (f_X11_isWithin p2 0 700) fun r12_9 =>
      if r12_9 = 0 then
      (some ((-1), s_notes_gathered))
      else
      (cb2 (f_X3_oneBy s_notes_many s_notes_days s_notes_gathered s_notes_minutes s_notes_shapes p1 p2 400) fun r29_17 o_gathered29_18 =>
        some (r29_17, o_gathered29_18)))
def f_X11_known (s_notes_many : Int32) (s_notes_days : Nat → Int32) (s_notes_gathered : Nat → Int32) (s_notes_minutes : Nat → Int32) (s_notes_shapes : Nat → Int32) (p1 : Int32) (p2 : Int32) : Option (Int32 × (Nat → Int32)) :=
    cb1 (f_X11_isShape p1) fun r1_1 =>
    if r1_1 = 0 then
    (some ((-1), s_notes_gathered))
    else
    (cb1 (f_X11_isWithin p2 0 700) fun r12_9 =>
      if r12_9 = 0 then
      (some ((-1), s_notes_gathered))
      else
      (cb2 (f_X3_knownDay s_notes_many s_notes_days s_notes_gathered s_notes_minutes s_notes_shapes p1 p2) fun r26_17 o_gathered26_18 =>
        some (r26_17, o_gathered26_18)))
def f_X11_row (s_notes_many : Int32) (s_notes_days : Nat → Int32) (s_notes_gathered : Nat → Int32) (s_notes_minutes : Nat → Int32) (s_notes_shapes : Nat → Int32) (p1 : Int32) (p2 : Int32) (p3 : Int32) : Option (Int32 × (Nat → Int32)) :=
    cb1 (f_X11_isShape p1) fun r1_1 =>
    if r1_1 = 0 then
    (some ((-1), s_notes_gathered))
    else
    (cb1 (f_X11_isWithin p2 0 700) fun r12_9 =>
      if r12_9 = 0 then
      (some ((-1), s_notes_gathered))
      else
      (cb1 (f_X11_isWithin p3 0 1) fun r21_17 =>
        if r21_17 = 0 then
        (some ((-1), s_notes_gathered))
        else
        (cb2 (f_X3_longestRow s_notes_many s_notes_days s_notes_gathered s_notes_minutes s_notes_shapes p1 p2 p3) fun r36_25 o_gathered36_26 =>
          some (r36_25, o_gathered36_26))))
def f_X11_blip (s_blips_many : Int32) (s_blips_times : Nat → Int32) (p1 : Int32) : Option (Int32 × Int32 × (Nat → Int32)) :=
    cb1 (f_X11_isWithin p1 0 1000000000) fun r4_1 =>
    if r4_1 = 0 then
    (some ((-1), s_blips_many, s_blips_times))
    else
    (cb3 (f_X0_add s_blips_many s_blips_times p1) fun r15_9 o_many15_10 o_times15_11 =>
      some (r15_9, o_many15_10, o_times15_11))
def f_X11_fits (s_blips_many : Int32) (p1 : Int32) (p2 : Int32) : Option (Int32) :=
    cb1 (f_X11_isBeat p1) fun r1_1 =>
    if r1_1 = 0 then
    (some ((-1)))
    else
    (cb1 (f_X11_isWithin p2 0 1000) fun r12_9 =>
      if r12_9 = 0 then
      (some ((-1)))
      else
      (if p1 ≤ (2 * p2) then
        (some ((-1)))
        else
        (if 2 ≤ s_blips_many then
          (none)
          else
          (some ((-1))))))
def f_X11_beats (s_blips_many : Int32) (p1 : Int32) (p2 : Int32) (p3 : Int32) (p4 : Int32) : Option (Int32) :=
    cb1 (f_X11_canScan s_blips_many p1 p2 p3) fun r4_1 =>
    if r4_1 = 0 then
    (some ((-1)))
    else
    (cb1 (f_X11_isWithin p4 0 2) fun r14_9 =>
      if r14_9 = 0 then
      (some ((-1)))
      else
      (none))
def f_X11_counted (s_blips_many : Int32) (p1 : Int32) (p2 : Int32) : Option (Int32) :=
    cb1 (f_X11_isBeat p2) fun r1_1 =>
    if r1_1 = 0 then
    (some ((-1)))
    else
    (cb1 (f_X11_isWithin p1 0 (s_blips_many - 1)) fun r18_9 =>
      if r18_9 = 0 then
      (some ((-1)))
      else
      (none))
def f_X11_sure (s_blips_many : Int32) (p1 : Int32) (p2 : Int32) (p3 : Int32) : Option (Int32) :=
    cb1 (f_X11_canScan s_blips_many p1 p2 p3) fun r4_1 =>
    if r4_1 = 0 then
    (some ((-1)))
    else
    (none)
def f_X11_lost (s_blips_many : Int32) (p1 : Int32) (p2 : Int32) (p3 : Int32) : Option (Int32) :=
    cb1 (f_X11_canScan s_blips_many p1 p2 p3) fun r4_1 =>
    if r4_1 = 0 then
    (some ((-1)))
    else
    (none)
def f_X11_night (s_nights_many : Int32) (s_nights_days : Nat → Int32) (s_nights_shifts : Nat → Int32) (p1 : Int32) (p2 : Int32) : Option (Int32 × Int32 × (Nat → Int32) × (Nat → Int32)) :=
    cb1 (f_X11_isDay p1) fun r1_1 =>
    if r1_1 = 0 then
    (some ((-1), s_nights_many, s_nights_days, s_nights_shifts))
    else
    (cb1 (f_X11_isWithin p2 (-100000) 100000) fun r12_9 =>
      if r12_9 = 0 then
      (some ((-1), s_nights_many, s_nights_days, s_nights_shifts))
      else
      (cb4 (f_X2_add s_nights_many s_nights_days s_nights_shifts p1 p2) fun r24_17 o_many24_18 o_days24_19 o_shifts24_20 =>
        some (r24_17, o_many24_18, o_days24_19, o_shifts24_20)))
def f_X11_says (s_nights_stories : Nat → Option Nat) (p1 : Int32) (p2 : Int32) : Option (Int32) :=
    cb1 (f_X2_storyAt s_nights_stories p1) fun u5_1 =>
    some ((-1000000))
def f_X11_falls (s_nights_stories : Nat → Option Nat) (p1 : Int32) (p2 : Int32) : Option (Int32) :=
    cb1 (f_X2_storyAt s_nights_stories p1) fun u5_1 =>
    some ((-1))
def f_X11_told (s_nights_many : Int32) (s_nights_fallen : Nat → Int32) (s_nights_stories : Nat → Option Nat) (p1 : Int32) (p2 : Int32) : Option (Int32 × (Nat → Int32)) :=
    cb1 (f_X11_isNightError p1) fun r1_1 =>
    if r1_1 = 0 then
    (some ((-1), s_nights_fallen))
    else
    (cb1 (f_X11_isWithin p2 0 1) fun r10_9 =>
      if r10_9 = 0 then
      (some ((-1), s_nights_fallen))
      else
      (cb2 (f_X2_alone s_nights_many s_nights_fallen s_nights_stories p1 p2) fun r22_17 o_fallen22_18 =>
        some (r22_17, o_fallen22_18)))
def f_X11_bound (s_nights_many : Int32) (s_nights_days : Nat → Int32) (p1 : Int32) (p2 : Int32) : Option (Int32) :=
    cb1 (f_X11_isWithin p1 4 400) fun r5_1 =>
    if r5_1 = 0 then
    (some ((-1)))
    else
    (cb1 (f_X11_isNightError p2) fun r12_9 =>
      if r12_9 = 0 then
      (some ((-1)))
      else
      (cb1 (f_X2_greatestOrbit s_nights_many s_nights_days p1 p2) fun r26_17 =>
        some (r26_17)))
def f_X11_there (s_lots_tens : Nat → Int32) (p1 : Int32) (p2 : Int32) : Option (Int32 × (Nat → Int32)) :=
    cb1 (f_X11_isWithin p1 0 39) fun r4_1 =>
    if r4_1 = 0 then
    (some (0, s_lots_tens))
    else
    (cb1 (f_X11_isWithin p2 0 10) fun r14_9 =>
      if r14_9 = 0 then
      (some (0, s_lots_tens))
      else
      (wrI s_lots_tens 40 p1 p2 fun g31_17 =>
        some (1, g31_17)))
def f_X11_pen_J42 (s_lots_unseen : Int32) (s_lots_best : Nat → Int32) (s_lots_chosen : Nat → Int32) (s_lots_tens : Nat → Int32) (p1 : Int32) (p2 : Int32) (p3 : Int32)  (t0_6 : Int32) : Option (Int32 × Int32 × (Nat → Int32) × (Nat → Int32)) :=
    if t0_6 = 0 then
    (some ((-1), s_lots_unseen, s_lots_best, s_lots_chosen))
    else
    (if ((p1 - 1) * p2) < 40 then
      (cb3 (f_X1_choose s_lots_unseen s_lots_best s_lots_chosen s_lots_tens p1 p2) fun o_unseen67_14 o_best67_15 o_chosen67_16 =>
        if p3 = 6 then
        (some (o_unseen67_14, o_unseen67_14, o_best67_15, o_chosen67_16))
        else
        (rdI o_chosen67_16 6 p3 fun v94_24 =>
          some (v94_24, o_unseen67_14, o_best67_15, o_chosen67_16)))
      else
      (some ((-1), s_lots_unseen, s_lots_best, s_lots_chosen)))
def f_X11_pen (s_lots_unseen : Int32) (s_lots_best : Nat → Int32) (s_lots_chosen : Nat → Int32) (s_lots_tens : Nat → Int32) (p1 : Int32) (p2 : Int32) (p3 : Int32) : Option (Int32 × Int32 × (Nat → Int32) × (Nat → Int32)) :=
    cb1 (f_X11_isWithin p1 1 6) fun r4_1 =>
    if r4_1 = 0 then
    ((f_X11_pen_J42 s_lots_unseen s_lots_best s_lots_chosen s_lots_tens p1 p2 p3 ) 0)
    else
    (cb1 (f_X11_isWithin p2 1 10) fun r14_31 =>
      if r14_31 = 0 then
      ((f_X11_pen_J42 s_lots_unseen s_lots_best s_lots_chosen s_lots_tens p1 p2 p3 ) 0)
      else
      (if p3 = 6 then
        ((f_X11_pen_J42 s_lots_unseen s_lots_best s_lots_chosen s_lots_tens p1 p2 p3 ) 1)
        else
        (cb1 (f_X11_isWithin p3 0 (p1 - 1)) fun r31_42 =>
          if r31_42 = 0 then
          ((f_X11_pen_J42 s_lots_unseen s_lots_best s_lots_chosen s_lots_tens p1 p2 p3 ) 0)
          else
          ((f_X11_pen_J42 s_lots_unseen s_lots_best s_lots_chosen s_lots_tens p1 p2 p3 ) 1))))
def f_X11_odds (p1 : Int32) (p2 : Int32) (p3 : Int32) (p4 : Int32) (p5 : Int32) : Option (Int64) :=
    cb1 (f_X11_isLook p1 p2 p3) fun r3_1 =>
    if r3_1 = 0 then
    (some ((-1)))
    else
    (cb1 (f_X11_isWithin p4 ((p1 + p2) - p3) 40) fun r18_9 =>
      if r18_9 = 0 then
      (some ((-1)))
      else
      (cb1 (f_X11_isWithin p5 0 1) fun r28_17 =>
        if r28_17 = 0 then
        (some ((-1)))
        else
        (cb1 (f_X1_drawsWith p1 p2 p3 p4) fun r43_25 =>
          cb1 (f_X1_choices p4 p2) fun r51_31 =>
          cb1 (f_X1_commonDivisor r43_25 r51_31) fun r60_37 =>
          if p5 = 0 then
          (dvL r60_37 <|
            some ((r43_25 / r60_37)))
          else
          (dvL r60_37 <|
            some ((r51_31 / r60_37))))))
def f_X11_more_L44 (p1 : Int32) (p2 : Int32) (p3 : Int32) (p4 : Int32) (p5 : Int32)  : Nat → Int32 → Int32 → Option (Int32)
  | 0, _, _ => none
  | n44 + 1, x6_30, x7_31 =>
    if 40 < x7_31 then
    (some (x6_30))
    else
    (cb1 (f_X1_drawsWith p1 p2 p3 x7_31) fun r56_35 =>
      cb1 (f_X1_choices x7_31 p2) fun r66_40 =>
      if (lg_cmp (r56_35 * 1000) (r66_40 * (Int32.toInt64 p4))) < 0 then
      (nmI (x7_31 + 1) fun v89_48 =>
        (f_X11_more_L44 p1 p2 p3 p4 p5  n44) x6_30 v89_48)
      else
      (if p5 = 0 then
        (some (x7_31))
        else
        (nmI (x7_31 + 1) fun v89_56 =>
          (f_X11_more_L44 p1 p2 p3 p4 p5  n44) x7_31 v89_56)))
def f_X11_more (p1 : Int32) (p2 : Int32) (p3 : Int32) (p4 : Int32) (p5 : Int32) : Option (Int32) :=
    cb1 (f_X11_isLook p1 p2 p3) fun r3_1 =>
    if r3_1 = 0 then
    (some ((-1)))
    else
    (cb1 (f_X11_isWithin p4 1 1000) fun r15_9 =>
      if r15_9 = 0 then
      (some ((-1)))
      else
      (cb1 (f_X11_isWithin p5 0 1) fun r25_17 =>
        if r25_17 = 0 then
        (some ((-1)))
        else
        (nmI ((p1 + p2) - p3) fun v42_26 =>
          (f_X11_more_L44 p1 p2 p3 p4 p5  FU) (-2) v42_26)))
def f_X11_check (s_page_readers : Int32) (s_page_day : Int32) (s_sky_many : Int32) (s_tape_length : Int32) (s_ways : Nat → Option Nat) (s_page_heights : Nat → Int32) (s_page_highest : Nat → Int32) (s_page_marked : Nat → Int32) (s_page_shapes : Nat → Int32) (s_sky_sources : Nat → Option Nat) (s_page_reckoner_letters : Nat → Int32) (p1 : Int32) (p2 : Int32) (p3 : Int32) : Option (Int32 × Int32 × Int32 × Int32 × (Nat → Int32) × (Nat → Int32) × (Nat → Int32) × (Nat → Int32) × (Nat → Int32)) :=
    cb1 (f_X11_isReader p1) fun r1_1 =>
    if r1_1 = 0 then
    (some ((-2), s_page_readers, s_page_day, s_tape_length, s_page_heights, s_page_highest, s_page_marked, s_page_shapes, s_page_reckoner_letters))
    else
    (cb1 (f_X11_isDay p2) fun r8_9 =>
      if r8_9 = 0 then
      (some ((-2), s_page_readers, s_page_day, s_tape_length, s_page_heights, s_page_highest, s_page_marked, s_page_shapes, s_page_reckoner_letters))
      else
      (cb1 (f_X11_isWithin p3 0 (s_tape_length / 12)) fun r26_17 =>
        if r26_17 = 0 then
        (some ((-2), s_page_readers, s_page_day, s_tape_length, s_page_heights, s_page_highest, s_page_marked, s_page_shapes, s_page_reckoner_letters))
        else
        (cb5 (f_X7_lay s_sky_many s_page_readers s_page_day s_page_heights s_page_highest s_page_shapes s_sky_sources p2) fun o_p1_readers44_25 o_p1_day44_26 o_p1_heights44_27 o_p1_highest44_28 o_p1_shapes44_29 =>
          rdN s_ways 4 p1 <|
          cb3 (f_X4_read o_p1_readers44_25 o_p1_day44_26 o_p1_heights44_27 s_page_marked o_p1_shapes44_29 s_page_reckoner_letters p1) fun o_readers58_37 o_marked58_38 o_reckoner_letters58_39 =>
          cb1 (f_X4_firstWrong o_marked58_38 p1 p3) fun r71_44 =>
          cb1 (f_X9_clear s_tape_length) fun o_length80_50 =>
          some (r71_44, o_readers58_37, o_p1_day44_26, o_length80_50, o_p1_heights44_27, o_p1_highest44_28, o_marked58_38, o_p1_shapes44_29, o_reckoner_letters58_39))))
def f_X11_count (s_blips_many : Int32) (s_nights_many : Int32) (s_notes_many : Int32) (s_sky_many : Int32) (s_sky_seed : Int32) (s_tape_length : Int32) (s_ways : Nat → Option Nat) (s_nights_stories : Nat → Option Nat) (s_sky_sources : Nat → Option Nat) (p1 : Int32) : Option (Int32) :=
    if p1 = 0 then (some (s_sky_many))
    else if p1 = 1 then (some (s_notes_many))
    else if p1 = 2 then (some (s_blips_many))
    else if p1 = 3 then (some (s_nights_many))
    else if p1 = 4 then (some (s_sky_seed))
    else if p1 = 5 then (some (s_tape_length))
    else (cb1 (f_X11_textCount s_sky_many s_ways s_nights_stories s_sky_sources p1) fun r90_19 =>
      some (r90_19))
def f_X11_source_J41 (s_page_day : Int32) (s_sky_many : Int32) (p1 : Int32)  (t0_6 : Int32) : Option (Int32 × Int32 × Int32) :=
    if t0_6 = 0 then
    (some ((-1), s_page_day, s_sky_many))
    else
    (if s_sky_many < 10 then
      (cb1 (f_X4_forget s_page_day) fun o_day66_14 =>
        bo p1 <|
        cb2 (f_X7_add s_sky_many) fun r94_24 o_many94_25 =>
        some (r94_24, o_day66_14, o_many94_25))
      else
      (some ((-1), s_page_day, s_sky_many)))
def f_X11_source (s_page_day : Int32) (s_sky_many : Int32) (p1 : Int32) (p2 : Int32) (p3 : Int32) (p4 : Int32) (p5 : Int32) : Option (Int32 × Int32 × Int32) :=
    cb1 (f_X11_isMinute p2) fun r1_1 =>
    if r1_1 = 0 then
    ((f_X11_source_J41 s_page_day s_sky_many p1 ) 0)
    else
    (cb1 (f_X11_isWithin p3 0 30) fun r11_34 =>
      if r11_34 = 0 then
      ((f_X11_source_J41 s_page_day s_sky_many p1 ) 0)
      else
      (cb1 (f_X11_isShape p4) fun r19_42 =>
        if r19_42 = 0 then
        ((f_X11_source_J41 s_page_day s_sky_many p1 ) 0)
        else
        (cb1 (f_X11_isWithin p5 0 127) fun r30_50 =>
          if r30_50 = 0 then
          ((f_X11_source_J41 s_page_day s_sky_many p1 ) 0)
          else
          ((f_X11_source_J41 s_page_day s_sky_many p1 ) 1))))
def f_X12_lies (p1 : Int64) (p2 : Int64) (p3 : Int64) : Option (Int32) :=
    if (lg_cmp p1 p2) < 0 then
    (some (0))
    else
    (if 0 < (lg_cmp p1 p3) then
      (some (0))
      else
      (some (1)))
def f_X12_push_L3 (p1 : Int32)  : Nat → Int32 → Int32 → (Nat → Int32) → Option (Int32 × (Nat → Int32))
  | 0, _, _, _ => none
  | n3 + 1, x2_2, taped__3, tape__4 =>
    if x2_2 < 0 then
    (some (taped__3, tape__4))
    else
    (nmI (ji2b (jshr p1 x2_2)) fun v19_8 =>
      wrB tape__4 200 taped__3 v19_8 fun g19_11 =>
      nmI (taped__3 + 1) fun v27_16 =>
      nmI (x2_2 + (-8)) fun v30_20 =>
      (f_X12_push_L3 p1  n3) v30_20 v27_16 g19_11)
def f_X12_push (s_taped : Int32) (s_tape : Nat → Int32) (p1 : Int32) : Option (Int32 × (Nat → Int32)) :=
    (f_X12_push_L3 p1  FU) 24 s_taped s_tape
def f_X12_feed (s_taped : Int32) (s_tape : Nat → Int32) (p1 : Int32) (p2 : Int32) (p3 : Int32) (p4 : Int32) (p5 : Int32) : Option (Int32 × Int32 × (Nat → Int32)) :=
    if (s_taped + 20) ≤ 200 then
    (cb2 (f_X12_push s_taped s_tape p1) fun o_taped17_4 o_tape17_5 =>
      cb2 (f_X12_push o_taped17_4 o_tape17_5 p2) fun o_taped22_10 o_tape22_11 =>
      cb2 (f_X12_push o_taped22_10 o_tape22_11 p3) fun o_taped27_16 o_tape27_17 =>
      cb2 (f_X12_push o_taped27_16 o_tape27_17 p4) fun o_taped33_22 o_tape33_23 =>
      cb2 (f_X12_push o_taped33_22 o_tape33_23 p5) fun o_taped39_28 o_tape39_29 =>
      some (o_taped39_28, o_taped39_28, o_tape39_29))
    else
    (some ((-1), s_taped, s_tape))
def f_X12_isSource (s_sources : Int32) (p1 : Int32) : Option (Int32) :=
    cb1 (f_X12_lies (Int32.toInt64 p1) 0 (Int32.toInt64 (s_sources - 1))) fun r10_1 =>
    bo r10_1 <|
    some (r10_1)
def f_X12_isReader (p1 : Int32) : Option (Int32) :=
    cb1 (f_X12_lies (Int32.toInt64 p1) 0 3) fun r6_1 =>
    bo r6_1 <|
    some (r6_1)
def f_X12_canRead (s_taped : Int32) (p1 : Int32) (p2 : Int32) : Option (Int32) :=
    cb1 (f_X12_lies (Int32.toInt64 p1) 1 (Int32.toInt64 p2)) fun r5_1 =>
    if r5_1 = 0 then
    (some (0))
    else
    (if s_taped < p1 then
      (some (0))
      else
      (some (1)))
def f_X12_law (s_taped : Int32) (s_sources : Int32) (p1 : Int32) (p2 : Int32) : Option (Int32) :=
    cb1 (f_X12_isSource s_sources p1) fun r2_1 =>
    if r2_1 = 0 then
    (some ((-1)))
    else
    (cb1 (f_X12_canRead s_taped p2 120) fun r12_9 =>
      if r12_9 = 0 then
      (some ((-1)))
      else
      (none))
def f_X12_way (s_taped : Int32) (p1 : Int32) (p2 : Int32) : Option (Int32) :=
    cb1 (f_X12_isReader p1) fun r1_1 =>
    if r1_1 = 0 then
    (some ((-1)))
    else
    (cb1 (f_X12_canRead s_taped p2 120) fun r11_9 =>
      if r11_9 = 0 then
      (some ((-1)))
      else
      (none))
def f_X12_isTale (p1 : Int32) : Option (Int32) :=
    cb1 (f_X12_lies (Int32.toInt64 p1) 0 5) fun r6_1 =>
    bo r6_1 <|
    some (r6_1)
def f_X12_story (s_taped : Int32) (p1 : Int32) (p2 : Int32) : Option (Int32) :=
    cb1 (f_X12_isTale p1) fun r1_1 =>
    if r1_1 = 0 then
    (some ((-1)))
    else
    (cb1 (f_X12_canRead s_taped p2 60) fun r11_9 =>
      if r11_9 = 0 then
      (some ((-1)))
      else
      (none))
def f_X12_clears (s_atA : Int32) (s_atB : Int32) (s_atD : Int32) (s_atF : Int32) (s_atG : Int32) (s_atH : Int32) (s_atL : Int32) (s_atM : Int32) (s_atN : Int32) (s_atS : Int32) (s_atT : Int32) (s_atU : Int32) (s_atX : Int32) : Option (Int32 × Int32 × Int32 × Int32 × Int32 × Int32 × Int32 × Int32 × Int32 × Int32 × Int32 × Int32 × Int32) :=
    some (0, 0, 0, 0, 0, 0, 0, 0, 0, 0, 0, 0, 0)
def f_X12_isDay (p1 : Int32) : Option (Int32) :=
    cb1 (f_X12_lies (Int32.toInt64 p1) 0 399) fun r6_1 =>
    bo r6_1 <|
    some (r6_1)
def f_X12_isMinute (p1 : Int32) : Option (Int32) :=
    cb1 (f_X12_lies (Int32.toInt64 p1) 0 1439) fun r6_1 =>
    bo r6_1 <|
    some (r6_1)
def f_X12_source (s_sources : Int32) (s_byStar : Nat → Int32) (s_minuteOf : Nat → Int32) (s_shape : Nat → Int32) (s_weekdays : Nat → Int32) (s_wide : Nat → Int32) (p1 : Int32) (p2 : Int32) (p3 : Int32) (p4 : Int32) (p5 : Int32) : Option (Int32 × Int32 × (Nat → Int32) × (Nat → Int32) × (Nat → Int32) × (Nat → Int32) × (Nat → Int32)) :=
    if s_sources = 10 then
    (some ((-1), s_sources, s_byStar, s_minuteOf, s_shape, s_weekdays, s_wide))
    else
    (cb1 (f_X12_isMinute p2) fun r10_4 =>
      if r10_4 = 0 then
      (some ((-1), s_sources, s_byStar, s_minuteOf, s_shape, s_weekdays, s_wide))
      else
      (cb1 (f_X12_lies (Int32.toInt64 p3) 0 30) fun r22_12 =>
        if r22_12 = 0 then
        (some ((-1), s_sources, s_byStar, s_minuteOf, s_shape, s_weekdays, s_wide))
        else
        (cb1 (f_X12_lies (Int32.toInt64 p4) 0 3) fun r35_20 =>
          if r35_20 = 0 then
          (some ((-1), s_sources, s_byStar, s_minuteOf, s_shape, s_weekdays, s_wide))
          else
          (cb1 (f_X12_lies (Int32.toInt64 p5) 0 127) fun r48_28 =>
            if r48_28 = 0 then
            (some ((-1), s_sources, s_byStar, s_minuteOf, s_shape, s_weekdays, s_wide))
            else
            (wrZ s_byStar 10 s_sources p1 fun g65_36 =>
              wrI s_minuteOf 10 s_sources p2 fun g75_41 =>
              wrI s_wide 10 s_sources p3 fun g85_46 =>
              wrI s_shape 10 s_sources p4 fun g96_51 =>
              wrI s_weekdays 10 s_sources p5 fun g107_56 =>
              nmI (s_sources + 1) fun v115_61 =>
              some ((v115_61 - 1), v115_61, g65_36, g75_41, g96_51, g107_56, g85_46))))))
def f_X12_seed (s_seed : Int32) (p1 : Int32) : Option (Int32 × Int32) :=
    cb1 (f_X12_lies (Int32.toInt64 p1) 0 999) fun r6_1 =>
    if r6_1 = 0 then
    (some (0, s_seed))
    else
    (some (1, p1))
def f_X12_starAt (p1 : Int32) (p2 : Int32) : Option (Int32) :=
    some ((jrem (p2 + (4 * p1)) 1440))
def f_X12_star (p1 : Int32) (p2 : Int32) : Option (Int32) :=
    cb1 (f_X12_isDay p1) fun r1_1 =>
    if r1_1 = 0 then
    (some ((-1)))
    else
    (cb1 (f_X12_isMinute p2) fun r8_9 =>
      if r8_9 = 0 then
      (some ((-1)))
      else
      (cb1 (f_X12_starAt p1 p2) fun r16_17 =>
        some (r16_17)))
def f_X12_height (s_sources : Int32) (p1 : Int32) (p2 : Int32) (p3 : Int32) : Option (Int32) :=
    cb1 (f_X12_isSource s_sources p1) fun r2_1 =>
    if r2_1 = 0 then
    (some ((-1)))
    else
    (cb1 (f_X12_isDay p2) fun r9_9 =>
      if r9_9 = 0 then
      (some ((-1)))
      else
      (cb1 (f_X12_isMinute p3) fun r16_17 =>
        if r16_17 = 0 then
        (some ((-1)))
        else
        (none)))
def f_X12_looks (s_sources : Int32) (s_paperHigh : Int32) (s_paperShape : Int32) (p1 : Int32) (p2 : Int32) : Option (Int32 × Int32) :=
    if s_sources ≤ 0 then
    (some (0, 4))
    else
    (none)
def f_X12_paper (s_sources : Int32) (s_paperHigh : Int32) (s_paperShape : Int32) (p1 : Int32) (p2 : Int32) (p3 : Int32) : Option (Int32 × Int32 × Int32) :=
    cb1 (f_X12_isDay p1) fun r1_1 =>
    if r1_1 = 0 then
    (some ((-1), s_paperHigh, s_paperShape))
    else
    (cb1 (f_X12_isMinute p2) fun r8_9 =>
      if r8_9 = 0 then
      (some ((-1), s_paperHigh, s_paperShape))
      else
      (cb1 (f_X12_lies (Int32.toInt64 p3) 0 1) fun r18_17 =>
        if r18_17 = 0 then
        (some ((-1), s_paperHigh, s_paperShape))
        else
        (cb2 (f_X12_looks s_sources s_paperHigh s_paperShape p1 p2) fun o_paperHigh29_25 o_paperShape29_26 =>
          if p3 = 0 then
          (some (o_paperHigh29_25, o_paperHigh29_25, o_paperShape29_26))
          else
          (some (o_paperShape29_26, o_paperHigh29_25, o_paperShape29_26)))))
def f_X12_lays_L2 (s_sources : Int32) (p1 : Int32)  : Nat → Int32 → Int32 → Int32 → (Nat → Int32) → (Nat → Int32) → Option (Int32 × Int32 × (Nat → Int32) × (Nat → Int32))
  | 0, _, _, _, _, _ => none
  | n2 + 1, x2_2, paperHigh__3, paperShape__4, highAt__5, shapeAt__6 =>
    if 1440 ≤ x2_2 then
    (some (paperHigh__3, paperShape__4, highAt__5, shapeAt__6))
    else
    (cb2 (f_X12_looks s_sources paperHigh__3 paperShape__4 p1 x2_2) fun o_paperHigh12_10 o_paperShape12_11 =>
      wrI highAt__5 1440 x2_2 o_paperHigh12_10 fun g24_16 =>
      wrI shapeAt__6 1440 x2_2 o_paperShape12_11 fun g34_21 =>
      nmI (x2_2 + 1) fun v35_26 =>
      (f_X12_lays_L2 s_sources p1  n2) v35_26 o_paperHigh12_10 o_paperShape12_11 g24_16 g34_21)
def f_X12_lays (s_sources : Int32) (s_paperHigh : Int32) (s_paperShape : Int32) (s_highAt : Nat → Int32) (s_shapeAt : Nat → Int32) (p1 : Int32) : Option (Int32 × Int32 × (Nat → Int32) × (Nat → Int32)) :=
    (f_X12_lays_L2 s_sources p1  FU) 0 s_paperHigh s_paperShape s_highAt s_shapeAt
def f_X12_isMarked_J94 (s_many : Nat → Int32) (s_shapeAt : Nat → Int32) (p1 : Int32) (p2 : Int32) (p3 : Int32) (p4 : Int32) (o_atA1_1 : Int32) (o_atN1_9 : Int32) (o_atU1_12 : Int32) (o_atX1_13 : Int32) (v10_18 : Int32) (t1_23 : Int32)  (atG__27 : Int32) : Option (Int32 × Int32 × Int32 × Int32 × Int32 × Int32 × Int32 × Int32 × Int32 × Int32 × Int32 × Int32 × Int32 × Int32) :=
    rdI s_shapeAt 1440 p3 fun v100_28 =>
    cb1 (f_X12_starAt p2 p3) fun r112_34 =>
    nmI (jrem p2 7) fun v128_41 =>
    nmI (12 * (10 + p1)) fun v144_46 =>
    rdI s_many 20 (10 + p1) fun v163_50 =>
    if ((12 * (10 + p1)) + v163_50) ≤ v144_46 then
    (some (0, o_atA1_1, t1_23, p2, v128_41, atG__27, v10_18, v100_28, p3, o_atN1_9, r112_34, p4, o_atU1_12, o_atX1_13))
    else
    (none)
def f_X12_isMarked_L50 (s_highAt : Nat → Int32) (p3 : Int32) (K94 : Int32 → Option (Int32 × Int32 × Int32 × Int32 × Int32 × Int32 × Int32 × Int32 × Int32 × Int32 × Int32 × Int32 × Int32 × Int32)) : Nat → Int32 → Int32 → Option (Int32 × Int32 × Int32 × Int32 × Int32 × Int32 × Int32 × Int32 × Int32 × Int32 × Int32 × Int32 × Int32 × Int32)
  | 0, _, _ => none
  | n50 + 1, x5_57, atG__58 =>
    if p3 ≤ x5_57 then
    (K94 atG__58)
    else
    (rdI s_highAt 1440 x5_57 fun v63_62 =>
      if v63_62 ≤ atG__58 then
      (nmI (x5_57 + 1) fun v88_70 =>
        (f_X12_isMarked_L50 s_highAt p3 K94 n50) v88_70 atG__58)
      else
      (rdI s_highAt 1440 x5_57 fun v77_74 =>
        nmI (x5_57 + 1) fun v88_79 =>
        (f_X12_isMarked_L50 s_highAt p3 K94 n50) v88_79 v77_74))
def f_X12_isMarked_J48 (s_highAt : Nat → Int32) (s_many : Nat → Int32) (s_shapeAt : Nat → Int32) (p1 : Int32) (p2 : Int32) (p3 : Int32) (p4 : Int32) (o_atA1_1 : Int32) (o_atG1_5 : Int32) (o_atN1_9 : Int32) (o_atU1_12 : Int32) (o_atX1_13 : Int32) (v10_18 : Int32) (t1_23 : Int32)  (t0_25 : Int32) : Option (Int32 × Int32 × Int32 × Int32 × Int32 × Int32 × Int32 × Int32 × Int32 × Int32 × Int32 × Int32 × Int32 × Int32) :=
    (f_X12_isMarked_L50 s_highAt p3 (f_X12_isMarked_J94 s_many s_shapeAt p1 p2 p3 p4 o_atA1_1 o_atN1_9 o_atU1_12 o_atX1_13 v10_18 t1_23 ) FU) t0_25 o_atG1_5
def f_X12_isMarked_J31 (s_highAt : Nat → Int32) (s_many : Nat → Int32) (s_shapeAt : Nat → Int32) (p1 : Int32) (p2 : Int32) (p3 : Int32) (p4 : Int32) (o_atA1_1 : Int32) (o_atG1_5 : Int32) (o_atN1_9 : Int32) (o_atU1_12 : Int32) (o_atX1_13 : Int32) (v10_18 : Int32)  (t1_23 : Int32) : Option (Int32 × Int32 × Int32 × Int32 × Int32 × Int32 × Int32 × Int32 × Int32 × Int32 × Int32 × Int32 × Int32 × Int32) :=
    if 10 ≤ p3 then
    ((f_X12_isMarked_J48 s_highAt s_many s_shapeAt p1 p2 p3 p4 o_atA1_1 o_atG1_5 o_atN1_9 o_atU1_12 o_atX1_13 v10_18 t1_23 ) (p3 - 10))
    else
    ((f_X12_isMarked_J48 s_highAt s_many s_shapeAt p1 p2 p3 p4 o_atA1_1 o_atG1_5 o_atN1_9 o_atU1_12 o_atX1_13 v10_18 t1_23 ) 0)
def f_X12_isMarked (s_atA : Int32) (s_atB : Int32) (s_atD : Int32) (s_atF : Int32) (s_atG : Int32) (s_atH : Int32) (s_atL : Int32) (s_atM : Int32) (s_atN : Int32) (s_atS : Int32) (s_atT : Int32) (s_atU : Int32) (s_atX : Int32) (s_highAt : Nat → Int32) (s_many : Nat → Int32) (s_shapeAt : Nat → Int32) (p1 : Int32) (p2 : Int32) (p3 : Int32) (p4 : Int32) : Option (Int32 × Int32 × Int32 × Int32 × Int32 × Int32 × Int32 × Int32 × Int32 × Int32 × Int32 × Int32 × Int32 × Int32) :=
    cb13 (f_X12_clears s_atA s_atB s_atD s_atF s_atG s_atH s_atL s_atM s_atN s_atS s_atT s_atU s_atX) fun o_atA1_1 o_atB1_2 o_atD1_3 o_atF1_4 o_atG1_5 o_atH1_6 o_atL1_7 o_atM1_8 o_atN1_9 o_atS1_10 o_atT1_11 o_atU1_12 o_atX1_13 =>
    rdI s_highAt 1440 p3 fun v10_18 =>
    if p3 = 0 then
    ((f_X12_isMarked_J31 s_highAt s_many s_shapeAt p1 p2 p3 p4 o_atA1_1 o_atG1_5 o_atN1_9 o_atU1_12 o_atX1_13 v10_18 ) 0)
    else
    (rdI s_highAt 1440 (p3 - 1) fun v30_89 =>
      (f_X12_isMarked_J31 s_highAt s_many s_shapeAt p1 p2 p3 p4 o_atA1_1 o_atG1_5 o_atN1_9 o_atU1_12 o_atX1_13 v10_18 ) v30_89)
def f_X12_goesOver_J160 (s_marked : Nat → Int32) (p3 : Int32)  (x4_4 : Int32) (atA__5 : Int32) (atB__6 : Int32) (atD__7 : Int32) (atF__8 : Int32) (atG__9 : Int32) (atH__10 : Int32) (atL__11 : Int32) (atM__12 : Int32) (atN__13 : Int32) (atS__14 : Int32) (atT__15 : Int32) (atU__16 : Int32) (atX__17 : Int32) (first__18 : Nat → Int32) (greatest__19 : Nat → Int32) (last__20 : Nat → Int32) : Option (Int32 × Int32 × Int32 × Int32 × Int32 × Int32 × Int32 × Int32 × Int32 × Int32 × Int32 × Int32 × Int32 × (Nat → Int32) × (Nat → Int32) × (Nat → Int32) × (Nat → Int32)) :=
    wrI s_marked 2 p3 x4_4 fun g167_21 =>
    some (atA__5, atB__6, atD__7, atF__8, atG__9, atH__10, atL__11, atM__12, atN__13, atS__14, atT__15, atU__16, atX__17, first__18, greatest__19, last__20, g167_21)
def f_X12_goesOver_J149 (x6_28 : Int32) (r36_49 : Int32) (o_atA36_50 : Int32) (o_atB36_51 : Int32) (o_atD36_52 : Int32) (o_atF36_53 : Int32) (o_atG36_54 : Int32) (o_atH36_55 : Int32) (o_atL36_56 : Int32) (o_atM36_57 : Int32) (o_atN36_58 : Int32) (o_atS36_59 : Int32) (o_atT36_60 : Int32) (o_atU36_61 : Int32) (o_atX36_62 : Int32) (x4_68 : Int32) (first__69 : Nat → Int32) (greatest__70 : Nat → Int32) (v98_79 : Int32) (g108_83 : Nat → Int32) (K9 : Int32 → Int32 → Int32 → Int32 → Int32 → Int32 → Int32 → Int32 → Int32 → Int32 → Int32 → Int32 → Int32 → Int32 → Int32 → Int32 → (Nat → Int32) → (Nat → Int32) → (Nat → Int32) → Option (Int32 × Int32 × Int32 × Int32 × Int32 × Int32 × Int32 × Int32 × Int32 × Int32 × Int32 × Int32 × Int32 × (Nat → Int32) × (Nat → Int32) × (Nat → Int32) × (Nat → Int32))) (t2_96 : Int32) : Option (Int32 × Int32 × Int32 × Int32 × Int32 × Int32 × Int32 × Int32 × Int32 × Int32 × Int32 × Int32 × Int32 × (Nat → Int32) × (Nat → Int32) × (Nat → Int32) × (Nat → Int32)) :=
    wrI greatest__70 1440 v98_79 t2_96 fun g149_97 =>
    nmI (x6_28 + 1) fun v154_103 =>
    K9 x4_68 r36_49 v154_103 o_atA36_50 o_atB36_51 o_atD36_52 o_atF36_53 o_atG36_54 o_atH36_55 o_atL36_56 o_atM36_57 o_atN36_58 o_atS36_59 o_atT36_60 o_atU36_61 o_atX36_62 first__69 g149_97 g108_83
def f_X12_goesOver_J83 (s_highAt : Nat → Int32) (p3 : Int32) (x6_28 : Int32) (last__44 : Nat → Int32) (r36_49 : Int32) (o_atA36_50 : Int32) (o_atB36_51 : Int32) (o_atD36_52 : Int32) (o_atF36_53 : Int32) (o_atG36_54 : Int32) (o_atH36_55 : Int32) (o_atL36_56 : Int32) (o_atM36_57 : Int32) (o_atN36_58 : Int32) (o_atS36_59 : Int32) (o_atT36_60 : Int32) (o_atU36_61 : Int32) (o_atX36_62 : Int32) (K9 : Int32 → Int32 → Int32 → Int32 → Int32 → Int32 → Int32 → Int32 → Int32 → Int32 → Int32 → Int32 → Int32 → Int32 → Int32 → Int32 → (Nat → Int32) → (Nat → Int32) → (Nat → Int32) → Option (Int32 × Int32 × Int32 × Int32 × Int32 × Int32 × Int32 × Int32 × Int32 × Int32 × Int32 × Int32 × Int32 × (Nat → Int32) × (Nat → Int32) × (Nat → Int32) × (Nat → Int32))) (x4_68 : Int32) (first__69 : Nat → Int32) (greatest__70 : Nat → Int32) : Option (Int32 × Int32 × Int32 × Int32 × Int32 × Int32 × Int32 × Int32 × Int32 × Int32 × Int32 × Int32 × Int32 × (Nat → Int32) × (Nat → Int32) × (Nat → Int32) × (Nat → Int32)) :=
    if r36_49 = 0 then
    (nmI (x6_28 + 1) fun v154_75 =>
      K9 x4_68 r36_49 v154_75 o_atA36_50 o_atB36_51 o_atD36_52 o_atF36_53 o_atG36_54 o_atH36_55 o_atL36_56 o_atM36_57 o_atN36_58 o_atS36_59 o_atT36_60 o_atU36_61 o_atX36_62 first__69 greatest__70 last__44)
    else
    (nmI (((720 * p3) + x4_68) - 1) fun v98_79 =>
      wrI last__44 1440 v98_79 x6_28 fun g108_83 =>
      rdI s_highAt 1440 x6_28 fun v121_88 =>
      rdI greatest__70 1440 v98_79 fun v128_92 =>
      if v121_88 ≤ v128_92 then
      (rdI greatest__70 1440 v98_79 fun v148_110 =>
        (f_X12_goesOver_J149 x6_28 r36_49 o_atA36_50 o_atB36_51 o_atD36_52 o_atF36_53 o_atG36_54 o_atH36_55 o_atL36_56 o_atM36_57 o_atN36_58 o_atS36_59 o_atT36_60 o_atU36_61 o_atX36_62 x4_68 first__69 greatest__70 v98_79 g108_83 K9) v148_110)
      else
      (rdI s_highAt 1440 x6_28 fun v138_114 =>
        (f_X12_goesOver_J149 x6_28 r36_49 o_atA36_50 o_atB36_51 o_atD36_52 o_atF36_53 o_atG36_54 o_atH36_55 o_atL36_56 o_atM36_57 o_atN36_58 o_atS36_59 o_atT36_60 o_atU36_61 o_atX36_62 x4_68 first__69 greatest__70 v98_79 g108_83 K9) v138_114))
def f_X12_goesOver_J36 (s_highAt : Nat → Int32) (s_many : Nat → Int32) (s_shapeAt : Nat → Int32) (p1 : Int32) (p2 : Int32) (p3 : Int32) (x4_26 : Int32) (x5_27 : Int32) (x6_28 : Int32) (atA__29 : Int32) (atB__30 : Int32) (atD__31 : Int32) (atF__32 : Int32) (atG__33 : Int32) (atH__34 : Int32) (atL__35 : Int32) (atM__36 : Int32) (atN__37 : Int32) (atS__38 : Int32) (atT__39 : Int32) (atU__40 : Int32) (atX__41 : Int32) (first__42 : Nat → Int32) (greatest__43 : Nat → Int32) (last__44 : Nat → Int32) (K9 : Int32 → Int32 → Int32 → Int32 → Int32 → Int32 → Int32 → Int32 → Int32 → Int32 → Int32 → Int32 → Int32 → Int32 → Int32 → Int32 → (Nat → Int32) → (Nat → Int32) → (Nat → Int32) → Option (Int32 × Int32 × Int32 × Int32 × Int32 × Int32 × Int32 × Int32 × Int32 × Int32 × Int32 × Int32 × Int32 × (Nat → Int32) × (Nat → Int32) × (Nat → Int32) × (Nat → Int32))) (t4_48 : Int32) : Option (Int32 × Int32 × Int32 × Int32 × Int32 × Int32 × Int32 × Int32 × Int32 × Int32 × Int32 × Int32 × Int32 × (Nat → Int32) × (Nat → Int32) × (Nat → Int32) × (Nat → Int32)) :=
    cb14 (f_X12_isMarked atA__29 atB__30 atD__31 atF__32 atG__33 atH__34 atL__35 atM__36 atN__37 atS__38 atT__39 atU__40 atX__41 s_highAt s_many s_shapeAt p1 p2 x6_28 t4_48) fun r36_49 o_atA36_50 o_atB36_51 o_atD36_52 o_atF36_53 o_atG36_54 o_atH36_55 o_atL36_56 o_atM36_57 o_atN36_58 o_atS36_59 o_atT36_60 o_atU36_61 o_atX36_62 =>
    if r36_49 = 0 then
    ((f_X12_goesOver_J83 s_highAt p3 x6_28 last__44 r36_49 o_atA36_50 o_atB36_51 o_atD36_52 o_atF36_53 o_atG36_54 o_atH36_55 o_atL36_56 o_atM36_57 o_atN36_58 o_atS36_59 o_atT36_60 o_atU36_61 o_atX36_62 K9) x4_26 first__42 greatest__43)
    else
    (if x5_27 = 0 then
      (wrI first__42 1440 ((720 * p3) + x4_26) x6_28 fun g65_124 =>
        wrI greatest__43 1440 ((720 * p3) + x4_26) 0 fun g79_129 =>
        nmI (x4_26 + 1) fun v80_134 =>
        (f_X12_goesOver_J83 s_highAt p3 x6_28 last__44 r36_49 o_atA36_50 o_atB36_51 o_atD36_52 o_atF36_53 o_atG36_54 o_atH36_55 o_atL36_56 o_atM36_57 o_atN36_58 o_atS36_59 o_atT36_60 o_atU36_61 o_atX36_62 K9) v80_134 g65_124 g79_129)
      else
      ((f_X12_goesOver_J83 s_highAt p3 x6_28 last__44 r36_49 o_atA36_50 o_atB36_51 o_atD36_52 o_atF36_53 o_atG36_54 o_atH36_55 o_atL36_56 o_atM36_57 o_atN36_58 o_atS36_59 o_atT36_60 o_atU36_61 o_atX36_62 K9) x4_26 first__42 greatest__43))
def f_X12_goesOver_L9 (s_highAt : Nat → Int32) (s_many : Nat → Int32) (s_shapeAt : Nat → Int32) (p1 : Int32) (p2 : Int32) (p3 : Int32) (K160 : Int32 → Int32 → Int32 → Int32 → Int32 → Int32 → Int32 → Int32 → Int32 → Int32 → Int32 → Int32 → Int32 → Int32 → (Nat → Int32) → (Nat → Int32) → (Nat → Int32) → Option (Int32 × Int32 × Int32 × Int32 × Int32 × Int32 × Int32 × Int32 × Int32 × Int32 × Int32 × Int32 × Int32 × (Nat → Int32) × (Nat → Int32) × (Nat → Int32) × (Nat → Int32))) : Nat → Int32 → Int32 → Int32 → Int32 → Int32 → Int32 → Int32 → Int32 → Int32 → Int32 → Int32 → Int32 → Int32 → Int32 → Int32 → Int32 → (Nat → Int32) → (Nat → Int32) → (Nat → Int32) → Option (Int32 × Int32 × Int32 × Int32 × Int32 × Int32 × Int32 × Int32 × Int32 × Int32 × Int32 × Int32 × Int32 × (Nat → Int32) × (Nat → Int32) × (Nat → Int32) × (Nat → Int32))
  | 0, _, _, _, _, _, _, _, _, _, _, _, _, _, _, _, _, _, _, _ => none
  | n9 + 1, x4_26, x5_27, x6_28, atA__29, atB__30, atD__31, atF__32, atG__33, atH__34, atL__35, atM__36, atN__37, atS__38, atT__39, atU__40, atX__41, first__42, greatest__43, last__44 =>
    if 1440 ≤ x6_28 then
    (K160 x4_26 atA__29 atB__30 atD__31 atF__32 atG__33 atH__34 atL__35 atM__36 atN__37 atS__38 atT__39 atU__40 atX__41 first__42 greatest__43 last__44)
    else
    (if x5_27 = 0 then
      ((f_X12_goesOver_J36 s_highAt s_many s_shapeAt p1 p2 p3 x4_26 x5_27 x6_28 atA__29 atB__30 atD__31 atF__32 atG__33 atH__34 atL__35 atM__36 atN__37 atS__38 atT__39 atU__40 atX__41 first__42 greatest__43 last__44 (f_X12_goesOver_L9 s_highAt s_many s_shapeAt p1 p2 p3 K160 n9)) x4_26)
      else
      ((f_X12_goesOver_J36 s_highAt s_many s_shapeAt p1 p2 p3 x4_26 x5_27 x6_28 atA__29 atB__30 atD__31 atF__32 atG__33 atH__34 atL__35 atM__36 atN__37 atS__38 atT__39 atU__40 atX__41 first__42 greatest__43 last__44 (f_X12_goesOver_L9 s_highAt s_many s_shapeAt p1 p2 p3 K160 n9)) (x4_26 - 1)))
def f_X12_goesOver (s_atA : Int32) (s_atB : Int32) (s_atD : Int32) (s_atF : Int32) (s_atG : Int32) (s_atH : Int32) (s_atL : Int32) (s_atM : Int32) (s_atN : Int32) (s_atS : Int32) (s_atT : Int32) (s_atU : Int32) (s_atX : Int32) (s_first : Nat → Int32) (s_greatest : Nat → Int32) (s_highAt : Nat → Int32) (s_last : Nat → Int32) (s_many : Nat → Int32) (s_marked : Nat → Int32) (s_shapeAt : Nat → Int32) (p1 : Int32) (p2 : Int32) (p3 : Int32) : Option (Int32 × Int32 × Int32 × Int32 × Int32 × Int32 × Int32 × Int32 × Int32 × Int32 × Int32 × Int32 × Int32 × (Nat → Int32) × (Nat → Int32) × (Nat → Int32) × (Nat → Int32)) :=
    (f_X12_goesOver_L9 s_highAt s_many s_shapeAt p1 p2 p3 (f_X12_goesOver_J160 s_marked p3 ) FU) 0 0 0 s_atA s_atB s_atD s_atF s_atG s_atH s_atL s_atM s_atN s_atS s_atT s_atU s_atX s_first s_greatest s_last
def f_X12_marks (s_sources : Int32) (s_atA : Int32) (s_atB : Int32) (s_atD : Int32) (s_atF : Int32) (s_atG : Int32) (s_atH : Int32) (s_atL : Int32) (s_atM : Int32) (s_atN : Int32) (s_atS : Int32) (s_atT : Int32) (s_atU : Int32) (s_atX : Int32) (s_paperHigh : Int32) (s_paperShape : Int32) (s_first : Nat → Int32) (s_greatest : Nat → Int32) (s_highAt : Nat → Int32) (s_last : Nat → Int32) (s_many : Nat → Int32) (s_marked : Nat → Int32) (s_shapeAt : Nat → Int32) (p1 : Int32) (p2 : Int32) (p3 : Int32) : Option (Int32 × Int32 × Int32 × Int32 × Int32 × Int32 × Int32 × Int32 × Int32 × Int32 × Int32 × Int32 × Int32 × Int32 × Int32 × Int32 × (Nat → Int32) × (Nat → Int32) × (Nat → Int32) × (Nat → Int32) × (Nat → Int32) × (Nat → Int32)) :=
    cb1 (f_X12_isReader p1) fun r1_1 =>
    if r1_1 = 0 then
    (some ((-1), s_atA, s_atB, s_atD, s_atF, s_atG, s_atH, s_atL, s_atM, s_atN, s_atS, s_atT, s_atU, s_atX, s_paperHigh, s_paperShape, s_first, s_greatest, s_highAt, s_last, s_marked, s_shapeAt))
    else
    (cb1 (f_X12_isDay p2) fun r8_9 =>
      if r8_9 = 0 then
      (some ((-1), s_atA, s_atB, s_atD, s_atF, s_atG, s_atH, s_atL, s_atM, s_atN, s_atS, s_atT, s_atU, s_atX, s_paperHigh, s_paperShape, s_first, s_greatest, s_highAt, s_last, s_marked, s_shapeAt))
      else
      (if (-1) ≤ p3 then
        (cb4 (f_X12_lays s_sources s_paperHigh s_paperShape s_highAt s_shapeAt p2) fun o_paperHigh23_20 o_paperShape23_21 o_highAt23_22 o_shapeAt23_23 =>
          cb17 (f_X12_goesOver s_atA s_atB s_atD s_atF s_atG s_atH s_atL s_atM s_atN s_atS s_atT s_atU s_atX s_first s_greatest o_highAt23_22 s_last s_many s_marked o_shapeAt23_23 p1 p2 0) fun o_atA30_28 o_atB30_29 o_atD30_30 o_atF30_31 o_atG30_32 o_atH30_33 o_atL30_34 o_atM30_35 o_atN30_36 o_atS30_37 o_atT30_38 o_atU30_39 o_atX30_40 o_first30_41 o_greatest30_42 o_last30_43 o_marked30_44 =>
          if p3 = (-1) then
          (rdI o_marked30_44 2 0 fun v43_77 =>
            some (v43_77, o_atA30_28, o_atB30_29, o_atD30_30, o_atF30_31, o_atG30_32, o_atH30_33, o_atL30_34, o_atM30_35, o_atN30_36, o_atS30_37, o_atT30_38, o_atU30_39, o_atX30_40, o_paperHigh23_20, o_paperShape23_21, o_first30_41, o_greatest30_42, o_highAt23_22, o_last30_43, o_marked30_44, o_shapeAt23_23))
          else
          (rdI o_marked30_44 2 0 fun v53_52 =>
            if (p3 / 3) < v53_52 then
            (if (jrem p3 3) = 0 then
              (rdI o_first30_41 1440 (p3 / 3) fun v72_73 =>
                some (v72_73, o_atA30_28, o_atB30_29, o_atD30_30, o_atF30_31, o_atG30_32, o_atH30_33, o_atL30_34, o_atM30_35, o_atN30_36, o_atS30_37, o_atT30_38, o_atU30_39, o_atX30_40, o_paperHigh23_20, o_paperShape23_21, o_first30_41, o_greatest30_42, o_highAt23_22, o_last30_43, o_marked30_44, o_shapeAt23_23))
              else
              (if (jrem p3 3) = 1 then
                (rdI o_last30_43 1440 (p3 / 3) fun v90_69 =>
                  some (v90_69, o_atA30_28, o_atB30_29, o_atD30_30, o_atF30_31, o_atG30_32, o_atH30_33, o_atL30_34, o_atM30_35, o_atN30_36, o_atS30_37, o_atT30_38, o_atU30_39, o_atX30_40, o_paperHigh23_20, o_paperShape23_21, o_first30_41, o_greatest30_42, o_highAt23_22, o_last30_43, o_marked30_44, o_shapeAt23_23))
                else
                (rdI o_greatest30_42 1440 (p3 / 3) fun v101_65 =>
                  some (v101_65, o_atA30_28, o_atB30_29, o_atD30_30, o_atF30_31, o_atG30_32, o_atH30_33, o_atL30_34, o_atM30_35, o_atN30_36, o_atS30_37, o_atT30_38, o_atU30_39, o_atX30_40, o_paperHigh23_20, o_paperShape23_21, o_first30_41, o_greatest30_42, o_highAt23_22, o_last30_43, o_marked30_44, o_shapeAt23_23))))
            else
            (some ((-1), o_atA30_28, o_atB30_29, o_atD30_30, o_atF30_31, o_atG30_32, o_atH30_33, o_atL30_34, o_atM30_35, o_atN30_36, o_atS30_37, o_atT30_38, o_atU30_39, o_atX30_40, o_paperHigh23_20, o_paperShape23_21, o_first30_41, o_greatest30_42, o_highAt23_22, o_last30_43, o_marked30_44, o_shapeAt23_23))))
        else
        (some ((-1), s_atA, s_atB, s_atD, s_atF, s_atG, s_atH, s_atL, s_atM, s_atN, s_atS, s_atT, s_atU, s_atX, s_paperHigh, s_paperShape, s_first, s_greatest, s_highAt, s_last, s_marked, s_shapeAt))))
def f_X12_passed_J164 (p5 : Int32)  (atA__53 : Int32) (atB__54 : Int32) (atD__55 : Int32) (atF__56 : Int32) (atG__57 : Int32) (atH__58 : Int32) (atL__59 : Int32) (atM__60 : Int32) (atN__61 : Int32) (atS__62 : Int32) (atT__63 : Int32) (atU__64 : Int32) (atX__65 : Int32) (paperHigh__66 : Int32) (paperShape__67 : Int32) (first__68 : Nat → Int32) (greatest__69 : Nat → Int32) (highAt__70 : Nat → Int32) (last__71 : Nat → Int32) (marked__72 : Nat → Int32) (shapeAt__73 : Nat → Int32) : Option (Int32 × Int32 × Int32 × Int32 × Int32 × Int32 × Int32 × Int32 × Int32 × Int32 × Int32 × Int32 × Int32 × Int32 × Int32 × Int32 × (Nat → Int32) × (Nat → Int32) × (Nat → Int32) × (Nat → Int32) × (Nat → Int32) × (Nat → Int32)) :=
    if p5 = 0 then
    (some (0, atA__53, atB__54, atD__55, atF__56, atG__57, atH__58, atL__59, atM__60, atN__61, atS__62, atT__63, atU__64, atX__65, paperHigh__66, paperShape__67, first__68, greatest__69, highAt__70, last__71, marked__72, shapeAt__73))
    else
    (if p5 = 1 then
      (some ((-1), atA__53, atB__54, atD__55, atF__56, atG__57, atH__58, atL__59, atM__60, atN__61, atS__62, atT__63, atU__64, atX__65, paperHigh__66, paperShape__67, first__68, greatest__69, highAt__70, last__71, marked__72, shapeAt__73))
      else
      (some ((-1), atA__53, atB__54, atD__55, atF__56, atG__57, atH__58, atL__59, atM__60, atN__61, atS__62, atT__63, atU__64, atX__65, paperHigh__66, paperShape__67, first__68, greatest__69, highAt__70, last__71, marked__72, shapeAt__73)))
def f_X12_passed_L72 (s_sources : Int32) (s_many : Nat → Int32) (p1 : Int32) (p2 : Int32) (p4 : Int32) (K164 : Int32 → Int32 → Int32 → Int32 → Int32 → Int32 → Int32 → Int32 → Int32 → Int32 → Int32 → Int32 → Int32 → Int32 → Int32 → (Nat → Int32) → (Nat → Int32) → (Nat → Int32) → (Nat → Int32) → (Nat → Int32) → (Nat → Int32) → Option (Int32 × Int32 × Int32 × Int32 × Int32 × Int32 × Int32 × Int32 × Int32 × Int32 × Int32 × Int32 × Int32 × Int32 × Int32 × Int32 × (Nat → Int32) × (Nat → Int32) × (Nat → Int32) × (Nat → Int32) × (Nat → Int32) × (Nat → Int32))) : Nat → Int32 → Int32 → Int32 → Int32 → Int32 → Int32 → Int32 → Int32 → Int32 → Int32 → Int32 → Int32 → Int32 → Int32 → Int32 → Int32 → (Nat → Int32) → (Nat → Int32) → (Nat → Int32) → (Nat → Int32) → (Nat → Int32) → (Nat → Int32) → Option (Int32 × Int32 × Int32 × Int32 × Int32 × Int32 × Int32 × Int32 × Int32 × Int32 × Int32 × Int32 × Int32 × Int32 × Int32 × Int32 × (Nat → Int32) × (Nat → Int32) × (Nat → Int32) × (Nat → Int32) × (Nat → Int32) × (Nat → Int32))
  | 0, _, _, _, _, _, _, _, _, _, _, _, _, _, _, _, _, _, _, _, _, _, _ => none
  | n72 + 1, x9_80, atA__81, atB__82, atD__83, atF__84, atG__85, atH__86, atL__87, atM__88, atN__89, atS__90, atT__91, atU__92, atX__93, paperHigh__94, paperShape__95, first__96, greatest__97, highAt__98, last__99, marked__100, shapeAt__101 =>
    if p4 < x9_80 then
    (K164 atA__81 atB__82 atD__83 atF__84 atG__85 atH__86 atL__87 atM__88 atN__89 atS__90 atT__91 atU__92 atX__93 paperHigh__94 paperShape__95 first__96 greatest__97 highAt__98 last__99 marked__100 shapeAt__101)
    else
    (cb4 (f_X12_lays s_sources paperHigh__94 paperShape__95 highAt__98 shapeAt__101 x9_80) fun o_paperHigh82_105 o_paperShape82_106 o_highAt82_107 o_shapeAt82_108 =>
      cb17 (f_X12_goesOver atA__81 atB__82 atD__83 atF__84 atG__85 atH__86 atL__87 atM__88 atN__89 atS__90 atT__91 atU__92 atX__93 first__96 greatest__97 o_highAt82_107 last__99 s_many marked__100 o_shapeAt82_108 p1 x9_80 0) fun o_atA90_113 o_atB90_114 o_atD90_115 o_atF90_116 o_atG90_117 o_atH90_118 o_atL90_119 o_atM90_120 o_atN90_121 o_atS90_122 o_atT90_123 o_atU90_124 o_atX90_125 o_first90_126 o_greatest90_127 o_last90_128 o_marked90_129 =>
      cb17 (f_X12_goesOver o_atA90_113 o_atB90_114 o_atD90_115 o_atF90_116 o_atG90_117 o_atH90_118 o_atL90_119 o_atM90_120 o_atN90_121 o_atS90_122 o_atT90_123 o_atU90_124 o_atX90_125 o_first90_126 o_greatest90_127 o_highAt82_107 o_last90_128 s_many o_marked90_129 o_shapeAt82_108 p2 x9_80 1) fun o_atA98_134 o_atB98_135 o_atD98_136 o_atF98_137 o_atG98_138 o_atH98_139 o_atL98_140 o_atM98_141 o_atN98_142 o_atS98_143 o_atT98_144 o_atU98_145 o_atX98_146 o_first98_147 o_greatest98_148 o_last98_149 o_marked98_150 =>
      rdI o_marked98_150 2 1 fun v111_156 =>
      if v111_156 ≤ 0 then
      (nmI (x9_80 + 1) fun v158_163 =>
        (f_X12_passed_L72 s_sources s_many p1 p2 p4 K164 n72) v158_163 o_atA98_134 o_atB98_135 o_atD98_136 o_atF98_137 o_atG98_138 o_atH98_139 o_atL98_140 o_atM98_141 o_atN98_142 o_atS98_143 o_atT98_144 o_atU98_145 o_atX98_146 o_paperHigh82_105 o_paperShape82_106 o_first98_147 o_greatest98_148 o_highAt82_107 o_last98_149 o_marked98_150 o_shapeAt82_108)
      else
      (none))
def f_X12_passed (s_sources : Int32) (s_atA : Int32) (s_atB : Int32) (s_atD : Int32) (s_atF : Int32) (s_atG : Int32) (s_atH : Int32) (s_atL : Int32) (s_atM : Int32) (s_atN : Int32) (s_atS : Int32) (s_atT : Int32) (s_atU : Int32) (s_atX : Int32) (s_paperHigh : Int32) (s_paperShape : Int32) (s_first : Nat → Int32) (s_greatest : Nat → Int32) (s_highAt : Nat → Int32) (s_last : Nat → Int32) (s_many : Nat → Int32) (s_marked : Nat → Int32) (s_shapeAt : Nat → Int32) (p1 : Int32) (p2 : Int32) (p3 : Int32) (p4 : Int32) (p5 : Int32) : Option (Int32 × Int32 × Int32 × Int32 × Int32 × Int32 × Int32 × Int32 × Int32 × Int32 × Int32 × Int32 × Int32 × Int32 × Int32 × Int32 × (Nat → Int32) × (Nat → Int32) × (Nat → Int32) × (Nat → Int32) × (Nat → Int32) × (Nat → Int32)) :=
    cb1 (f_X12_isReader p1) fun r1_1 =>
    if r1_1 = 0 then
    (some ((-1), s_atA, s_atB, s_atD, s_atF, s_atG, s_atH, s_atL, s_atM, s_atN, s_atS, s_atT, s_atU, s_atX, s_paperHigh, s_paperShape, s_first, s_greatest, s_highAt, s_last, s_marked, s_shapeAt))
    else
    (cb1 (f_X12_isReader p2) fun r8_9 =>
      if r8_9 = 0 then
      (some ((-1), s_atA, s_atB, s_atD, s_atF, s_atG, s_atH, s_atL, s_atM, s_atN, s_atS, s_atT, s_atU, s_atX, s_paperHigh, s_paperShape, s_first, s_greatest, s_highAt, s_last, s_marked, s_shapeAt))
      else
      (cb1 (f_X12_isDay p3) fun r15_17 =>
        if r15_17 = 0 then
        (some ((-1), s_atA, s_atB, s_atD, s_atF, s_atG, s_atH, s_atL, s_atM, s_atN, s_atS, s_atT, s_atU, s_atX, s_paperHigh, s_paperShape, s_first, s_greatest, s_highAt, s_last, s_marked, s_shapeAt))
        else
        (cb1 (f_X12_isDay p4) fun r23_25 =>
          if r23_25 = 0 then
          (some ((-1), s_atA, s_atB, s_atD, s_atF, s_atG, s_atH, s_atL, s_atM, s_atN, s_atS, s_atT, s_atU, s_atX, s_paperHigh, s_paperShape, s_first, s_greatest, s_highAt, s_last, s_marked, s_shapeAt))
          else
          (cb1 (f_X12_lies (Int32.toInt64 p4) (Int32.toInt64 p3) (Int32.toInt64 (p3 + 29))) fun r39_33 =>
            if r39_33 = 0 then
            (some ((-1), s_atA, s_atB, s_atD, s_atF, s_atG, s_atH, s_atL, s_atM, s_atN, s_atS, s_atT, s_atU, s_atX, s_paperHigh, s_paperShape, s_first, s_greatest, s_highAt, s_last, s_marked, s_shapeAt))
            else
            (cb1 (f_X12_lies (Int32.toInt64 p5) 0 2) fun r52_41 =>
              if r52_41 = 0 then
              (some ((-1), s_atA, s_atB, s_atD, s_atF, s_atG, s_atH, s_atL, s_atM, s_atN, s_atS, s_atT, s_atU, s_atX, s_paperHigh, s_paperShape, s_first, s_greatest, s_highAt, s_last, s_marked, s_shapeAt))
              else
              ((f_X12_passed_L72 s_sources s_many p1 p2 p4 (f_X12_passed_J164 p5 ) FU) p3 s_atA s_atB s_atD s_atF s_atG s_atH s_atL s_atM s_atN s_atS s_atT s_atU s_atX s_paperHigh s_paperShape s_first s_greatest s_highAt s_last s_marked s_shapeAt))))))
def f_X12_note_J59 (s_notes : Int32) (s_noteDay : Nat → Int32) (s_noteMinute : Nat → Int32) (s_noteShape : Nat → Int32) (p1 : Int32) (p2 : Int32) (p3 : Int32)   : Option (Int32 × Int32 × (Nat → Int32) × (Nat → Int32) × (Nat → Int32)) :=
    wrI s_noteDay 40 s_notes p1 fun g68_28 =>
    wrI s_noteMinute 40 s_notes p2 fun g78_33 =>
    wrI s_noteShape 40 s_notes p3 fun g88_38 =>
    nmI (s_notes + 1) fun v96_43 =>
    some ((v96_43 - 1), v96_43, g68_28, g78_33, g88_38)
def f_X12_note (s_notes : Int32) (s_noteDay : Nat → Int32) (s_noteMinute : Nat → Int32) (s_noteShape : Nat → Int32) (p1 : Int32) (p2 : Int32) (p3 : Int32) : Option (Int32 × Int32 × (Nat → Int32) × (Nat → Int32) × (Nat → Int32)) :=
    if s_notes = 40 then
    (some ((-1), s_notes, s_noteDay, s_noteMinute, s_noteShape))
    else
    (cb1 (f_X12_isDay p1) fun r10_4 =>
      if r10_4 = 0 then
      (some ((-1), s_notes, s_noteDay, s_noteMinute, s_noteShape))
      else
      (cb1 (f_X12_isMinute p2) fun r17_12 =>
        if r17_12 = 0 then
        (some ((-1), s_notes, s_noteDay, s_noteMinute, s_noteShape))
        else
        (cb1 (f_X12_lies (Int32.toInt64 p3) 0 3) fun r29_20 =>
          if r29_20 = 0 then
          (some ((-1), s_notes, s_noteDay, s_noteMinute, s_noteShape))
          else
          (if s_notes ≤ 0 then
            ((f_X12_note_J59 s_notes s_noteDay s_noteMinute s_noteShape p1 p2 p3 ))
            else
            (rdI s_noteDay 40 (s_notes - 1) fun v53_50 =>
              if v53_50 ≤ p1 then
              ((f_X12_note_J59 s_notes s_noteDay s_noteMinute s_noteShape p1 p2 p3 ))
              else
              (some ((-1), s_notes, s_noteDay, s_noteMinute, s_noteShape)))))))
def f_X12_isWithin (p1 : Int32) : Option (Int32) :=
    cb1 (f_X12_lies (Int32.toInt64 p1) 0 700) fun r6_1 =>
    bo r6_1 <|
    some (r6_1)
def f_X12_isShape (p1 : Int32) : Option (Int32) :=
    cb1 (f_X12_lies (Int32.toInt64 p1) 0 3) fun r6_1 =>
    bo r6_1 <|
    some (r6_1)
def f_X12_manyOf_L5 (s_notes : Int32) (s_noteDay : Nat → Int32) (s_noteShape : Nat → Int32) (p1 : Int32) (p2 : Int32)  : Nat → Int32 → Int32 → Option (Int32)
  | 0, _, _ => none
  | n5 + 1, x3_3, x4_4 =>
    if s_notes ≤ x4_4 then
    (some (x3_3))
    else
    (rdI s_noteShape 40 x4_4 fun v21_8 =>
      if v21_8 = p1 then
      (rdI s_noteDay 40 x4_4 fun v32_23 =>
        if p2 < v32_23 then
        (nmI (x3_3 + 0) fun v43_30 =>
          nmI (x4_4 + 1) fun v44_34 =>
          (f_X12_manyOf_L5 s_notes s_noteDay s_noteShape p1 p2  n5) v43_30 v44_34)
        else
        (nmI (x3_3 + 1) fun v43_38 =>
          nmI (x4_4 + 1) fun v44_42 =>
          (f_X12_manyOf_L5 s_notes s_noteDay s_noteShape p1 p2  n5) v43_38 v44_42))
      else
      (nmI (x3_3 + 0) fun v43_15 =>
        nmI (x4_4 + 1) fun v44_19 =>
        (f_X12_manyOf_L5 s_notes s_noteDay s_noteShape p1 p2  n5) v43_15 v44_19))
def f_X12_manyOf (s_notes : Int32) (s_noteDay : Nat → Int32) (s_noteShape : Nat → Int32) (p1 : Int32) (p2 : Int32) : Option (Int32) :=
    (f_X12_manyOf_L5 s_notes s_noteDay s_noteShape p1 p2  FU) 0 0
def f_X12_one (s_notes : Int32) (s_noteDay : Nat → Int32) (s_noteShape : Nat → Int32) (p1 : Int32) (p2 : Int32) : Option (Int32) :=
    cb1 (f_X12_isShape p1) fun r1_1 =>
    if r1_1 = 0 then
    (some ((-1)))
    else
    (cb1 (f_X12_isWithin p2) fun r8_9 =>
      if r8_9 = 0 then
      (some ((-1)))
      else
      (cb1 (f_X12_manyOf s_notes s_noteDay s_noteShape p1 400) fun r19_17 =>
        if r19_17 ≤ 1 then
        (some ((-1)))
        else
        (none)))
def f_X12_known_J54 (s_noteDay : Nat → Int32)  (x3_18 : Int32) : Option (Int32) :=
    rdI s_noteDay 40 x3_18 fun v61_19 =>
    none
def f_X12_known_L18 (s_notes : Int32) (s_noteDay : Nat → Int32) (s_noteShape : Nat → Int32) (p1 : Int32) (K54 : Int32 → Option (Int32)) : Nat → Int32 → Option (Int32)
  | 0, _ => none
  | n18 + 1, x3_23 =>
    if s_notes ≤ x3_23 then
    (some ((-1)))
    else
    (rdI s_noteShape 40 x3_23 fun v31_27 =>
      if v31_27 = p1 then
      (rdI s_noteDay 40 x3_23 fun v43_38 =>
        cb1 (f_X12_manyOf s_notes s_noteDay s_noteShape p1 v43_38) fun r44_42 =>
        if 2 ≤ r44_42 then
        (K54 x3_23)
        else
        (nmI (x3_23 + 1) fun v87_50 =>
          (f_X12_known_L18 s_notes s_noteDay s_noteShape p1 K54 n18) v87_50))
      else
      (nmI (x3_23 + 1) fun v87_34 =>
        (f_X12_known_L18 s_notes s_noteDay s_noteShape p1 K54 n18) v87_34))
def f_X12_known (s_notes : Int32) (s_noteDay : Nat → Int32) (s_noteShape : Nat → Int32) (p1 : Int32) (p2 : Int32) : Option (Int32) :=
    cb1 (f_X12_isShape p1) fun r1_1 =>
    if r1_1 = 0 then
    (some ((-1)))
    else
    (cb1 (f_X12_isWithin p2) fun r8_9 =>
      if r8_9 = 0 then
      (some ((-1)))
      else
      ((f_X12_known_L18 s_notes s_noteDay s_noteShape p1 (f_X12_known_J54 s_noteDay ) FU) 0))
def f_X12_row_J130 (p3 : Int32)   : Option (Int32) :=
    if p3 = 0 then
    (some (0))
    else
    (some (0))
def f_X12_row_L46 (s_notes : Int32) (s_noteShape : Nat → Int32) (p1 : Int32) (K130 : Option (Int32)) : Nat → Int32 → Option (Int32)
  | 0, _ => none
  | n46 + 1, x6_39 =>
    if s_notes ≤ x6_39 then
    (K130)
    else
    (rdI s_noteShape 40 x6_39 fun v61_43 =>
      if v61_43 = p1 then
      (none)
      else
      (nmI (x6_39 + 1) fun v124_50 =>
        (f_X12_row_L46 s_notes s_noteShape p1 K130 n46) v124_50))
def f_X12_row (s_notes : Int32) (s_noteDay : Nat → Int32) (s_noteShape : Nat → Int32) (p1 : Int32) (p2 : Int32) (p3 : Int32) : Option (Int32) :=
    cb1 (f_X12_isShape p1) fun r1_1 =>
    if r1_1 = 0 then
    (some ((-1)))
    else
    (cb1 (f_X12_isWithin p2) fun r8_9 =>
      if r8_9 = 0 then
      (some ((-1)))
      else
      (cb1 (f_X12_lies (Int32.toInt64 p3) 0 1) fun r18_17 =>
        if r18_17 = 0 then
        (some ((-1)))
        else
        (cb1 (f_X12_manyOf s_notes s_noteDay s_noteShape p1 400) fun r29_25 =>
          if r29_25 = 0 then
          (some ((-1)))
          else
          ((f_X12_row_L46 s_notes s_noteShape p1 (f_X12_row_J130 p3 ) FU) 0))))
def f_X12_blip_J45 (s_blips : Int32) (s_time : Nat → Int32) (p1 : Int32)   : Option (Int32 × Int32 × (Nat → Int32)) :=
    wrI s_time 40 s_blips p1 fun g54_12 =>
    nmI (s_blips + 1) fun v62_17 =>
    some ((v62_17 - 1), v62_17, g54_12)
def f_X12_blip (s_blips : Int32) (s_time : Nat → Int32) (p1 : Int32) : Option (Int32 × Int32 × (Nat → Int32)) :=
    if s_blips = 40 then
    (some ((-1), s_blips, s_time))
    else
    (cb1 (f_X12_lies (Int32.toInt64 p1) 0 1000000000) fun r15_4 =>
      if r15_4 = 0 then
      (some ((-1), s_blips, s_time))
      else
      (if s_blips ≤ 0 then
        ((f_X12_blip_J45 s_blips s_time p1 ))
        else
        (rdI s_time 40 (s_blips - 1) fun v39_24 =>
          if v39_24 < p1 then
          ((f_X12_blip_J45 s_blips s_time p1 ))
          else
          (some ((-1), s_blips, s_time)))))
def f_X12_isBeat (p1 : Int32) : Option (Int32) :=
    cb1 (f_X12_lies (Int32.toInt64 p1) 1 1000000) fun r6_1 =>
    bo r6_1 <|
    some (r6_1)
def f_X12_fits (s_blips : Int32) (p1 : Int32) (p2 : Int32) : Option (Int32) :=
    cb1 (f_X12_isBeat p1) fun r1_1 =>
    if r1_1 = 0 then
    (some ((-1)))
    else
    (cb1 (f_X12_lies (Int32.toInt64 p2) 0 1000) fun r13_9 =>
      if r13_9 = 0 then
      (some ((-1)))
      else
      (if p1 ≤ (2 * p2) then
        (some ((-1)))
        else
        (if s_blips ≤ 1 then
          (some ((-1)))
          else
          (none))))
def f_X12_canBeat (s_blips : Int32) (p1 : Int32) (p2 : Int32) (p3 : Int32) : Option (Int32) :=
    cb1 (f_X12_isBeat p1) fun r1_1 =>
    if r1_1 = 0 then
    (some (0))
    else
    (cb1 (f_X12_isBeat p2) fun r8_9 =>
      if r8_9 = 0 then
      (some (0))
      else
      (cb1 (f_X12_lies (Int32.toInt64 p2) (Int32.toInt64 p1) (Int32.toInt64 (p1 + 2000))) fun r24_17 =>
        if r24_17 = 0 then
        (some (0))
        else
        (cb1 (f_X12_lies (Int32.toInt64 p3) 0 1000) fun r36_25 =>
          if r36_25 = 0 then
          (some (0))
          else
          (if p1 ≤ (2 * p3) then
            (some (0))
            else
            (if s_blips ≤ 1 then
              (some (0))
              else
              (some (1)))))))
def f_X12_beats (s_blips : Int32) (p1 : Int32) (p2 : Int32) (p3 : Int32) (p4 : Int32) : Option (Int32) :=
    cb1 (f_X12_canBeat s_blips p1 p2 p3) fun r4_1 =>
    if r4_1 = 0 then
    (some ((-1)))
    else
    (cb1 (f_X12_lies (Int32.toInt64 p4) 0 2) fun r17_9 =>
      if r17_9 = 0 then
      (some ((-1)))
      else
      (none))
def f_X12_counted (s_blips : Int32) (p1 : Int32) (p2 : Int32) : Option (Int32) :=
    cb1 (f_X12_lies (Int32.toInt64 p1) 0 (Int32.toInt64 (s_blips - 1))) fun r10_1 =>
    if r10_1 = 0 then
    (some ((-1)))
    else
    (cb1 (f_X12_isBeat p2) fun r17_9 =>
      if r17_9 = 0 then
      (some ((-1)))
      else
      (none))
def f_X12_sure (s_blips : Int32) (p1 : Int32) (p2 : Int32) (p3 : Int32) : Option (Int32) :=
    cb1 (f_X12_canBeat s_blips p1 p2 p3) fun r4_1 =>
    if r4_1 = 0 then
    (some ((-1)))
    else
    (none)
def f_X12_lost (s_blips : Int32) (p1 : Int32) (p2 : Int32) (p3 : Int32) : Option (Int32) :=
    cb1 (f_X12_canBeat s_blips p1 p2 p3) fun r4_1 =>
    if r4_1 = 0 then
    (some ((-1)))
    else
    (none)
def f_X12_night (s_nights : Int32) (s_found : Nat → Int32) (s_nightDay : Nat → Int32) (p1 : Int32) (p2 : Int32) : Option (Int32 × Int32 × (Nat → Int32) × (Nat → Int32)) :=
    if s_nights = 30 then
    (some ((-1), s_nights, s_found, s_nightDay))
    else
    (cb1 (f_X12_isDay p1) fun r10_4 =>
      if r10_4 = 0 then
      (some ((-1), s_nights, s_found, s_nightDay))
      else
      (cb1 (f_X12_lies (Int32.toInt64 p2) (-100000) 100000) fun r24_12 =>
        if r24_12 = 0 then
        (some ((-1), s_nights, s_found, s_nightDay))
        else
        (wrI s_nightDay 30 s_nights p1 fun g41_20 =>
          wrI s_found 30 s_nights p2 fun g51_25 =>
          nmI (s_nights + 1) fun v59_30 =>
          some ((v59_30 - 1), v59_30, g51_25, g41_20))))
def f_X12_isNight (s_nights : Int32) (p1 : Int32) : Option (Int32) :=
    cb1 (f_X12_lies (Int32.toInt64 p1) 0 (Int32.toInt64 (s_nights - 1))) fun r10_1 =>
    bo r10_1 <|
    some (r10_1)
def f_X12_isTold (s_many : Nat → Int32) (p1 : Int32) : Option (Int32) :=
    cb1 (f_X12_isTale p1) fun r1_1 =>
    if r1_1 = 0 then
    (some (0))
    else
    (rdI s_many 20 (14 + p1) fun v15_9 =>
      if v15_9 ≤ 0 then
      (some (0))
      else
      (some (1)))
def f_X12_says (s_nights : Int32) (s_many : Nat → Int32) (p1 : Int32) (p2 : Int32) : Option (Int32) :=
    cb1 (f_X12_isTold s_many p1) fun r2_1 =>
    if r2_1 = 0 then
    (some ((-1000000)))
    else
    (cb1 (f_X12_isNight s_nights p2) fun r10_9 =>
      if r10_9 = 0 then
      (some ((-1000000)))
      else
      (none))
def f_X12_isError (p1 : Int32) : Option (Int32) :=
    cb1 (f_X12_lies (Int32.toInt64 p1) 0 100000) fun r6_1 =>
    bo r6_1 <|
    some (r6_1)
def f_X12_falls (s_many : Nat → Int32) (p1 : Int32) (p2 : Int32) : Option (Int32) :=
    cb1 (f_X12_isTold s_many p1) fun r2_1 =>
    if r2_1 = 0 then
    (some ((-1)))
    else
    (cb1 (f_X12_isError p2) fun r9_9 =>
      if r9_9 = 0 then
      (some ((-1)))
      else
      (none))
def f_X12_told_J87 (p2 : Int32)  (x3_18 : Int32) (x5_19 : Int32) : Option (Int32) :=
    if p2 = 0 then
    (some (x3_18))
    else
    (some (x5_19))
def f_X12_told_J81 (x3_23 : Int32) (K21 : Int32 → Option (Int32))  : Option (Int32) :=
    nmI (x3_23 + 1) fun v98_31 =>
    K21 v98_31
def f_X12_told_L38 (s_many : Nat → Int32) (K81 : Option (Int32)) : Nat → Int32 → Option (Int32)
  | 0, _ => none
  | n38 + 1, x6_35 =>
    if 6 ≤ x6_35 then
    (K81)
    else
    (cb1 (f_X12_isTold s_many x6_35) fun r48_39 =>
      if r48_39 = 0 then
      (nmI (x6_35 + 1) fun v75_47 =>
        (f_X12_told_L38 s_many K81 n38) v75_47)
      else
      (none))
def f_X12_told_L21 (s_nights : Int32) (s_many : Nat → Int32)  : Nat → Int32 → Option (Int32)
  | 0, _ => none
  | n21 + 1, x3_23 =>
    if s_nights ≤ x3_23 then
    (some ((-1)))
    else
    ((f_X12_told_L38 s_many (f_X12_told_J81 x3_23 (f_X12_told_L21 s_nights s_many  n21)) FU) 0)
def f_X12_told (s_nights : Int32) (s_many : Nat → Int32) (p1 : Int32) (p2 : Int32) : Option (Int32) :=
    cb1 (f_X12_isError p1) fun r1_1 =>
    if r1_1 = 0 then
    (some ((-1)))
    else
    (cb1 (f_X12_lies (Int32.toInt64 p2) 0 1) fun r11_9 =>
      if r11_9 = 0 then
      (some ((-1)))
      else
      ((f_X12_told_L21 s_nights s_many  FU) 0))
def f_X12_waveOf (p1 : Int32) (p2 : Int32) : Option (Int32) :=
    dvI p2 <|
    nmI ((4000 * p1) / p2) fun v7_3 =>
    if p2 ≤ (4 * p1) then
    (if (3 * p2) ≤ (4 * p1) then
      (some ((v7_3 - 4000)))
      else
      (some ((2000 - v7_3))))
    else
    (some (v7_3))
def f_X12_canGoAbout_L3 (s_nights : Int32) (s_found : Nat → Int32) (s_nightDay : Nat → Int32) (p1 : Int32) (p2 : Int32) (p3 : Int32) (p4 : Int32)  : Nat → Int32 → Option (Int32)
  | 0, _ => none
  | n3 + 1, x5_2 =>
    if s_nights ≤ x5_2 then
    (some (1))
    else
    (rdI s_nightDay 30 x5_2 fun v19_6 =>
      dvI p1 <|
      cb1 (f_X12_waveOf (jrem (v19_6 + p4) p1) p1) fun r26_12 =>
      rdI s_found 30 x5_2 fun v40_17 =>
      cb1 (f_X12_lies (Int32.toInt64 (((p3 * r26_12) / 1000) - v40_17)) (Int32.toInt64 (-p2)) (Int32.toInt64 p2)) fun r48_21 =>
      if r48_21 = 0 then
      (some (0))
      else
      (nmI (x5_2 + 1) fun v56_29 =>
        (f_X12_canGoAbout_L3 s_nights s_found s_nightDay p1 p2 p3 p4  n3) v56_29))
def f_X12_canGoAbout (s_nights : Int32) (s_found : Nat → Int32) (s_nightDay : Nat → Int32) (p1 : Int32) (p2 : Int32) (p3 : Int32) (p4 : Int32) : Option (Int32) :=
    (f_X12_canGoAbout_L3 s_nights s_found s_nightDay p1 p2 p3 p4  FU) 0
def f_X12_bound_L34 (s_nights : Int32) (s_found : Nat → Int32) (s_nightDay : Nat → Int32) (p1 : Int32) (p2 : Int32) (x3_18 : Int32) (K27 : Int32 → Option (Int32)) : Nat → Int32 → Option (Int32)
  | 0, _ => none
  | n34 + 1, x4_23 =>
    if p1 ≤ x4_23 then
    (nmI (x3_18 + (-1)) fun v60_27 =>
      K27 v60_27)
    else
    (cb1 (f_X12_canGoAbout s_nights s_found s_nightDay p1 p2 x3_18 x4_23) fun r46_31 =>
      if r46_31 = 0 then
      (nmI (x4_23 + 1) fun v54_39 =>
        (f_X12_bound_L34 s_nights s_found s_nightDay p1 p2 x3_18 K27 n34) v54_39)
      else
      (some (x3_18)))
def f_X12_bound_L27 (s_nights : Int32) (s_found : Nat → Int32) (s_nightDay : Nat → Int32) (p1 : Int32) (p2 : Int32)  : Nat → Int32 → Option (Int32)
  | 0, _ => none
  | n27 + 1, x3_18 =>
    if x3_18 < 0 then
    (some ((-2)))
    else
    ((f_X12_bound_L34 s_nights s_found s_nightDay p1 p2 x3_18 (f_X12_bound_L27 s_nights s_found s_nightDay p1 p2  n27) FU) 0)
def f_X12_bound (s_nights : Int32) (s_found : Nat → Int32) (s_nightDay : Nat → Int32) (p1 : Int32) (p2 : Int32) : Option (Int32) :=
    cb1 (f_X12_lies (Int32.toInt64 p1) 4 400) fun r8_1 =>
    if r8_1 = 0 then
    (some ((-1)))
    else
    (cb1 (f_X12_isError p2) fun r15_9 =>
      if r15_9 = 0 then
      (some ((-1)))
      else
      ((f_X12_bound_L27 s_nights s_found s_nightDay p1 p2  FU) 2000))
def f_X12_there (s_ten : Nat → Int32) (p1 : Int32) (p2 : Int32) : Option (Int32 × (Nat → Int32)) :=
    cb1 (f_X12_lies (Int32.toInt64 p1) 0 39) fun r6_1 =>
    if r6_1 = 0 then
    (some (0, s_ten))
    else
    (cb1 (f_X12_lies (Int32.toInt64 p2) 0 10) fun r18_9 =>
      if r18_9 = 0 then
      (some (0, s_ten))
      else
      (wrI s_ten 40 p1 p2 fun g32_17 =>
        some (1, g32_17)))
def f_X12_leastAt (s_leastFrom : Nat → Int32) (p1 : Int32) (p2 : Int32) : Option (Int32) :=
    if p2 ≤ 40 then
    (rdI s_leastFrom 371 ((53 * p1) + p2) fun v28_4 =>
      some (v28_4))
    else
    (if p1 = 0 then
      (some (1))
      else
      (some ((-1))))
def f_X12_pen_J287 (p1 : Int32) (p2 : Int32) (p3 : Int32) (leastFrom__21 : Nat → Int32) (x5_28 : Int32) (K222 : Int32 → Int32 → Option (Int32 × (Nat → Int32))) (x4_32 : Int32) : Option (Int32 × (Nat → Int32)) :=
    if (p1 - x5_28) = p3 then
    (some (x4_32, leastFrom__21))
    else
    (nmI (x4_32 + p2) fun v302_36 =>
      nmI (x5_28 + (-1)) fun v304_40 =>
      K222 v302_36 v304_40)
def f_X12_pen_L227 (s_ten : Nat → Int32) (p2 : Int32) (leastFrom__21 : Nat → Int32) (x5_28 : Int32) (K287 : Int32 → Option (Int32 × (Nat → Int32))) : Nat → Int32 → Option (Int32 × (Nat → Int32))
  | 0, _ => none
  | n227 + 1, x4_44 =>
    cb1 (f_X12_leastAt leastFrom__21 (x5_28 - 1) (x4_44 + p2)) fun r236_45 =>
    if r236_45 < 0 then
    (nmI (x4_44 + 1) fun v281_53 =>
      (f_X12_pen_L227 s_ten p2 leastFrom__21 x5_28 K287 n227) v281_53)
    else
    (rdI s_ten 40 x4_44 fun v250_57 =>
      cb1 (f_X12_leastAt leastFrom__21 (x5_28 - 1) (x4_44 + p2)) fun r261_61 =>
      rdI leastFrom__21 371 ((53 * x5_28) + x4_44) fun v277_66 =>
      if ((10 - v250_57) * r261_61) = v277_66 then
      (K287 x4_44)
      else
      (nmI (x4_44 + 1) fun v281_73 =>
        (f_X12_pen_L227 s_ten p2 leastFrom__21 x5_28 K287 n227) v281_73))
def f_X12_pen_L222 (s_ten : Nat → Int32) (p1 : Int32) (p2 : Int32) (p3 : Int32) (leastFrom__21 : Nat → Int32)  : Nat → Int32 → Int32 → Option (Int32 × (Nat → Int32))
  | 0, _, _ => none
  | n222 + 1, x4_27, x5_28 =>
    if x5_28 ≤ 0 then
    (some ((-1), leastFrom__21))
    else
    ((f_X12_pen_L227 s_ten p2 leastFrom__21 x5_28 (f_X12_pen_J287 p1 p2 p3 leastFrom__21 x5_28 (f_X12_pen_L222 s_ten p1 p2 p3 leastFrom__21  n222)) FU) x4_27)
def f_X12_pen_J200 (s_ten : Nat → Int32) (p1 : Int32) (p2 : Int32) (p3 : Int32)  (leastFrom__21 : Nat → Int32) : Option (Int32 × (Nat → Int32)) :=
    if p3 = 6 then
    (rdI leastFrom__21 371 (53 * p1) fun v214_77 =>
      some (v214_77, leastFrom__21))
    else
    ((f_X12_pen_L222 s_ten p1 p2 p3 leastFrom__21  FU) 0 p1)
def f_X12_pen_J173 (x4_81 : Int32) (x5_87 : Int32) (leastFrom__88 : Nat → Int32) (K68 : Int32 → (Nat → Int32) → Option (Int32 × (Nat → Int32))) (x6_98 : Int32) : Option (Int32 × (Nat → Int32)) :=
    wrI leastFrom__88 371 ((53 * x4_81) + x5_87) x6_98 fun g187_99 =>
    nmI (x5_87 + (-1)) fun v188_104 =>
    K68 v188_104 g187_99
def f_X12_pen_J150 (v111_114 : Int32) (K173 : Int32 → Option (Int32 × (Nat → Int32))) (t0_125 : Int32) : Option (Int32 × (Nat → Int32)) :=
    if t0_125 < 0 then
    (K173 v111_114)
    else
    (if v111_114 < 0 then
      (K173 t0_125)
      else
      (if v111_114 ≤ t0_125 then
        (K173 v111_114)
        else
        (K173 t0_125)))
def f_X12_pen_J83 (s_ten : Nat → Int32) (p2 : Int32) (x4_81 : Int32) (x5_87 : Int32) (leastFrom__88 : Nat → Int32) (K68 : Int32 → (Nat → Int32) → Option (Int32 × (Nat → Int32))) (t0_96 : Int32) : Option (Int32 × (Nat → Int32)) :=
    if x4_81 ≤ 0 then
    ((f_X12_pen_J173 x4_81 x5_87 leastFrom__88 K68) t0_96)
    else
    (if 40 ≤ x5_87 then
      ((f_X12_pen_J173 x4_81 x5_87 leastFrom__88 K68) t0_96)
      else
      (rdI leastFrom__88 371 (((53 * x4_81) + x5_87) + 1) fun v111_114 =>
        cb1 (f_X12_leastAt leastFrom__88 (x4_81 - 1) (x5_87 + p2)) fun r123_119 =>
        if 0 ≤ r123_119 then
        (rdI s_ten 40 x5_87 fun v145_141 =>
          (f_X12_pen_J150 v111_114 (f_X12_pen_J173 x4_81 x5_87 leastFrom__88 K68)) ((10 - v145_141) * r123_119))
        else
        ((f_X12_pen_J150 v111_114 (f_X12_pen_J173 x4_81 x5_87 leastFrom__88 K68)) (-1))))
def f_X12_pen_L68 (s_ten : Nat → Int32) (p2 : Int32) (x4_81 : Int32) (K58 : Int32 → (Nat → Int32) → Option (Int32 × (Nat → Int32))) : Nat → Int32 → (Nat → Int32) → Option (Int32 × (Nat → Int32))
  | 0, _, _ => none
  | n68 + 1, x5_87, leastFrom__88 =>
    if x5_87 < 0 then
    (nmI (x4_81 + 1) fun v194_92 =>
      K58 v194_92 leastFrom__88)
    else
    (if x4_81 = 0 then
      ((f_X12_pen_J83 s_ten p2 x4_81 x5_87 leastFrom__88 (f_X12_pen_L68 s_ten p2 x4_81 K58 n68)) 1)
      else
      ((f_X12_pen_J83 s_ten p2 x4_81 x5_87 leastFrom__88 (f_X12_pen_L68 s_ten p2 x4_81 K58 n68)) (-1)))
def f_X12_pen_L58 (s_ten : Nat → Int32) (p1 : Int32) (p2 : Int32) (K200 : (Nat → Int32) → Option (Int32 × (Nat → Int32))) : Nat → Int32 → (Nat → Int32) → Option (Int32 × (Nat → Int32))
  | 0, _, _ => none
  | n58 + 1, x4_81, leastFrom__82 =>
    if p1 < x4_81 then
    (K200 leastFrom__82)
    else
    ((f_X12_pen_L68 s_ten p2 x4_81 (f_X12_pen_L58 s_ten p1 p2 K200 n58) FU) 40 leastFrom__82)
def f_X12_pen_J43 (s_leastFrom : Nat → Int32) (s_ten : Nat → Int32) (p1 : Int32) (p2 : Int32) (p3 : Int32)   : Option (Int32 × (Nat → Int32)) :=
    if ((p1 - 1) * p2) ≤ 39 then
    ((f_X12_pen_L58 s_ten p1 p2 (f_X12_pen_J200 s_ten p1 p2 p3 ) FU) 0 s_leastFrom)
    else
    (some ((-1), s_leastFrom))
def f_X12_pen (s_leastFrom : Nat → Int32) (s_ten : Nat → Int32) (p1 : Int32) (p2 : Int32) (p3 : Int32) : Option (Int32 × (Nat → Int32)) :=
    cb1 (f_X12_lies (Int32.toInt64 p1) 1 6) fun r6_1 =>
    if r6_1 = 0 then
    (some ((-1), s_leastFrom))
    else
    (cb1 (f_X12_lies (Int32.toInt64 p2) 1 10) fun r18_9 =>
      if r18_9 = 0 then
      (some ((-1), s_leastFrom))
      else
      (if p3 = 6 then
        ((f_X12_pen_J43 s_leastFrom s_ten p1 p2 p3 ))
        else
        (cb1 (f_X12_lies (Int32.toInt64 p3) 0 (Int32.toInt64 (p1 - 1))) fun r37_151 =>
          if r37_151 = 0 then
          (some ((-1), s_leastFrom))
          else
          ((f_X12_pen_J43 s_leastFrom s_ten p1 p2 p3 )))))
def f_X12_choices_L16 (p1 : Int32) (p2 : Int32)  : Nat → Int64 → Int32 → Option (Int64)
  | 0, _, _ => none
  | n16 + 1, x2_9, x4_10 =>
    if p2 < x4_10 then
    (some (x2_9))
    else
    (dvL (Int32.toInt64 x4_10) <|
      nmL ((x2_9 * (Int32.toInt64 ((p1 - p2) + x4_10))) / (Int32.toInt64 x4_10)) fun v35_16 =>
      nmI (x4_10 + 1) fun v36_20 =>
      (f_X12_choices_L16 p1 p2  n16) v35_16 v36_20)
def f_X12_choices (p1 : Int32) (p2 : Int32) : Option (Int64) :=
    if p2 < 0 then
    (some (0))
    else
    (if p2 ≤ p1 then
      ((f_X12_choices_L16 p1 p2  FU) 1 1)
      else
      (some (0)))
def f_X12_divisor_L6   : Nat → Int64 → Int64 → Option (Int64)
  | 0, _, _ => none
  | n6 + 1, x4_3, x6_4 =>
    if (lg_cmp x6_4 0) = 0 then
    (some (x4_3))
    else
    (dvL x6_4 <|
      nmL (jremL x4_3 x6_4) fun v18_10 =>
      (f_X12_divisor_L6   n6) x6_4 v18_10)
def f_X12_divisor (p1 : Int64) (p2 : Int64) : Option (Int64) :=
    (f_X12_divisor_L6   FU) p1 p2
def f_X12_canLook (p1 : Int32) (p2 : Int32) (p3 : Int32) : Option (Int32) :=
    cb1 (f_X12_lies (Int32.toInt64 p1) 0 20) fun r6_1 =>
    if r6_1 = 0 then
    (some (0))
    else
    (cb1 (f_X12_lies (Int32.toInt64 p2) 0 20) fun r18_9 =>
      if r18_9 = 0 then
      (some (0))
      else
      (cb1 (f_X12_lies (Int32.toInt64 p3) 0 (Int32.toInt64 p1)) fun r29_17 =>
        if r29_17 = 0 then
        (some (0))
        else
        (if p2 < p3 then
          (some (0))
          else
          (some (1)))))
def f_X12_waysOf (p1 : Int32) (p2 : Int32) (p3 : Int32) (p4 : Int32) : Option (Int64) :=
    cb1 (f_X12_choices p1 p3) fun r2_1 =>
    cb1 (f_X12_choices (p4 - p1) (p2 - p3)) fun r11_6 =>
    some ((r2_1 * r11_6))
def f_X12_odds (p1 : Int32) (p2 : Int32) (p3 : Int32) (p4 : Int32) (p5 : Int32) : Option (Int64) :=
    cb1 (f_X12_canLook p1 p2 p3) fun r3_1 =>
    if r3_1 = 0 then
    (some ((-1)))
    else
    (cb1 (f_X12_lies (Int32.toInt64 p4) (Int32.toInt64 ((p1 + p2) - p3)) 40) fun r21_9 =>
      if r21_9 = 0 then
      (some ((-1)))
      else
      (cb1 (f_X12_lies (Int32.toInt64 p5) 0 1) fun r32_17 =>
        if r32_17 = 0 then
        (some ((-1)))
        else
        (cb1 (f_X12_waysOf p1 p2 p3 p4) fun r47_25 =>
          cb1 (f_X12_choices p4 p2) fun r55_31 =>
          cb1 (f_X12_divisor r47_25 r55_31) fun r64_37 =>
          if p5 = 0 then
          (dvL r64_37 <|
            some ((r47_25 / r64_37)))
          else
          (dvL r64_37 <|
            some ((r55_31 / r64_37))))))
def f_X12_more_L46 (p1 : Int32) (p2 : Int32) (p3 : Int32) (p4 : Int32) (p5 : Int32)  : Nat → Int32 → Int32 → Option (Int32)
  | 0, _, _ => none
  | n46 + 1, x6_30, x7_31 =>
    if 40 < x7_31 then
    (some (x6_30))
    else
    (cb1 (f_X12_waysOf p1 p2 p3 x7_31) fun r58_35 =>
      cb1 (f_X12_choices x7_31 p2) fun r71_40 =>
      if (lg_cmp (r58_35 * 1000) ((Int32.toInt64 p4) * r71_40)) < 0 then
      (nmI (x7_31 + 1) fun v94_48 =>
        (f_X12_more_L46 p1 p2 p3 p4 p5  n46) x6_30 v94_48)
      else
      (if p5 = 1 then
        (nmI (x7_31 + 1) fun v94_56 =>
          (f_X12_more_L46 p1 p2 p3 p4 p5  n46) x7_31 v94_56)
        else
        (if 0 ≤ x6_30 then
          (nmI (x7_31 + 1) fun v94_63 =>
            (f_X12_more_L46 p1 p2 p3 p4 p5  n46) x6_30 v94_63)
          else
          (nmI (x7_31 + 1) fun v94_68 =>
            (f_X12_more_L46 p1 p2 p3 p4 p5  n46) x7_31 v94_68))))
def f_X12_more (p1 : Int32) (p2 : Int32) (p3 : Int32) (p4 : Int32) (p5 : Int32) : Option (Int32) :=
    cb1 (f_X12_canLook p1 p2 p3) fun r3_1 =>
    if r3_1 = 0 then
    (some ((-1)))
    else
    (cb1 (f_X12_lies (Int32.toInt64 p4) 1 1000) fun r16_9 =>
      if r16_9 = 0 then
      (some ((-1)))
      else
      (cb1 (f_X12_lies (Int32.toInt64 p5) 0 1) fun r27_17 =>
        if r27_17 = 0 then
        (some ((-1)))
        else
        (nmI ((p1 + p2) - p3) fun v44_26 =>
          (f_X12_more_L46 p1 p2 p3 p4 p5  FU) (-2) v44_26)))
def f_X12_check (s_taped : Int32) (s_sources : Int32) (s_atA : Int32) (s_atB : Int32) (s_atD : Int32) (s_atF : Int32) (s_atG : Int32) (s_atH : Int32) (s_atL : Int32) (s_atM : Int32) (s_atN : Int32) (s_atS : Int32) (s_atT : Int32) (s_atU : Int32) (s_atX : Int32) (s_paperHigh : Int32) (s_paperShape : Int32) (s_first : Nat → Int32) (s_greatest : Nat → Int32) (s_highAt : Nat → Int32) (s_last : Nat → Int32) (s_many : Nat → Int32) (s_marked : Nat → Int32) (s_shapeAt : Nat → Int32) (p1 : Int32) (p2 : Int32) (p3 : Int32) : Option (Int32 × Int32 × Int32 × Int32 × Int32 × Int32 × Int32 × Int32 × Int32 × Int32 × Int32 × Int32 × Int32 × Int32 × Int32 × Int32 × Int32 × (Nat → Int32) × (Nat → Int32) × (Nat → Int32) × (Nat → Int32) × (Nat → Int32) × (Nat → Int32)) :=
    cb1 (f_X12_isReader p1) fun r1_1 =>
    if r1_1 = 0 then
    (some ((-2), s_taped, s_atA, s_atB, s_atD, s_atF, s_atG, s_atH, s_atL, s_atM, s_atN, s_atS, s_atT, s_atU, s_atX, s_paperHigh, s_paperShape, s_first, s_greatest, s_highAt, s_last, s_marked, s_shapeAt))
    else
    (cb1 (f_X12_isDay p2) fun r8_9 =>
      if r8_9 = 0 then
      (some ((-2), s_taped, s_atA, s_atB, s_atD, s_atF, s_atG, s_atH, s_atL, s_atM, s_atN, s_atS, s_atT, s_atU, s_atX, s_paperHigh, s_paperShape, s_first, s_greatest, s_highAt, s_last, s_marked, s_shapeAt))
      else
      (if p3 < 0 then
        (some ((-2), s_taped, s_atA, s_atB, s_atD, s_atF, s_atG, s_atH, s_atL, s_atM, s_atN, s_atS, s_atT, s_atU, s_atX, s_paperHigh, s_paperShape, s_first, s_greatest, s_highAt, s_last, s_marked, s_shapeAt))
        else
        (if p3 ≤ (s_taped / 12) then
          (cb4 (f_X12_lays s_sources s_paperHigh s_paperShape s_highAt s_shapeAt p2) fun o_paperHigh39_24 o_paperShape39_25 o_highAt39_26 o_shapeAt39_27 =>
            cb17 (f_X12_goesOver s_atA s_atB s_atD s_atF s_atG s_atH s_atL s_atM s_atN s_atS s_atT s_atU s_atX s_first s_greatest o_highAt39_26 s_last s_many s_marked o_shapeAt39_27 p1 p2 0) fun o_atA46_32 o_atB46_33 o_atD46_34 o_atF46_35 o_atG46_36 o_atH46_37 o_atL46_38 o_atM46_39 o_atN46_40 o_atS46_41 o_atT46_42 o_atU46_43 o_atX46_44 o_first46_45 o_greatest46_46 o_last46_47 o_marked46_48 =>
            rdI o_marked46_48 2 0 fun v59_54 =>
            if v59_54 ≤ 0 then
            (rdI o_marked46_48 2 0 fun v162_61 =>
              if p3 = v162_61 then
              (some ((-1), 0, o_atA46_32, o_atB46_33, o_atD46_34, o_atF46_35, o_atG46_36, o_atH46_37, o_atL46_38, o_atM46_39, o_atN46_40, o_atS46_41, o_atT46_42, o_atU46_43, o_atX46_44, o_paperHigh39_24, o_paperShape39_25, o_first46_45, o_greatest46_46, o_highAt39_26, o_last46_47, o_marked46_48, o_shapeAt39_27))
              else
              (rdI o_marked46_48 2 0 fun v176_68 =>
                some ((3 * v176_68), 0, o_atA46_32, o_atB46_33, o_atD46_34, o_atF46_35, o_atG46_36, o_atH46_37, o_atL46_38, o_atM46_39, o_atN46_40, o_atS46_41, o_atT46_42, o_atU46_43, o_atX46_44, o_paperHigh39_24, o_paperShape39_25, o_first46_45, o_greatest46_46, o_highAt39_26, o_last46_47, o_marked46_48, o_shapeAt39_27)))
            else
            (if 0 = p3 then
              (some ((3 * p3), 0, o_atA46_32, o_atB46_33, o_atD46_34, o_atF46_35, o_atG46_36, o_atH46_37, o_atL46_38, o_atM46_39, o_atN46_40, o_atS46_41, o_atT46_42, o_atU46_43, o_atX46_44, o_paperHigh39_24, o_paperShape39_25, o_first46_45, o_greatest46_46, o_highAt39_26, o_last46_47, o_marked46_48, o_shapeAt39_27))
              else
              (none)))
          else
          (some ((-2), s_taped, s_atA, s_atB, s_atD, s_atF, s_atG, s_atH, s_atL, s_atM, s_atN, s_atS, s_atT, s_atU, s_atX, s_paperHigh, s_paperShape, s_first, s_greatest, s_highAt, s_last, s_marked, s_shapeAt)))))
def f_X12_count (s_taped : Int32) (s_sources : Int32) (s_seed : Int32) (s_notes : Int32) (s_blips : Int32) (s_nights : Int32) (s_many : Nat → Int32) (p1 : Int32) : Option (Int32) :=
    cb1 (f_X12_isSource s_sources (p1 - 10)) fun r5_1 =>
    if r5_1 = 0 then
    (cb1 (f_X12_isReader (p1 - 20)) fun r27_9 =>
      if r27_9 = 0 then
      (cb1 (f_X12_isTale (p1 - 30)) fun r50_17 =>
        if r50_17 = 0 then
        (if p1 = 0 then (some (s_sources))
          else if p1 = 1 then (some (s_notes))
          else if p1 = 2 then (some (s_blips))
          else if p1 = 3 then (some (s_nights))
          else if p1 = 4 then (some (s_seed))
          else if p1 = 5 then (some (s_taped))
          else (some ((-1))))
        else
        (rdI s_many 20 ((14 + p1) - 30) fun v67_43 =>
          some (v67_43)))
      else
      (rdI s_many 20 ((10 + p1) - 20) fun v44_47 =>
        some (v44_47)))
    else
    (rdI s_many 20 ((0 + p1) - 10) fun v21_51 =>
      some (v21_51))
