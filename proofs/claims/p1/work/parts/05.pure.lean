def f_X11_isWithin (p1 : Int32) (p2 : Int32) (p3 : Int32) : Option (Int32) :=
    if p1 < p2 then
    (some (0))
    else
    (if p3 < p1 then
      (some (0))
      else
      (some (1)))
def f_X11_isDay (p1 : Int32) : Option (Int32) :=
    cb1 (f_X11_isWithin p1 0 399) fun r5_1 =>
    bo r5_1 <|
    some (r5_1)
def f_X11_isMinute (p1 : Int32) : Option (Int32) :=
    cb1 (f_X11_isWithin p1 0 1439) fun r5_1 =>
    bo r5_1 <|
    some (r5_1)
def f_X11_isShape (p1 : Int32) : Option (Int32) :=
    cb1 (f_X11_isWithin p1 0 3) fun r3_1 =>
    bo r3_1 <|
    some (r3_1)
def f_X11_isReader (p1 : Int32) : Option (Int32) :=
    cb1 (f_X11_isWithin p1 0 3) fun r3_1 =>
    bo r3_1 <|
    some (r3_1)
def f_X11_isStory (p1 : Int32) : Option (Int32) :=
    cb1 (f_X11_isWithin p1 0 5) fun r3_1 =>
    bo r3_1 <|
    some (r3_1)
def f_X11_isBeat (p1 : Int32) : Option (Int32) :=
    cb1 (f_X11_isWithin p1 1 1000000) fun r5_1 =>
    bo r5_1 <|
    some (r5_1)
def f_X11_isNightError (p1 : Int32) : Option (Int32) :=
    cb1 (f_X11_isWithin p1 0 100000) fun r4_1 =>
    bo r4_1 <|
    some (r4_1)
def f_X11_isLook (p1 : Int32) (p2 : Int32) (p3 : Int32) : Option (Int32) :=
    cb1 (f_X11_isWithin p1 0 20) fun r4_1 =>
    if r4_1 = 0 then
    (some (0))
    else
    (cb1 (f_X11_isWithin p2 0 20) fun r14_10 =>
      if r14_10 = 0 then
      (some (0))
      else
      (cb1 (f_X11_isWithin p3 0 (jmin p1 p2)) fun r27_19 =>
        if r27_19 = 0 then
        (some (0))
        else
        (some (1))))
def f_X11_starMinute (p1 : Int32) (p2 : Int32) : Option (Int32) :=
    some ((jrem (p2 + (4 * p1)) 1440))
def f_X9_put_L3 (p1 : Int32)  : Nat → Int32 → Int32 → (Nat → Int32) → Option (Int32 × (Nat → Int32))
  | 0, _, _, _ => none
  | n3 + 1, x2_2, length__3, bytes__4 =>
    if x2_2 < 0 then
    (some (length__3, bytes__4))
    else
    (if 200 ≤ length__3 then
      (some (length__3, bytes__4))
      else
      (nmI ((jushr p1 x2_2) &&& 255) fun v34_15 =>
        wrI bytes__4 200 length__3 v34_15 fun g34_18 =>
        nmI (length__3 + 1) fun v42_23 =>
        nmI (x2_2 + (-8)) fun v45_27 =>
        (f_X9_put_L3 p1  n3) v45_27 v42_23 g34_18))
def f_X9_put (s_length : Int32) (s_bytes : Nat → Int32) (p1 : Int32) : Option (Int32 × (Nat → Int32)) :=
    (f_X9_put_L3 p1  FU) 24 s_length s_bytes
def f_X9_clear (s_length : Int32) : Option (Int32) :=
    some (0)
def f_X0_add_J33 (s_many : Int32) (s_times : Nat → Int32) (p1 : Int32)   : Option (Int32 × Int32 × (Nat → Int32)) :=
    wrI s_times 40 s_many p1 fun g42_7 =>
    nmI (s_many + 1) fun v50_12 =>
    some ((v50_12 - 1), v50_12, g42_7)
def f_X0_add (s_many : Int32) (s_times : Nat → Int32) (p1 : Int32) : Option (Int32 × Int32 × (Nat → Int32)) :=
    if 40 ≤ s_many then
    (some ((-1), s_many, s_times))
    else
    (if s_many ≤ 0 then
      ((f_X0_add_J33 s_many s_times p1 ))
      else
      (rdI s_times 40 (s_many - 1) fun v27_22 =>
        if v27_22 < p1 then
        ((f_X0_add_J33 s_many s_times p1 ))
        else
        (some ((-1), s_many, s_times))))
def f_X3_add_J33 (s_many : Int32) (s_days : Nat → Int32) (s_minutes : Nat → Int32) (s_shapes : Nat → Int32) (p1 : Int32) (p2 : Int32) (p3 : Int32)   : Option (Int32 × Int32 × (Nat → Int32) × (Nat → Int32) × (Nat → Int32)) :=
    wrI s_days 40 s_many p1 fun g42_9 =>
    wrI s_minutes 40 s_many p2 fun g52_14 =>
    wrI s_shapes 40 s_many p3 fun g62_19 =>
    nmI (s_many + 1) fun v70_24 =>
    some ((v70_24 - 1), v70_24, g42_9, g52_14, g62_19)
def f_X3_add (s_many : Int32) (s_days : Nat → Int32) (s_minutes : Nat → Int32) (s_shapes : Nat → Int32) (p1 : Int32) (p2 : Int32) (p3 : Int32) : Option (Int32 × Int32 × (Nat → Int32) × (Nat → Int32) × (Nat → Int32)) :=
    if 40 ≤ s_many then
    (some ((-1), s_many, s_days, s_minutes, s_shapes))
    else
    (if s_many ≤ 0 then
      ((f_X3_add_J33 s_many s_days s_minutes s_shapes p1 p2 p3 ))
      else
      (rdI s_days 40 (s_many - 1) fun v27_36 =>
        if v27_36 ≤ p1 then
        ((f_X3_add_J33 s_many s_days s_minutes s_shapes p1 p2 p3 ))
        else
        (some ((-1), s_many, s_days, s_minutes, s_shapes))))
def f_X3_gather_L6 (s_many : Int32) (s_days : Nat → Int32) (s_minutes : Nat → Int32) (s_shapes : Nat → Int32) (p1 : Int32) (p2 : Int32) (p3 : Int32)  : Nat → Int32 → Int32 → (Nat → Int32) → Option (Int32 × (Nat → Int32))
  | 0, _, _, _ => none
  | n6 + 1, x4_3, x5_4, gathered__5 =>
    if s_many ≤ x5_4 then
    (some (x4_3, gathered__5))
    else
    (rdI s_shapes 40 x5_4 fun v21_11 =>
      if v21_11 = p1 then
      (rdI s_days 40 x5_4 fun v32_22 =>
        if p2 < v32_22 then
        (nmI (x5_4 + 1) fun v78_29 =>
          (f_X3_gather_L6 s_many s_days s_minutes s_shapes p1 p2 p3  n6) x4_3 v78_29 gathered__5)
        else
        (if p3 = 0 then
          (rdI s_minutes 40 x5_4 fun v73_36 =>
            wrI gathered__5 40 x4_3 v73_36 fun g74_40 =>
            nmI (x4_3 + 1) fun v75_45 =>
            nmI (x5_4 + 1) fun v78_49 =>
            (f_X3_gather_L6 s_many s_days s_minutes s_shapes p1 p2 p3  n6) v75_45 v78_49 g74_40)
          else
          (rdI s_days 40 x5_4 fun v53_53 =>
            rdI s_minutes 40 x5_4 fun v60_57 =>
            cb1 (f_X11_starMinute v53_53 v60_57) fun r61_61 =>
            wrI gathered__5 40 x4_3 r61_61 fun g74_66 =>
            nmI (x4_3 + 1) fun v75_71 =>
            nmI (x5_4 + 1) fun v78_75 =>
            (f_X3_gather_L6 s_many s_days s_minutes s_shapes p1 p2 p3  n6) v75_71 v78_75 g74_66)))
      else
      (nmI (x5_4 + 1) fun v78_18 =>
        (f_X3_gather_L6 s_many s_days s_minutes s_shapes p1 p2 p3  n6) x4_3 v78_18 gathered__5))
def f_X3_gather (s_many : Int32) (s_days : Nat → Int32) (s_gathered : Nat → Int32) (s_minutes : Nat → Int32) (s_shapes : Nat → Int32) (p1 : Int32) (p2 : Int32) (p3 : Int32) : Option (Int32 × (Nat → Int32)) :=
    (f_X3_gather_L6 s_many s_days s_minutes s_shapes p1 p2 p3  FU) 0 0 s_gathered
def f_X3_oneBy (s_many : Int32) (s_days : Nat → Int32) (s_gathered : Nat → Int32) (s_minutes : Nat → Int32) (s_shapes : Nat → Int32) (p1 : Int32) (p2 : Int32) (p3 : Int32) : Option (Int32 × (Nat → Int32)) :=
    cb2 (f_X3_gather s_many s_days s_gathered s_minutes s_shapes p1 p3 1) fun r4_1 o_gathered4_2 =>
    if 2 ≤ r4_1 then
    (none)
    else
    (some ((-1), o_gathered4_2))
def f_X3_knownDay_L2 (s_many : Int32) (s_days : Nat → Int32) (s_minutes : Nat → Int32) (s_shapes : Nat → Int32) (p1 : Int32) (p2 : Int32)  : Nat → Int32 → (Nat → Int32) → Option (Int32 × (Nat → Int32))
  | 0, _, _ => none
  | n2 + 1, x3_2, gathered__3 =>
    if s_many ≤ x3_2 then
    (some ((-1), gathered__3))
    else
    (rdI s_shapes 40 x3_2 fun v15_9 =>
      if v15_9 = p1 then
      (rdI s_days 40 x3_2 fun v28_20 =>
        cb2 (f_X3_oneBy s_many s_days gathered__3 s_minutes s_shapes p1 p2 v28_20) fun r29_24 o_gathered29_25 =>
        if r29_24 = 1 then
        (rdI s_days 40 x3_2 fun v51_34 =>
          some (v51_34, o_gathered29_25))
        else
        (if r29_24 = 2 then
          (rdI s_days 40 x3_2 fun v51_47 =>
            some (v51_47, o_gathered29_25))
          else
          (nmI (x3_2 + 1) fun v53_43 =>
            (f_X3_knownDay_L2 s_many s_days s_minutes s_shapes p1 p2  n2) v53_43 o_gathered29_25)))
      else
      (nmI (x3_2 + 1) fun v53_16 =>
        (f_X3_knownDay_L2 s_many s_days s_minutes s_shapes p1 p2  n2) v53_16 gathered__3))
def f_X3_knownDay (s_many : Int32) (s_days : Nat → Int32) (s_gathered : Nat → Int32) (s_minutes : Nat → Int32) (s_shapes : Nat → Int32) (p1 : Int32) (p2 : Int32) : Option (Int32 × (Nat → Int32)) :=
    (f_X3_knownDay_L2 s_many s_days s_minutes s_shapes p1 p2  FU) 0 s_gathered
def f_X3_longestRow (s_many : Int32) (s_days : Nat → Int32) (s_gathered : Nat → Int32) (s_minutes : Nat → Int32) (s_shapes : Nat → Int32) (p1 : Int32) (p2 : Int32) (p3 : Int32) : Option (Int32 × (Nat → Int32)) :=
    cb2 (f_X3_gather s_many s_days s_gathered s_minutes s_shapes p1 400 1) fun r6_1 o_gathered6_2 =>
    if r6_1 ≤ 0 then
    (if p3 = 0 then
      (if r6_1 ≤ 0 then
        (some ((-1), o_gathered6_2))
        else
        (some (0, o_gathered6_2)))
      else
      (some ((-1), o_gathered6_2)))
    else
    (rdI o_gathered6_2 40 0 fun v34_26 =>
      none)
def f_X2_add (s_many : Int32) (s_days : Nat → Int32) (s_shifts : Nat → Int32) (p1 : Int32) (p2 : Int32) : Option (Int32 × Int32 × (Nat → Int32) × (Nat → Int32)) :=
    if s_many < 30 then
    (wrI s_days 30 s_many p1 fun g20_4 =>
      wrI s_shifts 30 s_many p2 fun g30_9 =>
      nmI (s_many + 1) fun v38_14 =>
      some ((v38_14 - 1), v38_14, g20_4, g30_9))
    else
    (some ((-1), s_many, s_days, s_shifts))
def f_X2_storyAt (s_stories : Nat → Option Nat) (p1 : Int32) : Option (Unit) :=
    cb1 (f_X11_isStory p1) fun r1_1 =>
    if r1_1 = 0 then
    (some ())
    else
    (rdN s_stories 6 p1 <|
      some ())
def f_X2_alone_J112 (p2 : Int32) (fallen__2 : Nat → Int32)  (x3_4 : Int32) (x5_5 : Int32) : Option (Int32 × (Nat → Int32)) :=
    if p2 = 0 then
    (some (x3_4, fallen__2))
    else
    (some (x5_5, fallen__2))
def f_X2_alone_J106 (x3_13 : Int32) (K46 : Int32 → Option (Int32 × (Nat → Int32))) (K112 : Int32 → Int32 → Option (Int32 × (Nat → Int32))) (x4_22 : Int32) (x5_23 : Int32) : Option (Int32 × (Nat → Int32)) :=
    if x4_22 = 1 then
    (K112 x3_13 x5_23)
    else
    (nmI (x3_13 + 1) fun v123_27 =>
      K46 v123_27)
def f_X2_alone_J93 (x4_31 : Int32) (K63 : Int32 → Int32 → Int32 → Option (Int32 × (Nat → Int32))) (x6_41 : Int32) : Option (Int32 × (Nat → Int32)) :=
    nmI (x4_31 + 1) fun v93_42 =>
    nmI (x6_41 + 1) fun v100_47 =>
    K63 v93_42 x6_41 v100_47
def f_X2_alone_L63 (fallen__2 : Nat → Int32) (x3_13 : Int32) (K106 : Int32 → Int32 → Option (Int32 × (Nat → Int32))) : Nat → Int32 → Int32 → Int32 → Option (Int32 × (Nat → Int32))
  | 0, _, _, _ => none
  | n63 + 1, x4_31, x5_32, x6_33 =>
    if 6 ≤ x6_33 then
    (K106 x4_31 x5_32)
    else
    (rdI fallen__2 6 x6_33 fun v76_37 =>
      if v76_37 = (-2) then
      ((f_X2_alone_J93 x4_31 (f_X2_alone_L63 fallen__2 x3_13 K106 n63)) x6_33)
      else
      (rdI fallen__2 6 x6_33 fun v88_54 =>
        if v88_54 ≤ x3_13 then
        (nmI (x6_33 + 1) fun v100_61 =>
          (f_X2_alone_L63 fallen__2 x3_13 K106 n63) x4_31 x5_32 v100_61)
        else
        ((f_X2_alone_J93 x4_31 (f_X2_alone_L63 fallen__2 x3_13 K106 n63)) x6_33)))
def f_X2_alone_L46 (s_many : Int32) (fallen__2 : Nat → Int32) (K112 : Int32 → Int32 → Option (Int32 × (Nat → Int32))) : Nat → Int32 → Option (Int32 × (Nat → Int32))
  | 0, _ => none
  | n46 + 1, x3_13 =>
    if s_many ≤ x3_13 then
    (some ((-1), fallen__2))
    else
    ((f_X2_alone_L63 fallen__2 x3_13 (f_X2_alone_J106 x3_13 (f_X2_alone_L46 s_many fallen__2 K112 n46) K112) FU) 0 (-1) 0)
def f_X2_alone_J44 (s_many : Int32) (p2 : Int32)  (fallen__2 : Nat → Int32) : Option (Int32 × (Nat → Int32)) :=
    (f_X2_alone_L46 s_many fallen__2 (f_X2_alone_J112 p2 fallen__2 ) FU) 0
def f_X2_alone_L2 (s_stories : Nat → Option Nat) (K44 : (Nat → Int32) → Option (Int32 × (Nat → Int32))) : Nat → Int32 → (Nat → Int32) → Option (Int32 × (Nat → Int32))
  | 0, _, _ => none
  | n2 + 1, x3_65, fallen__66 =>
    if 6 ≤ x3_65 then
    (K44 fallen__66)
    else
    (rdN s_stories 6 x3_65 <|
      wrI fallen__66 6 x3_65 0 fun g37_73 =>
      nmI (x3_65 + 1) fun v38_78 =>
      (f_X2_alone_L2 s_stories K44 n2) v38_78 g37_73)
def f_X2_alone (s_many : Int32) (s_fallen : Nat → Int32) (s_stories : Nat → Option Nat) (p1 : Int32) (p2 : Int32) : Option (Int32 × (Nat → Int32)) :=
    (f_X2_alone_L2 s_stories (f_X2_alone_J44 s_many p2 ) FU) 0 s_fallen
def f_X2_greatestSize_J165    : Option (Int32) :=
    some (2000)
def f_X2_greatestSize (s_many : Int32) (s_days : Nat → Int32) (p1 : Int32) (p2 : Int32) (p3 : Int32) : Option (Int32) :=
    if s_many ≤ 0 then
    (f_X2_greatestSize_J165)
    else
    (if p1 ≤ 0 then
      (f_X2_greatestSize_J165)
      else
      (rdI s_days 30 0 fun v30_12 =>
        dvI p1 <|
        none))
def f_X2_greatestOrbit_L6 (s_many : Int32) (s_days : Nat → Int32) (p1 : Int32) (p2 : Int32)  : Nat → Int32 → Int32 → Option (Int32)
  | 0, _, _ => none
  | n6 + 1, x3_3, x4_4 =>
    if p1 ≤ x4_4 then
    (some (x3_3))
    else
    (cb1 (f_X2_greatestSize s_many s_days p1 x4_4 p2) fun r18_9 =>
      nmI (jmax x3_3 r18_9) fun v24_14 =>
      nmI (x4_4 + 1) fun v25_18 =>
      (f_X2_greatestOrbit_L6 s_many s_days p1 p2  n6) v24_14 v25_18)
def f_X2_greatestOrbit (s_many : Int32) (s_days : Nat → Int32) (p1 : Int32) (p2 : Int32) : Option (Int32) :=
    (f_X2_greatestOrbit_L6 s_many s_days p1 p2  FU) (-2) 0
def f_X1_missesFrom (s_best : Nat → Int32) (s_tens : Nat → Int32) (p1 : Int32) (p2 : Int32) (p3 : Int32) : Option (Int32) :=
    rdI s_best 287 ((p2 * 41) + (jmin 40 (p1 + p3))) fun v17_1 =>
    if v17_1 = (-1) then
    (some ((-1)))
    else
    (rdI s_tens 40 p1 fun v37_9 =>
      some (((10 - v37_9) * v17_1)))
def f_X1_weigh_J97 (x3_2 : Int32) (x4_15 : Int32) (best__16 : Nat → Int32) (v50_24 : Int32) (t0_29 : Int32) (K32 : Int32 → (Nat → Int32) → Option ((Nat → Int32))) (t0_31 : Int32) : Option ((Nat → Int32)) :=
    if t0_31 = 0 then
    (wrI best__16 287 ((x3_2 * 41) + x4_15) v50_24 fun g122_36 =>
      nmI (x4_15 + (-1)) fun v123_41 =>
      K32 v123_41 g122_36)
    else
    (wrI best__16 287 ((x3_2 * 41) + x4_15) t0_29 fun g122_45 =>
      nmI (x4_15 + (-1)) fun v123_50 =>
      K32 v123_50 g122_45)
def f_X1_weigh_J71 (x3_2 : Int32) (x4_15 : Int32) (best__16 : Nat → Int32) (v50_24 : Int32) (K32 : Int32 → (Nat → Int32) → Option ((Nat → Int32))) (t0_29 : Int32) : Option ((Nat → Int32)) :=
    if t0_29 = (-1) then
    ((f_X1_weigh_J97 x3_2 x4_15 best__16 v50_24 t0_29 K32) 0)
    else
    (if v50_24 = (-1) then
      ((f_X1_weigh_J97 x3_2 x4_15 best__16 v50_24 t0_29 K32) 1)
      else
      (if v50_24 ≤ t0_29 then
        ((f_X1_weigh_J97 x3_2 x4_15 best__16 v50_24 t0_29 K32) 0)
        else
        ((f_X1_weigh_J97 x3_2 x4_15 best__16 v50_24 t0_29 K32) 1)))
def f_X1_weigh_L32 (s_tens : Nat → Int32) (p2 : Int32) (x3_2 : Int32) (K2 : Int32 → (Nat → Int32) → Option ((Nat → Int32))) : Nat → Int32 → (Nat → Int32) → Option ((Nat → Int32))
  | 0, _, _ => none
  | n32 + 1, x4_15, best__16 =>
    if x4_15 < 0 then
    (nmI (x3_2 + 1) fun v129_20 =>
      K2 v129_20 best__16)
    else
    (rdI best__16 287 (((x3_2 * 41) + x4_15) + 1) fun v50_24 =>
      if x3_2 = 0 then
      ((f_X1_weigh_J71 x3_2 x4_15 best__16 v50_24 (f_X1_weigh_L32 s_tens p2 x3_2 K2 n32)) 1)
      else
      (cb1 (f_X1_missesFrom best__16 s_tens x4_15 (x3_2 - 1) p2) fun r68_66 =>
        (f_X1_weigh_J71 x3_2 x4_15 best__16 v50_24 (f_X1_weigh_L32 s_tens p2 x3_2 K2 n32)) r68_66))
def f_X1_weigh_J27 (s_tens : Nat → Int32) (p2 : Int32) (x3_2 : Int32) (best__3 : Nat → Int32) (K2 : Int32 → (Nat → Int32) → Option ((Nat → Int32))) (t2_8 : Int32) : Option ((Nat → Int32)) :=
    wrI best__3 287 ((x3_2 * 41) + 40) t2_8 fun g27_9 =>
    (f_X1_weigh_L32 s_tens p2 x3_2 K2 FU) 39 g27_9
def f_X1_weigh_L2 (s_tens : Nat → Int32) (p1 : Int32) (p2 : Int32)  : Nat → Int32 → (Nat → Int32) → Option ((Nat → Int32))
  | 0, _, _ => none
  | n2 + 1, x3_2, best__3 =>
    if p1 < x3_2 then
    (some (best__3))
    else
    (if x3_2 = 0 then
      ((f_X1_weigh_J27 s_tens p2 x3_2 best__3 (f_X1_weigh_L2 s_tens p1 p2  n2)) 1)
      else
      ((f_X1_weigh_J27 s_tens p2 x3_2 best__3 (f_X1_weigh_L2 s_tens p1 p2  n2)) (-1)))
def f_X1_weigh (s_best : Nat → Int32) (s_tens : Nat → Int32) (p1 : Int32) (p2 : Int32) : Option ((Nat → Int32)) :=
    (f_X1_weigh_L2 s_tens p1 p2  FU) 0 s_best
def f_X1_goesOn (s_unseen : Int32) (s_best : Nat → Int32) (s_tens : Nat → Int32) (p1 : Int32) (p2 : Int32) (p3 : Int32) (p4 : Int32) : Option (Int32) :=
    cb1 (f_X1_missesFrom s_best s_tens p2 p3 p4) fun r5_1 =>
    if r5_1 = (-1) then
    (some (0))
    else
    (if (p1 * r5_1) = s_unseen then
      (some (1))
      else
      (some (0)))
def f_X1_choose_J67 (s_tens : Nat → Int32) (p2 : Int32) (x3_14 : Int32) (x5_16 : Int32) (chosen__17 : Nat → Int32) (K27 : Int32 → Int32 → Int32 → (Nat → Int32) → Option (Int32 × (Nat → Int32) × (Nat → Int32))) (x4_28 : Int32) : Option (Int32 × (Nat → Int32) × (Nat → Int32)) :=
    wrI chosen__17 6 x5_16 x4_28 fun g75_29 =>
    rdI s_tens 40 x4_28 fun v85_34 =>
    nmI (x3_14 * (10 - v85_34)) fun v88_38 =>
    nmI (jmin 39 (x4_28 + p2)) fun v98_42 =>
    nmI (x5_16 + 1) fun v100_46 =>
    K27 v88_38 v98_42 v100_46 g75_29
def f_X1_choose_L41 (s_tens : Nat → Int32) (p2 : Int32) (o_best3_1 : Nat → Int32) (v15_6 : Int32) (x3_14 : Int32) (v39_24 : Int32) (K67 : Int32 → Option (Int32 × (Nat → Int32) × (Nat → Int32))) : Nat → Int32 → Option (Int32 × (Nat → Int32) × (Nat → Int32))
  | 0, _ => none
  | n41 + 1, x4_50 =>
    if 39 ≤ x4_50 then
    (K67 x4_50)
    else
    (cb1 (f_X1_goesOn v15_6 o_best3_1 s_tens x3_14 x4_50 v39_24 p2) fun r55_54 =>
      if r55_54 = 0 then
      (nmI (x4_50 + 1) fun v61_62 =>
        (f_X1_choose_L41 s_tens p2 o_best3_1 v15_6 x3_14 v39_24 K67 n41) v61_62)
      else
      (K67 x4_50))
def f_X1_choose_L27 (s_tens : Nat → Int32) (p1 : Int32) (p2 : Int32) (o_best3_1 : Nat → Int32) (v15_6 : Int32)  : Nat → Int32 → Int32 → Int32 → (Nat → Int32) → Option (Int32 × (Nat → Int32) × (Nat → Int32))
  | 0, _, _, _, _ => none
  | n27 + 1, x3_14, x4_15, x5_16, chosen__17 =>
    if p1 ≤ x5_16 then
    (some (v15_6, o_best3_1, chosen__17))
    else
    (nmI ((p1 - x5_16) - 1) fun v39_24 =>
      (f_X1_choose_L41 s_tens p2 o_best3_1 v15_6 x3_14 v39_24 (f_X1_choose_J67 s_tens p2 x3_14 x5_16 chosen__17 (f_X1_choose_L27 s_tens p1 p2 o_best3_1 v15_6  n27)) FU) x4_15)
def f_X1_choose (s_unseen : Int32) (s_best : Nat → Int32) (s_chosen : Nat → Int32) (s_tens : Nat → Int32) (p1 : Int32) (p2 : Int32) : Option (Int32 × (Nat → Int32) × (Nat → Int32)) :=
    cb1 (f_X1_weigh s_best s_tens p1 p2) fun o_best3_1 =>
    rdI o_best3_1 287 (p1 * 41) fun v15_6 =>
    (f_X1_choose_L27 s_tens p1 p2 o_best3_1 v15_6  FU) 1 0 0 s_chosen
def f_X1_choices_L5 (p1 : Int32) (p2 : Int32)  : Nat → Int64 → Int32 → Option (Int64)
  | 0, _, _ => none
  | n5 + 1, x2_3, x4_4 =>
    if p2 < x4_4 then
    (some (x2_3))
    else
    (dvL (Int32.toInt64 x4_4) <|
      nmL ((x2_3 * (Int32.toInt64 ((p1 - p2) + x4_4))) / (Int32.toInt64 x4_4)) fun v24_11 =>
      nmI (x4_4 + 1) fun v25_15 =>
      (f_X1_choices_L5 p1 p2  n5) v24_11 v25_15)
def f_X1_choices (p1 : Int32) (p2 : Int32) : Option (Int64) :=
    (f_X1_choices_L5 p1 p2  FU) 1 1
def f_X1_drawsWith (p1 : Int32) (p2 : Int32) (p3 : Int32) (p4 : Int32) : Option (Int64) :=
    cb1 (f_X1_choices p1 p3) fun r2_1 =>
    cb1 (f_X1_choices (p4 - p1) (p2 - p3)) fun r11_6 =>
    some ((r2_1 * r11_6))
def f_X1_commonDivisor_J44   (x4_4 : Int64) : Option (Int64) :=
    some ((jmaxL 1 x4_4))
def f_X1_commonDivisor_L9  (K44 : Int64 → Option (Int64)) : Nat → Int64 → Int64 → Int32 → Option (Int64)
  | 0, _, _, _ => none
  | n9 + 1, x4_6, x6_7, x8_8 =>
    if 100 ≤ x8_8 then
    (K44 x4_6)
    else
    (if (lg_cmp x6_7 0) = 0 then
      (K44 x4_6)
      else
      (dvL x6_7 <|
        nmL (jremL x4_6 x6_7) fun v28_17 =>
        nmI (x8_8 + 1) fun v38_23 =>
        (f_X1_commonDivisor_L9  K44 n9) x6_7 v28_17 v38_23))
def f_X1_commonDivisor (p1 : Int64) (p2 : Int64) : Option (Int64) :=
    (f_X1_commonDivisor_L9  f_X1_commonDivisor_J44 FU) p1 p2 0
def f_X7_add (s_many : Int32) : Option (Int32 × Int32) :=
    if s_many < 10 then
    (gdN 10 s_many <|
      nmI (s_many + 1) fun v28_7 =>
      some ((v28_7 - 1), v28_7))
    else
    (some ((-1), s_many))
def f_X7_sourceAt (s_many : Int32) (s_sources : Nat → Option Nat) (p1 : Int32) : Option (Unit) :=
    cb1 (f_X11_isWithin p1 0 (s_many - 1)) fun r8_1 =>
    if r8_1 = 0 then
    (some ())
    else
    (rdN s_sources 10 p1 <|
      some ())
def f_J7_fill_53178_L5 (n_p1 : Nat) (p2 : Int32) (v4_2 : Int32)  : Nat → Int32 → (Nat → Int32) → Option ((Nat → Int32))
  | 0, _, _ => none
  | n5 + 1, x2_6, p1__7 =>
    if v4_2 ≤ x2_6 then
    (some (p1__7))
    else
    (wrI p1__7 n_p1 x2_6 p2 fun g13_12 =>
      nmI (x2_6 + 1) fun v14_17 =>
      (f_J7_fill_53178_L5 n_p1 p2 v4_2  n5) v14_17 g13_12)
def f_J7_fill_53178 (n_p1 : Nat) (s_p1 : Nat → Int32) (p2 : Int32) : Option ((Nat → Int32)) :=
    nmI (Int32.ofNat n_p1) fun v4_2 =>
    (f_J7_fill_53178_L5 n_p1 p2 v4_2  FU) 0 s_p1
def f_X4_clear (s_readers : Int32) (s_day : Int32) (s_heights : Nat → Int32) (s_highest : Nat → Int32) (s_shapes : Nat → Int32) (p1 : Int32) : Option (Int32 × Int32 × (Nat → Int32) × (Nat → Int32) × (Nat → Int32)) :=
    cb1 (f_J7_fill_53178 1440 s_heights 0) fun o_p115_3 =>
    cb1 (f_J7_fill_53178 1440 s_highest 0) fun o_p123_8 =>
    cb1 (f_J7_fill_53178 1440 s_shapes 4) fun o_p131_13 =>
    some (0, p1, o_p115_3, o_p123_8, o_p131_13)
def f_X7_lay_L16 (s_many : Int32) (s_sources : Nat → Option Nat) (o_readers11_4 : Int32) (o_day11_5 : Int32) (o_heights11_6 : Nat → Int32) (o_highest11_7 : Nat → Int32) (o_shapes11_8 : Nat → Int32)  : Nat → Int32 → Option (Int32 × Int32 × (Nat → Int32) × (Nat → Int32) × (Nat → Int32))
  | 0, _ => none
  | n16 + 1, x3_14 =>
    if s_many ≤ x3_14 then
    (some (o_readers11_4, o_day11_5, o_heights11_6, o_highest11_7, o_shapes11_8))
    else
    (rdN s_sources 10 x3_14 <|
      nmI (x3_14 + 1) fun v61_27 =>
      (f_X7_lay_L16 s_many s_sources o_readers11_4 o_day11_5 o_heights11_6 o_highest11_7 o_shapes11_8  n16) v61_27)
def f_X7_lay (s_many : Int32) (s_p1_readers : Int32) (s_p1_day : Int32) (s_p1_heights : Nat → Int32) (s_p1_highest : Nat → Int32) (s_p1_shapes : Nat → Int32) (s_sources : Nat → Option Nat) (p2 : Int32) : Option (Int32 × Int32 × (Nat → Int32) × (Nat → Int32) × (Nat → Int32)) :=
    if s_p1_day = p2 then
    (some (s_p1_readers, s_p1_day, s_p1_heights, s_p1_highest, s_p1_shapes))
    else
    (cb5 (f_X4_clear s_p1_readers s_p1_day s_p1_heights s_p1_highest s_p1_shapes p2) fun o_readers11_4 o_day11_5 o_heights11_6 o_highest11_7 o_shapes11_8 =>
      (f_X7_lay_L16 s_many s_sources o_readers11_4 o_day11_5 o_heights11_6 o_highest11_7 o_shapes11_8  FU) 0)
def f_X4_forget (s_day : Int32) : Option (Int32) :=
    some ((-1))
def f_X4_greatestOf_L5 (s_heights : Nat → Int32) (p2 : Int32)  : Nat → Int32 → Int32 → Option (Int32)
  | 0, _, _ => none
  | n5 + 1, x3_3, x4_4 =>
    if p2 < x4_4 then
    (some (x3_3))
    else
    (if 1440 ≤ x4_4 then
      (some (x3_3))
      else
      (rdI s_heights 1440 x4_4 fun v26_13 =>
        nmI (jmax x3_3 v26_13) fun v30_17 =>
        nmI (x4_4 + 1) fun v31_21 =>
        (f_X4_greatestOf_L5 s_heights p2  n5) v30_17 v31_21))
def f_X4_greatestOf (s_heights : Nat → Int32) (p1 : Int32) (p2 : Int32) : Option (Int32) :=
    (f_X4_greatestOf_L5 s_heights p2  FU) 0 p1
def f_X4_greatestBefore_J51 (s_heights : Nat → Int32) (p1 : Int32) (p2 : Int32) (v31_1 : Int32)  (t0_5 : Int32) : Option (Int32) :=
    if t0_5 = 0 then
    (cb1 (f_X4_greatestOf s_heights (v31_1 + 1) (p1 - 1)) fun r69_10 =>
      some (r69_10))
    else
    (some (p2))
def f_X4_greatestBefore_J25 (s_heights : Nat → Int32) (p1 : Int32) (p2 : Int32)   : Option (Int32) :=
    nmI ((p1 - 10) - 1) fun v31_1 =>
    if v31_1 < 0 then
    ((f_X4_greatestBefore_J51 s_heights p1 p2 v31_1 ) 1)
    else
    (rdI s_heights 1440 v31_1 fun v41_20 =>
      if p2 ≤ v41_20 then
      ((f_X4_greatestBefore_J51 s_heights p1 p2 v31_1 ) 0)
      else
      ((f_X4_greatestBefore_J51 s_heights p1 p2 v31_1 ) 1))
def f_X4_greatestBefore (s_heights : Nat → Int32) (p1 : Int32) (p2 : Int32) : Option (Int32) :=
    if p1 ≤ 0 then
    ((f_X4_greatestBefore_J25 s_heights p1 p2 ))
    else
    (rdI s_heights 1440 (p1 - 1) fun v11_30 =>
      if v11_30 < p2 then
      ((f_X4_greatestBefore_J25 s_heights p1 p2 ))
      else
      (rdI s_heights 1440 (p1 - 1) fun v23_37 =>
        some (v23_37)))
def f_X4_isMarked (s_marked : Nat → Int32) (p1 : Int32) (p2 : Int32) : Option (Int32) :=
    cb1 (f_X11_isMinute p2) fun r1_1 =>
    if r1_1 = 0 then
    (some (0))
    else
    (rdI s_marked 1440 p2 fun v12_10 =>
      if ((jshr v12_10 p1) &&& 1) = 1 then
      (some (1))
      else
      (some (0)))
def f_X4_read_J192 (v3_1 : Int32) (x6_34 : Int32) (marked__35 : Nat → Int32) (r79_43 : Int32) (K66 : Int32 → Int32 → (Nat → Int32) → (Nat → Int32) → Option (Int32 × (Nat → Int32) × (Nat → Int32))) (reckoner_letters__98 : Nat → Int32) : Option (Int32 × (Nat → Int32) × (Nat → Int32)) :=
    rdI marked__35 1440 x6_34 fun v244_101 =>
    nmI (v244_101 &&& (v3_1 ^^^ (-1))) fun v249_105 =>
    wrI marked__35 1440 x6_34 v249_105 fun g249_108 =>
    nmI (x6_34 + 1) fun v250_113 =>
    K66 r79_43 v250_113 g249_108 reckoner_letters__98
def f_X4_read_J125 (s_day : Int32) (s_shapes : Nat → Int32) (p1 : Int32) (v3_1 : Int32) (x6_34 : Int32) (marked__35 : Nat → Int32) (r79_43 : Int32) (g102_58 : Nat → Int32) (K66 : Int32 → Int32 → (Nat → Int32) → (Nat → Int32) → Option (Int32 × (Nat → Int32) × (Nat → Int32))) (t2_63 : Int32) : Option (Int32 × (Nat → Int32) × (Nat → Int32)) :=
    wrI g102_58 128 98 t2_63 fun g125_64 =>
    rdI s_shapes 1440 x6_34 fun v136_69 =>
    wrI g125_64 128 108 v136_69 fun g137_73 =>
    wrI g137_73 128 109 x6_34 fun g144_78 =>
    cb1 (f_X11_starMinute s_day x6_34) fun r155_83 =>
    wrI g144_78 128 115 r155_83 fun g158_88 =>
    cb1 (f_X4_isMarked marked__35 p1 (x6_34 - 2)) fun r165_93 =>
    if r165_93 = 0 then
    ((f_X4_read_J192 v3_1 x6_34 marked__35 r79_43 K66) g158_88)
    else
    (cb1 (f_X4_isMarked marked__35 p1 (x6_34 - 1)) fun r177_120 =>
      if r177_120 = 0 then
      (rdI g158_88 128 116 fun v188_128 =>
        nmI (v188_128 + 1) fun v191_132 =>
        wrI g158_88 128 116 v191_132 fun g191_135 =>
        (f_X4_read_J192 v3_1 x6_34 marked__35 r79_43 K66) g191_135)
      else
      ((f_X4_read_J192 v3_1 x6_34 marked__35 r79_43 K66) g158_88))
def f_X4_read_L66 (s_day : Int32) (s_heights : Nat → Int32) (s_shapes : Nat → Int32) (p1 : Int32) (v3_1 : Int32) (v21_8 : Int32)  : Nat → Int32 → Int32 → (Nat → Int32) → (Nat → Int32) → Option (Int32 × (Nat → Int32) × (Nat → Int32))
  | 0, _, _, _, _ => none
  | n66 + 1, x5_33, x6_34, marked__35, reckoner_letters__36 =>
    if 1440 ≤ x6_34 then
    (some (v21_8, marked__35, reckoner_letters__36))
    else
    (cb1 (f_X4_greatestBefore s_heights x6_34 x5_33) fun r79_43 =>
      wrI reckoner_letters__36 128 103 r79_43 fun g90_49 =>
      rdI s_heights 1440 x6_34 fun v101_54 =>
      wrI g90_49 128 104 v101_54 fun g102_58 =>
      if x6_34 ≤ 0 then
      ((f_X4_read_J125 s_day s_shapes p1 v3_1 x6_34 marked__35 r79_43 g102_58 (f_X4_read_L66 s_day s_heights s_shapes p1 v3_1 v21_8  n66)) 0)
      else
      (rdI s_heights 1440 (x6_34 - 1) fun v120_143 =>
        (f_X4_read_J125 s_day s_shapes p1 v3_1 x6_34 marked__35 r79_43 g102_58 (f_X4_read_L66 s_day s_heights s_shapes p1 v3_1 v21_8  n66)) v120_143))
def f_X4_read (s_readers : Int32) (s_day : Int32) (s_heights : Nat → Int32) (s_marked : Nat → Int32) (s_shapes : Nat → Int32) (s_reckoner_letters : Nat → Int32) (p1 : Int32) : Option (Int32 × (Nat → Int32) × (Nat → Int32)) :=
    nmI (jshl 1 p1) fun v3_1 =>
    if (s_readers &&& v3_1) = 0 then
    (nmI (s_readers ||| v3_1) fun v21_8 =>
      wrI s_reckoner_letters 128 100 s_day fun g41_13 =>
      nmI (jrem s_day 7) fun v53_18 =>
      wrI g41_13 128 102 v53_18 fun g53_21 =>
      wrI g53_21 128 116 0 fun g59_26 =>
      (f_X4_read_L66 s_day s_heights s_shapes p1 v3_1 v21_8  FU) 0 0 s_marked g59_26)
    else
    (some (s_readers, s_marked, s_reckoner_letters))
def f_X4_beginsMark (s_marked : Nat → Int32) (p1 : Int32) (p2 : Int32) : Option (Int32) :=
    cb1 (f_X4_isMarked s_marked p1 p2) fun r3_1 =>
    if r3_1 = 0 then
    (some (0))
    else
    (cb1 (f_X4_isMarked s_marked p1 (p2 - 1)) fun r14_10 =>
      if r14_10 = 0 then
      (some (1))
      else
      (some (0)))
def f_X4_marksOf_L4 (s_marked : Nat → Int32) (p1 : Int32)  : Nat → Int32 → Int32 → Option (Int32)
  | 0, _, _ => none
  | n4 + 1, x2_3, x3_4 =>
    if 1440 ≤ x3_4 then
    (some (x2_3))
    else
    (cb1 (f_X4_beginsMark s_marked p1 x3_4) fun r15_9 =>
      if r15_9 = 0 then
      (nmI (x2_3 + 0) fun v27_17 =>
        nmI (x3_4 + 1) fun v28_21 =>
        (f_X4_marksOf_L4 s_marked p1  n4) v27_17 v28_21)
      else
      (nmI (x2_3 + 1) fun v27_25 =>
        nmI (x3_4 + 1) fun v28_29 =>
        (f_X4_marksOf_L4 s_marked p1  n4) v27_25 v28_29))
def f_X4_marksOf (s_marked : Nat → Int32) (p1 : Int32) : Option (Int32) :=
    (f_X4_marksOf_L4 s_marked p1  FU) 0 0
def f_X4_markNumber_J29   (x4_6 : Int32) : Option (Int32) :=
    none
def f_X4_markNumber_L7 (s_marked : Nat → Int32) (p1 : Int32) (K29 : Int32 → Option (Int32)) : Nat → Int32 → Int32 → Option (Int32)
  | 0, _, _ => none
  | n7 + 1, x3_7, x4_8 =>
    if 1440 ≤ x4_8 then
    (some ((-1)))
    else
    (cb1 (f_X4_beginsMark s_marked p1 x4_8) fun r19_13 =>
      if r19_13 = 0 then
      (nmI (x4_8 + 1) fun v43_21 =>
        (f_X4_markNumber_L7 s_marked p1 K29 n7) x3_7 v43_21)
      else
      (if x3_7 = 0 then
        (K29 x4_8)
        else
        (nmI (x3_7 + (-1)) fun v40_28 =>
          nmI (x4_8 + 1) fun v43_32 =>
          (f_X4_markNumber_L7 s_marked p1 K29 n7) v40_28 v43_32)))
def f_X4_markNumber (s_marked : Nat → Int32) (p1 : Int32) (p2 : Int32) : Option (Int32) :=
    nmI (p2 / 3) fun v3_1 =>
    (f_X4_markNumber_L7 s_marked p1 f_X4_markNumber_J29 FU) v3_1 0
def f_X4_beginsPassed_L14 (s_marked : Nat → Int32) (p1 : Int32) (p2 : Int32)  : Nat → Int32 → Option (Int32)
  | 0, _ => none
  | n14 + 1, x4_10 =>
    if 1440 ≤ x4_10 then
    (some (1))
    else
    (cb1 (f_X4_isMarked s_marked p2 x4_10) fun r26_15 =>
      if r26_15 = 0 then
      (some (1))
      else
      (cb1 (f_X4_isMarked s_marked p1 x4_10) fun r36_24 =>
        if r36_24 = 0 then
        (nmI (x4_10 + 1) fun v44_32 =>
          (f_X4_beginsPassed_L14 s_marked p1 p2  n14) v44_32)
        else
        (some (0))))
def f_X4_beginsPassed (s_marked : Nat → Int32) (p1 : Int32) (p2 : Int32) (p3 : Int32) : Option (Int32) :=
    cb1 (f_X4_beginsMark s_marked p2 p3) fun r3_1 =>
    if r3_1 = 0 then
    (some (0))
    else
    ((f_X4_beginsPassed_L14 s_marked p1 p2  FU) p3)
def f_X4_passedMarks_L5 (s_marked : Nat → Int32) (p1 : Int32) (p2 : Int32)  : Nat → Int32 → Int32 → Option (Int32)
  | 0, _, _ => none
  | n5 + 1, x3_3, x4_4 =>
    if 1440 ≤ x4_4 then
    (some (x3_3))
    else
    (cb1 (f_X4_beginsPassed s_marked p1 p2 x4_4) fun r19_9 =>
      if r19_9 = 0 then
      (nmI (x3_3 + 0) fun v31_17 =>
        nmI (x4_4 + 1) fun v32_21 =>
        (f_X4_passedMarks_L5 s_marked p1 p2  n5) v31_17 v32_21)
      else
      (nmI (x3_3 + 1) fun v31_25 =>
        nmI (x4_4 + 1) fun v32_29 =>
        (f_X4_passedMarks_L5 s_marked p1 p2  n5) v31_25 v32_29))
def f_X4_passedMarks (s_marked : Nat → Int32) (p1 : Int32) (p2 : Int32) : Option (Int32) :=
    (f_X4_passedMarks_L5 s_marked p1 p2  FU) 0 0
def f_X4_firstWrong_J80 (p3 : Int32)   : Option (Int32) :=
    if (3 * p3) ≤ 0 then
    (some ((-1)))
    else
    (some (0))
def f_X4_firstWrong_L6 (s_marked : Nat → Int32) (p1 : Int32) (p3 : Int32) (K80 : Option (Int32)) : Nat → Int32 → Option (Int32)
  | 0, _ => none
  | n6 + 1, x5_8 =>
    if 1440 ≤ x5_8 then
    (K80)
    else
    (cb1 (f_X4_beginsMark s_marked p1 x5_8) fun r18_12 =>
      if r18_12 = 0 then
      (nmI (x5_8 + 1) fun v74_20 =>
        (f_X4_firstWrong_L6 s_marked p1 p3 K80 n6) v74_20)
      else
      (if 0 < (3 * p3) then
        (none)
        else
        (some (0))))
def f_X4_firstWrong (s_marked : Nat → Int32) (p1 : Int32) (p3 : Int32) : Option (Int32) :=
    (f_X4_firstWrong_L6 s_marked p1 p3 (f_X4_firstWrong_J80 p3 ) FU) 0
def f_X11_tapeHas (s_tape_length : Int32) (p1 : Int32) (p2 : Int32) : Option (Int32) :=
    cb1 (f_X11_isWithin p1 1 p2) fun r3_1 =>
    if r3_1 = 0 then
    (some (0))
    else
    (if s_tape_length < p1 then
      (some (0))
      else
      (some (1)))
def f_X11_canScan_J30 (s_blips_many : Int32) (p1 : Int32) (p2 : Int32) (p3 : Int32)  (t0_6 : Int32) : Option (Int32) :=
    if t0_6 = 0 then
    (some (0))
    else
    (if p2 < p1 then
      (some (0))
      else
      (if 2000 < (p2 - p1) then
        (some (0))
        else
        (if p1 ≤ (2 * p3) then
          (some (0))
          else
          (if s_blips_many < 2 then
            (some (0))
            else
            (some (1))))))
def f_X11_canScan (s_blips_many : Int32) (p1 : Int32) (p2 : Int32) (p3 : Int32) : Option (Int32) :=
    cb1 (f_X11_isBeat p1) fun r1_1 =>
    if r1_1 = 0 then
    ((f_X11_canScan_J30 s_blips_many p1 p2 p3 ) 0)
    else
    (cb1 (f_X11_isBeat p2) fun r8_32 =>
      if r8_32 = 0 then
      ((f_X11_canScan_J30 s_blips_many p1 p2 p3 ) 0)
      else
      (cb1 (f_X11_isWithin p3 0 1000) fun r19_40 =>
        if r19_40 = 0 then
        ((f_X11_canScan_J30 s_blips_many p1 p2 p3 ) 0)
        else
        ((f_X11_canScan_J30 s_blips_many p1 p2 p3 ) 1)))
def f_X11_clausesOf  : Option (Int32) :=
    some (0)
def f_X11_textCount (s_sky_many : Int32) (s_ways : Nat → Option Nat) (s_nights_stories : Nat → Option Nat) (s_sky_sources : Nat → Option Nat) (p1 : Int32) : Option (Int32) :=
    cb1 (f_X11_isWithin p1 10 ((10 + s_sky_many) - 1)) fun r15_1 =>
    if r15_1 = 0 then
    (cb1 (f_X11_isWithin p1 20 23) fun r54_9 =>
      if r54_9 = 0 then
      (cb1 (f_X11_isWithin p1 30 35) fun r78_17 =>
        if r78_17 = 0 then
        (some ((-1)))
        else
        (rdN s_nights_stories 6 (p1 - 30) <|
          cb1 (f_X11_clausesOf ) fun r96_29 =>
          some (r96_29)))
      else
      (rdN s_ways 4 (p1 - 20) <|
        cb1 (f_X11_clausesOf ) fun r69_38 =>
        some (r69_38)))
    else
    (cb1 (f_X7_sourceAt s_sky_many s_sky_sources (p1 - 10)) fun u29_44 =>
      some ((-1)))
def f_X11_seed (s_page_day : Int32) (s_sky_seed : Int32) (p1 : Int32) : Option (Int32 × Int32 × Int32) :=
    cb1 (f_X11_isWithin p1 0 999) fun r5_1 =>
    if r5_1 = 0 then
    (some (0, s_page_day, s_sky_seed))
    else
    (cb1 (f_X4_forget s_page_day) fun o_day17_9 =>
      some (1, o_day17_9, p1))
def f_X11_feed (s_tape_length : Int32) (s_tape_bytes : Nat → Int32) (p1 : Int32) (p2 : Int32) (p3 : Int32) (p4 : Int32) (p5 : Int32) : Option (Int32 × Int32 × (Nat → Int32)) :=
    if s_tape_length ≤ 180 then
    (cb2 (f_X9_put s_tape_length s_tape_bytes p1) fun o_length20_4 o_bytes20_5 =>
      cb2 (f_X9_put o_length20_4 o_bytes20_5 p2) fun o_length28_10 o_bytes28_11 =>
      cb2 (f_X9_put o_length28_10 o_bytes28_11 p3) fun o_length36_16 o_bytes36_17 =>
      cb2 (f_X9_put o_length36_16 o_bytes36_17 p4) fun o_length45_22 o_bytes45_23 =>
      cb2 (f_X9_put o_length45_22 o_bytes45_23 p5) fun o_length54_28 o_bytes54_29 =>
      some (o_length54_28, o_length54_28, o_bytes54_29))
    else
    (some ((-1), s_tape_length, s_tape_bytes))
def f_X11_law (s_sky_many : Int32) (s_sky_sources : Nat → Option Nat) (p1 : Int32) (p2 : Int32) : Option (Int32) :=
    cb1 (f_X7_sourceAt s_sky_many s_sky_sources p1) fun u5_1 =>
    some ((-1))
def f_X11_way (s_tape_length : Int32) (p1 : Int32) (p2 : Int32) : Option (Int32) :=
    cb1 (f_X11_isReader p1) fun r1_1 =>
    if r1_1 = 0 then
    (some ((-1)))
    else
    (cb1 (f_X11_tapeHas s_tape_length p2 120) fun r11_10 =>
      if r11_10 = 0 then
      (some ((-1)))
      else
      (none))
def f_X11_story (s_tape_length : Int32) (p1 : Int32) (p2 : Int32) : Option (Int32) :=
    cb1 (f_X11_isStory p1) fun r1_1 =>
    if r1_1 = 0 then
    (some ((-1)))
    else
    (cb1 (f_X11_tapeHas s_tape_length p2 60) fun r11_10 =>
      if r11_10 = 0 then
      (some ((-1)))
      else
      (none))
def f_X11_star (p1 : Int32) (p2 : Int32) : Option (Int32) :=
    cb1 (f_X11_isDay p1) fun r1_1 =>
    if r1_1 = 0 then
    (some ((-1)))
    else
    (cb1 (f_X11_isMinute p2) fun r8_10 =>
      if r8_10 = 0 then
      (some ((-1)))
      else
      (cb1 (f_X11_starMinute p1 p2) fun r16_19 =>
        some (r16_19)))
def f_X11_height (s_sky_many : Int32) (s_sky_sources : Nat → Option Nat) (p1 : Int32) (p2 : Int32) (p3 : Int32) : Option (Int32) :=
    cb1 (f_X7_sourceAt s_sky_many s_sky_sources p1) fun u5_1 =>
    some ((-1))
def f_X11_paper (s_page_readers : Int32) (s_page_day : Int32) (s_sky_many : Int32) (s_page_heights : Nat → Int32) (s_page_highest : Nat → Int32) (s_page_shapes : Nat → Int32) (s_sky_sources : Nat → Option Nat) (p1 : Int32) (p2 : Int32) (p3 : Int32) : Option (Int32 × Int32 × Int32 × (Nat → Int32) × (Nat → Int32) × (Nat → Int32)) :=
    cb1 (f_X11_isDay p1) fun r1_1 =>
    if r1_1 = 0 then
    (some ((-1), s_page_readers, s_page_day, s_page_heights, s_page_highest, s_page_shapes))
    else
    (cb1 (f_X11_isMinute p2) fun r8_15 =>
      if r8_15 = 0 then
      (some ((-1), s_page_readers, s_page_day, s_page_heights, s_page_highest, s_page_shapes))
      else
      (cb1 (f_X11_isWithin p3 0 1) fun r17_29 =>
        if r17_29 = 0 then
        (some ((-1), s_page_readers, s_page_day, s_page_heights, s_page_highest, s_page_shapes))
        else
        (cb5 (f_X7_lay s_sky_many s_page_readers s_page_day s_page_heights s_page_highest s_page_shapes s_sky_sources p1) fun o_p1_readers34_37 o_p1_day34_38 o_p1_heights34_39 o_p1_highest34_40 o_p1_shapes34_41 =>
          if p3 = 0 then
          (rdI o_p1_heights34_39 1440 p2 fun v49_59 =>
            some (v49_59, o_p1_readers34_37, o_p1_day34_38, o_p1_heights34_39, o_p1_highest34_40, o_p1_shapes34_41))
          else
          (rdI o_p1_shapes34_41 1440 p2 fun v61_49 =>
            some (v61_49, o_p1_readers34_37, o_p1_day34_38, o_p1_heights34_39, o_p1_highest34_40, o_p1_shapes34_41)))))
def f_X11_marks (s_page_readers : Int32) (s_page_day : Int32) (s_sky_many : Int32) (s_ways : Nat → Option Nat) (s_page_heights : Nat → Int32) (s_page_highest : Nat → Int32) (s_page_marked : Nat → Int32) (s_page_shapes : Nat → Int32) (s_sky_sources : Nat → Option Nat) (s_page_reckoner_letters : Nat → Int32) (p1 : Int32) (p2 : Int32) (p3 : Int32) : Option (Int32 × Int32 × Int32 × (Nat → Int32) × (Nat → Int32) × (Nat → Int32) × (Nat → Int32) × (Nat → Int32)) :=
    cb1 (f_X11_isReader p1) fun r1_1 =>
    if r1_1 = 0 then
    (some ((-1), s_page_readers, s_page_day, s_page_heights, s_page_highest, s_page_marked, s_page_shapes, s_page_reckoner_letters))
    else
    (cb1 (f_X11_isDay p2) fun r8_17 =>
      if r8_17 = 0 then
      (some ((-1), s_page_readers, s_page_day, s_page_heights, s_page_highest, s_page_marked, s_page_shapes, s_page_reckoner_letters))
      else
      (if (-1) ≤ p3 then
        (cb5 (f_X7_lay s_sky_many s_page_readers s_page_day s_page_heights s_page_highest s_page_shapes s_sky_sources p2) fun o_p1_readers30_36 o_p1_day30_37 o_p1_heights30_38 o_p1_highest30_39 o_p1_shapes30_40 =>
          rdN s_ways 4 p1 <|
          cb3 (f_X4_read o_p1_readers30_36 o_p1_day30_37 o_p1_heights30_38 s_page_marked o_p1_shapes30_40 s_page_reckoner_letters p1) fun o_readers44_48 o_marked44_49 o_reckoner_letters44_50 =>
          if p3 = (-1) then
          (cb1 (f_X4_marksOf o_marked44_49 p1) fun r57_71 =>
            some (r57_71, o_readers44_48, o_p1_day30_37, o_p1_heights30_38, o_p1_highest30_39, o_marked44_49, o_p1_shapes30_40, o_reckoner_letters44_50))
          else
          (cb1 (f_X4_markNumber o_marked44_49 p1 p3) fun r69_58 =>
            some (r69_58, o_readers44_48, o_p1_day30_37, o_p1_heights30_38, o_p1_highest30_39, o_marked44_49, o_p1_shapes30_40, o_reckoner_letters44_50)))
        else
        (some ((-1), s_page_readers, s_page_day, s_page_heights, s_page_highest, s_page_marked, s_page_shapes, s_page_reckoner_letters))))
def f_X11_passed_J143 (p5 : Int32)  (x8_35 : Int32) (page_day__36 : Int32) (page_readers__37 : Int32) (page_heights__38 : Nat → Int32) (page_highest__39 : Nat → Int32) (page_marked__40 : Nat → Int32) (page_reckoner_letters__41 : Nat → Int32) (page_shapes__42 : Nat → Int32) : Option (Int32 × Int32 × Int32 × (Nat → Int32) × (Nat → Int32) × (Nat → Int32) × (Nat → Int32) × (Nat → Int32)) :=
    if p5 = 1 then
    (some (x8_35, page_readers__37, page_day__36, page_heights__38, page_highest__39, page_marked__40, page_shapes__42, page_reckoner_letters__41))
    else
    (none)
def f_X11_passed_J177 (p5 : Int32)  (x7_54 : Int32) (page_day__55 : Int32) (page_readers__56 : Int32) (page_heights__57 : Nat → Int32) (page_highest__58 : Nat → Int32) (page_marked__59 : Nat → Int32) (page_reckoner_letters__60 : Nat → Int32) (page_shapes__61 : Nat → Int32) : Option (Int32 × Int32 × Int32 × (Nat → Int32) × (Nat → Int32) × (Nat → Int32) × (Nat → Int32) × (Nat → Int32)) :=
    if p5 = 0 then
    (some (x7_54, page_readers__56, page_day__55, page_heights__57, page_highest__58, page_marked__59, page_shapes__61, page_reckoner_letters__60))
    else
    (some ((-1), page_readers__56, page_day__55, page_heights__57, page_highest__58, page_marked__59, page_shapes__61, page_reckoner_letters__60))
def f_X11_passed_J164 (x7_81 : Int32) (x8_82 : Int32) (o_p1_day91_94 : Int32) (o_p1_heights91_95 : Nat → Int32) (o_p1_highest91_96 : Nat → Int32) (o_p1_shapes91_97 : Nat → Int32) (o_readers119_115 : Int32) (o_marked119_116 : Nat → Int32) (o_reckoner_letters119_117 : Nat → Int32) (r128_122 : Int32) (K74 : Int32 → Int32 → Int32 → Int32 → (Nat → Int32) → (Nat → Int32) → (Nat → Int32) → (Nat → Int32) → (Nat → Int32) → Option (Int32 × Int32 × Int32 × (Nat → Int32) × (Nat → Int32) × (Nat → Int32) × (Nat → Int32) × (Nat → Int32)))  : Option (Int32 × Int32 × Int32 × (Nat → Int32) × (Nat → Int32) × (Nat → Int32) × (Nat → Int32) × (Nat → Int32)) :=
    nmI (x7_81 + r128_122) fun v169_128 =>
    nmI (x8_82 + 1) fun v171_132 =>
    K74 v169_128 v171_132 o_p1_day91_94 o_readers119_115 o_p1_heights91_95 o_p1_highest91_96 o_marked119_116 o_reckoner_letters119_117 o_p1_shapes91_97
def f_X11_passed_L74 (s_sky_many : Int32) (s_ways : Nat → Option Nat) (s_sky_sources : Nat → Option Nat) (p1 : Int32) (p2 : Int32) (p4 : Int32) (p5 : Int32) (K143 : Int32 → Int32 → Int32 → (Nat → Int32) → (Nat → Int32) → (Nat → Int32) → (Nat → Int32) → (Nat → Int32) → Option (Int32 × Int32 × Int32 × (Nat → Int32) × (Nat → Int32) × (Nat → Int32) × (Nat → Int32) × (Nat → Int32))) (K177 : Int32 → Int32 → Int32 → (Nat → Int32) → (Nat → Int32) → (Nat → Int32) → (Nat → Int32) → (Nat → Int32) → Option (Int32 × Int32 × Int32 × (Nat → Int32) × (Nat → Int32) × (Nat → Int32) × (Nat → Int32) × (Nat → Int32))) : Nat → Int32 → Int32 → Int32 → Int32 → (Nat → Int32) → (Nat → Int32) → (Nat → Int32) → (Nat → Int32) → (Nat → Int32) → Option (Int32 × Int32 × Int32 × (Nat → Int32) × (Nat → Int32) × (Nat → Int32) × (Nat → Int32) × (Nat → Int32))
  | 0, _, _, _, _, _, _, _, _, _ => none
  | n74 + 1, x7_81, x8_82, page_day__83, page_readers__84, page_heights__85, page_highest__86, page_marked__87, page_reckoner_letters__88, page_shapes__89 =>
    if p4 < x8_82 then
    (K177 x7_81 page_day__83 page_readers__84 page_heights__85 page_highest__86 page_marked__87 page_reckoner_letters__88 page_shapes__89)
    else
    (cb5 (f_X7_lay s_sky_many page_readers__84 page_day__83 page_heights__85 page_highest__86 page_shapes__89 s_sky_sources x8_82) fun o_p1_readers91_93 o_p1_day91_94 o_p1_heights91_95 o_p1_highest91_96 o_p1_shapes91_97 =>
      rdN s_ways 4 p1 <|
      cb3 (f_X4_read o_p1_readers91_93 o_p1_day91_94 o_p1_heights91_95 page_marked__87 o_p1_shapes91_97 page_reckoner_letters__88 p1) fun o_readers105_105 o_marked105_106 o_reckoner_letters105_107 =>
      rdN s_ways 4 p2 <|
      cb3 (f_X4_read o_readers105_105 o_p1_day91_94 o_p1_heights91_95 o_marked105_106 o_p1_shapes91_97 o_reckoner_letters105_107 p2) fun o_readers119_115 o_marked119_116 o_reckoner_letters119_117 =>
      cb1 (f_X4_passedMarks o_marked119_116 p1 p2) fun r128_122 =>
      if r128_122 ≤ 0 then
      ((f_X11_passed_J164 x7_81 x8_82 o_p1_day91_94 o_p1_heights91_95 o_p1_highest91_96 o_p1_shapes91_97 o_readers119_115 o_marked119_116 o_reckoner_letters119_117 r128_122 (f_X11_passed_L74 s_sky_many s_ways s_sky_sources p1 p2 p4 p5 K143 K177 n74)))
      else
      (if p5 ≤ 0 then
        ((f_X11_passed_J164 x7_81 x8_82 o_p1_day91_94 o_p1_heights91_95 o_p1_highest91_96 o_p1_shapes91_97 o_readers119_115 o_marked119_116 o_reckoner_letters119_117 r128_122 (f_X11_passed_L74 s_sky_many s_ways s_sky_sources p1 p2 p4 p5 K143 K177 n74)))
        else
        (K143 x8_82 o_p1_day91_94 o_readers119_115 o_p1_heights91_95 o_p1_highest91_96 o_marked119_116 o_reckoner_letters119_117 o_p1_shapes91_97)))
def f_X11_passed_J44 (s_page_readers : Int32) (s_page_day : Int32) (s_sky_many : Int32) (s_ways : Nat → Option Nat) (s_page_heights : Nat → Int32) (s_page_highest : Nat → Int32) (s_page_marked : Nat → Int32) (s_page_shapes : Nat → Int32) (s_sky_sources : Nat → Option Nat) (s_page_reckoner_letters : Nat → Int32) (p1 : Int32) (p2 : Int32) (p3 : Int32) (p4 : Int32) (p5 : Int32)  (t0_6 : Int32) : Option (Int32 × Int32 × Int32 × (Nat → Int32) × (Nat → Int32) × (Nat → Int32) × (Nat → Int32) × (Nat → Int32)) :=
    if t0_6 = 0 then
    (some ((-1), s_page_readers, s_page_day, s_page_heights, s_page_highest, s_page_marked, s_page_shapes, s_page_reckoner_letters))
    else
    (if p4 < p3 then
      (some ((-1), s_page_readers, s_page_day, s_page_heights, s_page_highest, s_page_marked, s_page_shapes, s_page_reckoner_letters))
      else
      (if (p4 - p3) < 30 then
        ((f_X11_passed_L74 s_sky_many s_ways s_sky_sources p1 p2 p4 p5 (f_X11_passed_J143 p5 ) (f_X11_passed_J177 p5 ) FU) 0 p3 s_page_day s_page_readers s_page_heights s_page_highest s_page_marked s_page_reckoner_letters s_page_shapes)
        else
        (some ((-1), s_page_readers, s_page_day, s_page_heights, s_page_highest, s_page_marked, s_page_shapes, s_page_reckoner_letters))))
def f_X11_passed (s_page_readers : Int32) (s_page_day : Int32) (s_sky_many : Int32) (s_ways : Nat → Option Nat) (s_page_heights : Nat → Int32) (s_page_highest : Nat → Int32) (s_page_marked : Nat → Int32) (s_page_shapes : Nat → Int32) (s_sky_sources : Nat → Option Nat) (s_page_reckoner_letters : Nat → Int32) (p1 : Int32) (p2 : Int32) (p3 : Int32) (p4 : Int32) (p5 : Int32) : Option (Int32 × Int32 × Int32 × (Nat → Int32) × (Nat → Int32) × (Nat → Int32) × (Nat → Int32) × (Nat → Int32)) :=
    cb1 (f_X11_isReader p1) fun r1_1 =>
    if r1_1 = 0 then
    ((f_X11_passed_J44 s_page_readers s_page_day s_sky_many s_ways s_page_heights s_page_highest s_page_marked s_page_shapes s_sky_sources s_page_reckoner_letters p1 p2 p3 p4 p5 ) 0)
    else
    (cb1 (f_X11_isReader p2) fun r8_153 =>
      if r8_153 = 0 then
      ((f_X11_passed_J44 s_page_readers s_page_day s_sky_many s_ways s_page_heights s_page_highest s_page_marked s_page_shapes s_sky_sources s_page_reckoner_letters p1 p2 p3 p4 p5 ) 0)
      else
      (cb1 (f_X11_isDay p3) fun r15_161 =>
        if r15_161 = 0 then
        ((f_X11_passed_J44 s_page_readers s_page_day s_sky_many s_ways s_page_heights s_page_highest s_page_marked s_page_shapes s_sky_sources s_page_reckoner_letters p1 p2 p3 p4 p5 ) 0)
        else
        (cb1 (f_X11_isDay p4) fun r23_169 =>
          if r23_169 = 0 then
          ((f_X11_passed_J44 s_page_readers s_page_day s_sky_many s_ways s_page_heights s_page_highest s_page_marked s_page_shapes s_sky_sources s_page_reckoner_letters p1 p2 p3 p4 p5 ) 0)
          else
          (cb1 (f_X11_isWithin p5 0 2) fun r33_177 =>
            if r33_177 = 0 then
            ((f_X11_passed_J44 s_page_readers s_page_day s_sky_many s_ways s_page_heights s_page_highest s_page_marked s_page_shapes s_sky_sources s_page_reckoner_letters p1 p2 p3 p4 p5 ) 0)
            else
            ((f_X11_passed_J44 s_page_readers s_page_day s_sky_many s_ways s_page_heights s_page_highest s_page_marked s_page_shapes s_sky_sources s_page_reckoner_letters p1 p2 p3 p4 p5 ) 1)))))
def f_X11_note_J26 (s_notes_many : Int32) (s_notes_days : Nat → Int32) (s_notes_minutes : Nat → Int32) (s_notes_shapes : Nat → Int32) (p1 : Int32) (p2 : Int32) (p3 : Int32)  (t0_6 : Int32) : Option (Int32 × Int32 × (Nat → Int32) × (Nat → Int32) × (Nat → Int32)) :=
    if t0_6 = 0 then
    (some ((-1), s_notes_many, s_notes_days, s_notes_minutes, s_notes_shapes))
    else
    (cb5 (f_X3_add s_notes_many s_notes_days s_notes_minutes s_notes_shapes p1 p2 p3) fun r40_16 o_many40_17 o_days40_18 o_minutes40_19 o_shapes40_20 =>
      some (r40_16, o_many40_17, o_days40_18, o_minutes40_19, o_shapes40_20))
def f_X11_note (s_notes_many : Int32) (s_notes_days : Nat → Int32) (s_notes_minutes : Nat → Int32) (s_notes_shapes : Nat → Int32) (p1 : Int32) (p2 : Int32) (p3 : Int32) : Option (Int32 × Int32 × (Nat → Int32) × (Nat → Int32) × (Nat → Int32)) :=
    cb1 (f_X11_isDay p1) fun r1_1 =>
    if r1_1 = 0 then
    ((f_X11_note_J26 s_notes_many s_notes_days s_notes_minutes s_notes_shapes p1 p2 p3 ) 0)
    else
    (cb1 (f_X11_isMinute p2) fun r8_33 =>
      if r8_33 = 0 then
      ((f_X11_note_J26 s_notes_many s_notes_days s_notes_minutes s_notes_shapes p1 p2 p3 ) 0)
      else
      (cb1 (f_X11_isShape p3) fun r15_41 =>
        if r15_41 = 0 then
        ((f_X11_note_J26 s_notes_many s_notes_days s_notes_minutes s_notes_shapes p1 p2 p3 ) 0)
        else
        ((f_X11_note_J26 s_notes_many s_notes_days s_notes_minutes s_notes_shapes p1 p2 p3 ) 1)))
def f_X11_one (s_notes_many : Int32) (s_notes_days : Nat → Int32) (s_notes_gathered : Nat → Int32) (s_notes_minutes : Nat → Int32) (s_notes_shapes : Nat → Int32) (p1 : Int32) (p2 : Int32) : Option (Int32 × (Nat → Int32)) :=
    cb1 (f_X11_isShape p1) fun r1_1 =>
    if r1_1 = 0 then
    (some ((-1), s_notes_gathered))
    else
    (cb1 (f_X11_isWithin p2 0 700) fun r12_11 =>
      if r12_11 = 0 then
      (some ((-1), s_notes_gathered))
      else
      (cb2 (f_X3_oneBy s_notes_many s_notes_days s_notes_gathered s_notes_minutes s_notes_shapes p1 p2 400) fun r29_19 o_gathered29_20 =>
        some (r29_19, o_gathered29_20)))
def f_X11_known (s_notes_many : Int32) (s_notes_days : Nat → Int32) (s_notes_gathered : Nat → Int32) (s_notes_minutes : Nat → Int32) (s_notes_shapes : Nat → Int32) (p1 : Int32) (p2 : Int32) : Option (Int32 × (Nat → Int32)) :=
    cb1 (f_X11_isShape p1) fun r1_1 =>
    if r1_1 = 0 then
    (some ((-1), s_notes_gathered))
    else
    (cb1 (f_X11_isWithin p2 0 700) fun r12_11 =>
      if r12_11 = 0 then
      (some ((-1), s_notes_gathered))
      else
      (cb2 (f_X3_knownDay s_notes_many s_notes_days s_notes_gathered s_notes_minutes s_notes_shapes p1 p2) fun r26_19 o_gathered26_20 =>
        some (r26_19, o_gathered26_20)))
def f_X11_row (s_notes_many : Int32) (s_notes_days : Nat → Int32) (s_notes_gathered : Nat → Int32) (s_notes_minutes : Nat → Int32) (s_notes_shapes : Nat → Int32) (p1 : Int32) (p2 : Int32) (p3 : Int32) : Option (Int32 × (Nat → Int32)) :=
    cb1 (f_X11_isShape p1) fun r1_1 =>
    if r1_1 = 0 then
    (some ((-1), s_notes_gathered))
    else
    (cb1 (f_X11_isWithin p2 0 700) fun r12_11 =>
      if r12_11 = 0 then
      (some ((-1), s_notes_gathered))
      else
      (cb1 (f_X11_isWithin p3 0 1) fun r21_21 =>
        if r21_21 = 0 then
        (some ((-1), s_notes_gathered))
        else
        (cb2 (f_X3_longestRow s_notes_many s_notes_days s_notes_gathered s_notes_minutes s_notes_shapes p1 p2 p3) fun r36_29 o_gathered36_30 =>
          some (r36_29, o_gathered36_30))))
def f_X11_blip (s_blips_many : Int32) (s_blips_times : Nat → Int32) (p1 : Int32) : Option (Int32 × Int32 × (Nat → Int32)) :=
    cb1 (f_X11_isWithin p1 0 1000000000) fun r4_1 =>
    if r4_1 = 0 then
    (some ((-1), s_blips_many, s_blips_times))
    else
    (cb3 (f_X0_add s_blips_many s_blips_times p1) fun r15_12 o_many15_13 o_times15_14 =>
      some (r15_12, o_many15_13, o_times15_14))
def f_X11_fits (s_blips_many : Int32) (p1 : Int32) (p2 : Int32) : Option (Int32) :=
    cb1 (f_X11_isBeat p1) fun r1_1 =>
    if r1_1 = 0 then
    (some ((-1)))
    else
    (cb1 (f_X11_isWithin p2 0 1000) fun r12_10 =>
      if r12_10 = 0 then
      (some ((-1)))
      else
      (if p1 ≤ (2 * p2) then
        (some ((-1)))
        else
        (if 2 ≤ s_blips_many then
          (none)
          else
          (some ((-1))))))
def f_X11_beats (s_blips_many : Int32) (p1 : Int32) (p2 : Int32) (p3 : Int32) (p4 : Int32) : Option (Int32) :=
    cb1 (f_X11_canScan s_blips_many p1 p2 p3) fun r4_1 =>
    if r4_1 = 0 then
    (some ((-1)))
    else
    (cb1 (f_X11_isWithin p4 0 2) fun r14_10 =>
      if r14_10 = 0 then
      (some ((-1)))
      else
      (none))
def f_X11_counted (s_blips_many : Int32) (p1 : Int32) (p2 : Int32) : Option (Int32) :=
    cb1 (f_X11_isBeat p2) fun r1_1 =>
    if r1_1 = 0 then
    (some ((-1)))
    else
    (cb1 (f_X11_isWithin p1 0 (s_blips_many - 1)) fun r18_10 =>
      if r18_10 = 0 then
      (some ((-1)))
      else
      (none))
def f_X11_sure (s_blips_many : Int32) (p1 : Int32) (p2 : Int32) (p3 : Int32) : Option (Int32) :=
    cb1 (f_X11_canScan s_blips_many p1 p2 p3) fun r4_1 =>
    if r4_1 = 0 then
    (some ((-1)))
    else
    (none)
def f_X11_lost (s_blips_many : Int32) (p1 : Int32) (p2 : Int32) (p3 : Int32) : Option (Int32) :=
    cb1 (f_X11_canScan s_blips_many p1 p2 p3) fun r4_1 =>
    if r4_1 = 0 then
    (some ((-1)))
    else
    (none)
def f_X11_night (s_nights_many : Int32) (s_nights_days : Nat → Int32) (s_nights_shifts : Nat → Int32) (p1 : Int32) (p2 : Int32) : Option (Int32 × Int32 × (Nat → Int32) × (Nat → Int32)) :=
    cb1 (f_X11_isDay p1) fun r1_1 =>
    if r1_1 = 0 then
    (some ((-1), s_nights_many, s_nights_days, s_nights_shifts))
    else
    (cb1 (f_X11_isWithin p2 (-100000) 100000) fun r12_13 =>
      if r12_13 = 0 then
      (some ((-1), s_nights_many, s_nights_days, s_nights_shifts))
      else
      (cb4 (f_X2_add s_nights_many s_nights_days s_nights_shifts p1 p2) fun r24_25 o_many24_26 o_days24_27 o_shifts24_28 =>
        some (r24_25, o_many24_26, o_days24_27, o_shifts24_28)))
def f_X11_says (s_nights_stories : Nat → Option Nat) (p1 : Int32) (p2 : Int32) : Option (Int32) :=
    cb1 (f_X2_storyAt s_nights_stories p1) fun u5_1 =>
    some ((-1000000))
def f_X11_falls (s_nights_stories : Nat → Option Nat) (p1 : Int32) (p2 : Int32) : Option (Int32) :=
    cb1 (f_X2_storyAt s_nights_stories p1) fun u5_1 =>
    some ((-1))
def f_X11_told (s_nights_many : Int32) (s_nights_fallen : Nat → Int32) (s_nights_stories : Nat → Option Nat) (p1 : Int32) (p2 : Int32) : Option (Int32 × (Nat → Int32)) :=
    cb1 (f_X11_isNightError p1) fun r1_1 =>
    if r1_1 = 0 then
    (some ((-1), s_nights_fallen))
    else
    (cb1 (f_X11_isWithin p2 0 1) fun r10_11 =>
      if r10_11 = 0 then
      (some ((-1), s_nights_fallen))
      else
      (cb2 (f_X2_alone s_nights_many s_nights_fallen s_nights_stories p1 p2) fun r22_21 o_fallen22_22 =>
        some (r22_21, o_fallen22_22)))
def f_X11_bound (s_nights_many : Int32) (s_nights_days : Nat → Int32) (p1 : Int32) (p2 : Int32) : Option (Int32) :=
    cb1 (f_X11_isWithin p1 4 400) fun r5_1 =>
    if r5_1 = 0 then
    (some ((-1)))
    else
    (cb1 (f_X11_isNightError p2) fun r12_10 =>
      if r12_10 = 0 then
      (some ((-1)))
      else
      (cb1 (f_X2_greatestOrbit s_nights_many s_nights_days p1 p2) fun r26_18 =>
        some (r26_18)))
def f_X11_there (s_lots_tens : Nat → Int32) (p1 : Int32) (p2 : Int32) : Option (Int32 × (Nat → Int32)) :=
    cb1 (f_X11_isWithin p1 0 39) fun r4_1 =>
    if r4_1 = 0 then
    (some (0, s_lots_tens))
    else
    (cb1 (f_X11_isWithin p2 0 10) fun r14_11 =>
      if r14_11 = 0 then
      (some (0, s_lots_tens))
      else
      (wrI s_lots_tens 40 p1 p2 fun g31_19 =>
        some (1, g31_19)))
def f_X11_pen_J42 (s_lots_unseen : Int32) (s_lots_best : Nat → Int32) (s_lots_chosen : Nat → Int32) (s_lots_tens : Nat → Int32) (p1 : Int32) (p2 : Int32) (p3 : Int32)  (t0_6 : Int32) : Option (Int32 × Int32 × (Nat → Int32) × (Nat → Int32)) :=
    if t0_6 = 0 then
    (some ((-1), s_lots_unseen, s_lots_best, s_lots_chosen))
    else
    (if ((p1 - 1) * p2) < 40 then
      (cb3 (f_X1_choose s_lots_unseen s_lots_best s_lots_chosen s_lots_tens p1 p2) fun o_unseen67_18 o_best67_19 o_chosen67_20 =>
        if p3 = 6 then
        (some (o_unseen67_18, o_unseen67_18, o_best67_19, o_chosen67_20))
        else
        (rdI o_chosen67_20 6 p3 fun v94_28 =>
          some (v94_28, o_unseen67_18, o_best67_19, o_chosen67_20)))
      else
      (some ((-1), s_lots_unseen, s_lots_best, s_lots_chosen)))
def f_X11_pen (s_lots_unseen : Int32) (s_lots_best : Nat → Int32) (s_lots_chosen : Nat → Int32) (s_lots_tens : Nat → Int32) (p1 : Int32) (p2 : Int32) (p3 : Int32) : Option (Int32 × Int32 × (Nat → Int32) × (Nat → Int32)) :=
    cb1 (f_X11_isWithin p1 1 6) fun r4_1 =>
    if r4_1 = 0 then
    ((f_X11_pen_J42 s_lots_unseen s_lots_best s_lots_chosen s_lots_tens p1 p2 p3 ) 0)
    else
    (cb1 (f_X11_isWithin p2 1 10) fun r14_47 =>
      if r14_47 = 0 then
      ((f_X11_pen_J42 s_lots_unseen s_lots_best s_lots_chosen s_lots_tens p1 p2 p3 ) 0)
      else
      (if p3 = 6 then
        ((f_X11_pen_J42 s_lots_unseen s_lots_best s_lots_chosen s_lots_tens p1 p2 p3 ) 1)
        else
        (cb1 (f_X11_isWithin p3 0 (p1 - 1)) fun r31_58 =>
          if r31_58 = 0 then
          ((f_X11_pen_J42 s_lots_unseen s_lots_best s_lots_chosen s_lots_tens p1 p2 p3 ) 0)
          else
          ((f_X11_pen_J42 s_lots_unseen s_lots_best s_lots_chosen s_lots_tens p1 p2 p3 ) 1))))
def f_X11_odds (p1 : Int32) (p2 : Int32) (p3 : Int32) (p4 : Int32) (p5 : Int32) : Option (Int64) :=
    cb1 (f_X11_isLook p1 p2 p3) fun r3_1 =>
    if r3_1 = 0 then
    (some ((-1)))
    else
    (cb1 (f_X11_isWithin p4 ((p1 + p2) - p3) 40) fun r18_10 =>
      if r18_10 = 0 then
      (some ((-1)))
      else
      (cb1 (f_X11_isWithin p5 0 1) fun r28_19 =>
        if r28_19 = 0 then
        (some ((-1)))
        else
        (cb1 (f_X1_drawsWith p1 p2 p3 p4) fun r43_27 =>
          cb1 (f_X1_choices p4 p2) fun r51_33 =>
          cb1 (f_X1_commonDivisor r43_27 r51_33) fun r60_39 =>
          if p5 = 0 then
          (dvL r60_39 <|
            some ((r43_27 / r60_39)))
          else
          (dvL r60_39 <|
            some ((r51_33 / r60_39))))))
def f_X11_more_L44 (p1 : Int32) (p2 : Int32) (p3 : Int32) (p4 : Int32) (p5 : Int32)  : Nat → Int32 → Int32 → Option (Int32)
  | 0, _, _ => none
  | n44 + 1, x6_32, x7_33 =>
    if 40 < x7_33 then
    (some (x6_32))
    else
    (cb1 (f_X1_drawsWith p1 p2 p3 x7_33) fun r56_38 =>
      cb1 (f_X1_choices x7_33 p2) fun r66_43 =>
      if (lg_cmp (r56_38 * 1000) (r66_43 * (Int32.toInt64 p4))) < 0 then
      (nmI (x7_33 + 1) fun v89_51 =>
        (f_X11_more_L44 p1 p2 p3 p4 p5  n44) x6_32 v89_51)
      else
      (if p5 = 0 then
        (some (x7_33))
        else
        (nmI (x7_33 + 1) fun v89_59 =>
          (f_X11_more_L44 p1 p2 p3 p4 p5  n44) x7_33 v89_59)))
def f_X11_more (p1 : Int32) (p2 : Int32) (p3 : Int32) (p4 : Int32) (p5 : Int32) : Option (Int32) :=
    cb1 (f_X11_isLook p1 p2 p3) fun r3_1 =>
    if r3_1 = 0 then
    (some ((-1)))
    else
    (cb1 (f_X11_isWithin p4 1 1000) fun r15_10 =>
      if r15_10 = 0 then
      (some ((-1)))
      else
      (cb1 (f_X11_isWithin p5 0 1) fun r25_19 =>
        if r25_19 = 0 then
        (some ((-1)))
        else
        (nmI ((p1 + p2) - p3) fun v42_28 =>
          (f_X11_more_L44 p1 p2 p3 p4 p5  FU) (-2) v42_28)))
def f_X11_check (s_page_readers : Int32) (s_page_day : Int32) (s_sky_many : Int32) (s_tape_length : Int32) (s_ways : Nat → Option Nat) (s_page_heights : Nat → Int32) (s_page_highest : Nat → Int32) (s_page_marked : Nat → Int32) (s_page_shapes : Nat → Int32) (s_sky_sources : Nat → Option Nat) (s_page_reckoner_letters : Nat → Int32) (p1 : Int32) (p2 : Int32) (p3 : Int32) : Option (Int32 × Int32 × Int32 × Int32 × (Nat → Int32) × (Nat → Int32) × (Nat → Int32) × (Nat → Int32) × (Nat → Int32)) :=
    cb1 (f_X11_isReader p1) fun r1_1 =>
    if r1_1 = 0 then
    (some ((-2), s_page_readers, s_page_day, s_tape_length, s_page_heights, s_page_highest, s_page_marked, s_page_shapes, s_page_reckoner_letters))
    else
    (cb1 (f_X11_isDay p2) fun r8_18 =>
      if r8_18 = 0 then
      (some ((-2), s_page_readers, s_page_day, s_tape_length, s_page_heights, s_page_highest, s_page_marked, s_page_shapes, s_page_reckoner_letters))
      else
      (cb1 (f_X11_isWithin p3 0 (s_tape_length / 12)) fun r26_35 =>
        if r26_35 = 0 then
        (some ((-2), s_page_readers, s_page_day, s_tape_length, s_page_heights, s_page_highest, s_page_marked, s_page_shapes, s_page_reckoner_letters))
        else
        (cb5 (f_X7_lay s_sky_many s_page_readers s_page_day s_page_heights s_page_highest s_page_shapes s_sky_sources p2) fun o_p1_readers44_43 o_p1_day44_44 o_p1_heights44_45 o_p1_highest44_46 o_p1_shapes44_47 =>
          rdN s_ways 4 p1 <|
          cb3 (f_X4_read o_p1_readers44_43 o_p1_day44_44 o_p1_heights44_45 s_page_marked o_p1_shapes44_47 s_page_reckoner_letters p1) fun o_readers58_55 o_marked58_56 o_reckoner_letters58_57 =>
          cb1 (f_X4_firstWrong o_marked58_56 p1 p3) fun r71_62 =>
          cb1 (f_X9_clear s_tape_length) fun o_length80_68 =>
          some (r71_62, o_readers58_55, o_p1_day44_44, o_length80_68, o_p1_heights44_45, o_p1_highest44_46, o_marked58_56, o_p1_shapes44_47, o_reckoner_letters58_57))))
def f_X11_count (s_blips_many : Int32) (s_nights_many : Int32) (s_notes_many : Int32) (s_sky_many : Int32) (s_sky_seed : Int32) (s_tape_length : Int32) (s_ways : Nat → Option Nat) (s_nights_stories : Nat → Option Nat) (s_sky_sources : Nat → Option Nat) (p1 : Int32) : Option (Int32) :=
    if p1 = 0 then (some (s_sky_many))
    else if p1 = 1 then (some (s_notes_many))
    else if p1 = 2 then (some (s_blips_many))
    else if p1 = 3 then (some (s_nights_many))
    else if p1 = 4 then (some (s_sky_seed))
    else if p1 = 5 then (some (s_tape_length))
    else (cb1 (f_X11_textCount s_sky_many s_ways s_nights_stories s_sky_sources p1) fun r90_25 =>
      some (r90_25))
def f_X11_source_J41 (s_page_day : Int32) (s_sky_many : Int32) (p1 : Int32)  (t0_6 : Int32) : Option (Int32 × Int32 × Int32) :=
    if t0_6 = 0 then
    (some ((-1), s_page_day, s_sky_many))
    else
    (if s_sky_many < 10 then
      (cb1 (f_X4_forget s_page_day) fun o_day66_17 =>
        bo p1 <|
        cb2 (f_X7_add s_sky_many) fun r94_27 o_many94_28 =>
        some (r94_27, o_day66_17, o_many94_28))
      else
      (some ((-1), s_page_day, s_sky_many)))
def f_X11_source (s_page_day : Int32) (s_sky_many : Int32) (p1 : Int32) (p2 : Int32) (p3 : Int32) (p4 : Int32) (p5 : Int32) : Option (Int32 × Int32 × Int32) :=
    cb1 (f_X11_isMinute p2) fun r1_1 =>
    if r1_1 = 0 then
    ((f_X11_source_J41 s_page_day s_sky_many p1 ) 0)
    else
    (cb1 (f_X11_isWithin p3 0 30) fun r11_43 =>
      if r11_43 = 0 then
      ((f_X11_source_J41 s_page_day s_sky_many p1 ) 0)
      else
      (cb1 (f_X11_isShape p4) fun r19_51 =>
        if r19_51 = 0 then
        ((f_X11_source_J41 s_page_day s_sky_many p1 ) 0)
        else
        (cb1 (f_X11_isWithin p5 0 127) fun r30_59 =>
          if r30_59 = 0 then
          ((f_X11_source_J41 s_page_day s_sky_many p1 ) 0)
          else
          ((f_X11_source_J41 s_page_day s_sky_many p1 ) 1))))
def f_X12_lies (p1 : Int64) (p2 : Int64) (p3 : Int64) : Option (Int32) :=
    if (lg_cmp p1 p2) < 0 then
    (some (0))
    else
    (if 0 < (lg_cmp p1 p3) then
      (some (0))
      else
      (some (1)))
def f_X12_push_L3 (p1 : Int32)  : Nat → Int32 → Int32 → (Nat → Int32) → Option (Int32 × (Nat → Int32))
  | 0, _, _, _ => none
  | n3 + 1, x2_2, taped__3, tape__4 =>
    if x2_2 < 0 then
    (some (taped__3, tape__4))
    else
    (nmI (ji2b (jshr p1 x2_2)) fun v19_10 =>
      wrB tape__4 200 taped__3 v19_10 fun g19_13 =>
      nmI (taped__3 + 1) fun v27_18 =>
      nmI (x2_2 + (-8)) fun v30_22 =>
      (f_X12_push_L3 p1  n3) v30_22 v27_18 g19_13)
def f_X12_push (s_taped : Int32) (s_tape : Nat → Int32) (p1 : Int32) : Option (Int32 × (Nat → Int32)) :=
    (f_X12_push_L3 p1  FU) 24 s_taped s_tape
def f_X12_feed (s_taped : Int32) (s_tape : Nat → Int32) (p1 : Int32) (p2 : Int32) (p3 : Int32) (p4 : Int32) (p5 : Int32) : Option (Int32 × Int32 × (Nat → Int32)) :=
    if (s_taped + 20) ≤ 200 then
    (cb2 (f_X12_push s_taped s_tape p1) fun o_taped17_4 o_tape17_5 =>
      cb2 (f_X12_push o_taped17_4 o_tape17_5 p2) fun o_taped22_10 o_tape22_11 =>
      cb2 (f_X12_push o_taped22_10 o_tape22_11 p3) fun o_taped27_16 o_tape27_17 =>
      cb2 (f_X12_push o_taped27_16 o_tape27_17 p4) fun o_taped33_22 o_tape33_23 =>
      cb2 (f_X12_push o_taped33_22 o_tape33_23 p5) fun o_taped39_28 o_tape39_29 =>
      some (o_taped39_28, o_taped39_28, o_tape39_29))
    else
    (some ((-1), s_taped, s_tape))
def f_X12_isSource (s_sources : Int32) (p1 : Int32) : Option (Int32) :=
    cb1 (f_X12_lies (Int32.toInt64 p1) 0 (Int32.toInt64 (s_sources - 1))) fun r10_1 =>
    bo r10_1 <|
    some (r10_1)
def f_X12_isReader (p1 : Int32) : Option (Int32) :=
    cb1 (f_X12_lies (Int32.toInt64 p1) 0 3) fun r6_1 =>
    bo r6_1 <|
    some (r6_1)
def f_X12_canRead (s_taped : Int32) (p1 : Int32) (p2 : Int32) : Option (Int32) :=
    cb1 (f_X12_lies (Int32.toInt64 p1) 1 (Int32.toInt64 p2)) fun r5_1 =>
    if r5_1 = 0 then
    (some (0))
    else
    (if s_taped < p1 then
      (some (0))
      else
      (some (1)))
def f_X12_law (s_taped : Int32) (s_sources : Int32) (p1 : Int32) (p2 : Int32) : Option (Int32) :=
    cb1 (f_X12_isSource s_sources p1) fun r2_1 =>
    if r2_1 = 0 then
    (some ((-1)))
    else
    (cb1 (f_X12_canRead s_taped p2 120) fun r12_10 =>
      if r12_10 = 0 then
      (some ((-1)))
      else
      (none))
def f_X12_way (s_taped : Int32) (p1 : Int32) (p2 : Int32) : Option (Int32) :=
    cb1 (f_X12_isReader p1) fun r1_1 =>
    if r1_1 = 0 then
    (some ((-1)))
    else
    (cb1 (f_X12_canRead s_taped p2 120) fun r11_10 =>
      if r11_10 = 0 then
      (some ((-1)))
      else
      (none))
def f_X12_isTale (p1 : Int32) : Option (Int32) :=
    cb1 (f_X12_lies (Int32.toInt64 p1) 0 5) fun r6_1 =>
    bo r6_1 <|
    some (r6_1)
def f_X12_story (s_taped : Int32) (p1 : Int32) (p2 : Int32) : Option (Int32) :=
    cb1 (f_X12_isTale p1) fun r1_1 =>
    if r1_1 = 0 then
    (some ((-1)))
    else
    (cb1 (f_X12_canRead s_taped p2 60) fun r11_10 =>
      if r11_10 = 0 then
      (some ((-1)))
      else
      (none))
def f_X12_clears (s_atA : Int32) (s_atB : Int32) (s_atD : Int32) (s_atF : Int32) (s_atG : Int32) (s_atH : Int32) (s_atL : Int32) (s_atM : Int32) (s_atN : Int32) (s_atS : Int32) (s_atT : Int32) (s_atU : Int32) (s_atX : Int32) : Option (Int32 × Int32 × Int32 × Int32 × Int32 × Int32 × Int32 × Int32 × Int32 × Int32 × Int32 × Int32 × Int32) :=
    some (0, 0, 0, 0, 0, 0, 0, 0, 0, 0, 0, 0, 0)
def f_X12_isDay (p1 : Int32) : Option (Int32) :=
    cb1 (f_X12_lies (Int32.toInt64 p1) 0 399) fun r6_1 =>
    bo r6_1 <|
    some (r6_1)
def f_X12_isMinute (p1 : Int32) : Option (Int32) :=
    cb1 (f_X12_lies (Int32.toInt64 p1) 0 1439) fun r6_1 =>
    bo r6_1 <|
    some (r6_1)
def f_X12_source (s_sources : Int32) (s_byStar : Nat → Int32) (s_minuteOf : Nat → Int32) (s_shape : Nat → Int32) (s_weekdays : Nat → Int32) (s_wide : Nat → Int32) (p1 : Int32) (p2 : Int32) (p3 : Int32) (p4 : Int32) (p5 : Int32) : Option (Int32 × Int32 × (Nat → Int32) × (Nat → Int32) × (Nat → Int32) × (Nat → Int32) × (Nat → Int32)) :=
    if s_sources = 10 then
    (some ((-1), s_sources, s_byStar, s_minuteOf, s_shape, s_weekdays, s_wide))
    else
    (cb1 (f_X12_isMinute p2) fun r10_11 =>
      if r10_11 = 0 then
      (some ((-1), s_sources, s_byStar, s_minuteOf, s_shape, s_weekdays, s_wide))
      else
      (cb1 (f_X12_lies (Int32.toInt64 p3) 0 30) fun r22_26 =>
        if r22_26 = 0 then
        (some ((-1), s_sources, s_byStar, s_minuteOf, s_shape, s_weekdays, s_wide))
        else
        (cb1 (f_X12_lies (Int32.toInt64 p4) 0 3) fun r35_41 =>
          if r35_41 = 0 then
          (some ((-1), s_sources, s_byStar, s_minuteOf, s_shape, s_weekdays, s_wide))
          else
          (cb1 (f_X12_lies (Int32.toInt64 p5) 0 127) fun r48_56 =>
            if r48_56 = 0 then
            (some ((-1), s_sources, s_byStar, s_minuteOf, s_shape, s_weekdays, s_wide))
            else
            (wrZ s_byStar 10 s_sources p1 fun g65_64 =>
              wrI s_minuteOf 10 s_sources p2 fun g75_69 =>
              wrI s_wide 10 s_sources p3 fun g85_74 =>
              wrI s_shape 10 s_sources p4 fun g96_79 =>
              wrI s_weekdays 10 s_sources p5 fun g107_84 =>
              nmI (s_sources + 1) fun v115_89 =>
              some ((v115_89 - 1), v115_89, g65_64, g75_69, g96_79, g107_84, g85_74))))))
def f_X12_seed (s_seed : Int32) (p1 : Int32) : Option (Int32 × Int32) :=
    cb1 (f_X12_lies (Int32.toInt64 p1) 0 999) fun r6_1 =>
    if r6_1 = 0 then
    (some (0, s_seed))
    else
    (some (1, p1))
def f_X12_starAt (p1 : Int32) (p2 : Int32) : Option (Int32) :=
    some ((jrem (p2 + (4 * p1)) 1440))
def f_X12_star (p1 : Int32) (p2 : Int32) : Option (Int32) :=
    cb1 (f_X12_isDay p1) fun r1_1 =>
    if r1_1 = 0 then
    (some ((-1)))
    else
    (cb1 (f_X12_isMinute p2) fun r8_10 =>
      if r8_10 = 0 then
      (some ((-1)))
      else
      (cb1 (f_X12_starAt p1 p2) fun r16_19 =>
        some (r16_19)))
def f_X12_height (s_sources : Int32) (p1 : Int32) (p2 : Int32) (p3 : Int32) : Option (Int32) :=
    cb1 (f_X12_isSource s_sources p1) fun r2_1 =>
    if r2_1 = 0 then
    (some ((-1)))
    else
    (cb1 (f_X12_isDay p2) fun r9_10 =>
      if r9_10 = 0 then
      (some ((-1)))
      else
      (cb1 (f_X12_isMinute p3) fun r16_19 =>
        if r16_19 = 0 then
        (some ((-1)))
        else
        (none)))
def f_X12_looks (s_sources : Int32) (s_paperHigh : Int32) (s_paperShape : Int32) (p1 : Int32) (p2 : Int32) : Option (Int32 × Int32) :=
    if s_sources ≤ 0 then
    (some (0, 4))
    else
    (none)
def f_X12_paper (s_sources : Int32) (s_paperHigh : Int32) (s_paperShape : Int32) (p1 : Int32) (p2 : Int32) (p3 : Int32) : Option (Int32 × Int32 × Int32) :=
    cb1 (f_X12_isDay p1) fun r1_1 =>
    if r1_1 = 0 then
    (some ((-1), s_paperHigh, s_paperShape))
    else
    (cb1 (f_X12_isMinute p2) fun r8_12 =>
      if r8_12 = 0 then
      (some ((-1), s_paperHigh, s_paperShape))
      else
      (cb1 (f_X12_lies (Int32.toInt64 p3) 0 1) fun r18_23 =>
        if r18_23 = 0 then
        (some ((-1), s_paperHigh, s_paperShape))
        else
        (cb2 (f_X12_looks s_sources s_paperHigh s_paperShape p1 p2) fun o_paperHigh29_31 o_paperShape29_32 =>
          if p3 = 0 then
          (some (o_paperHigh29_31, o_paperHigh29_31, o_paperShape29_32))
          else
          (some (o_paperShape29_32, o_paperHigh29_31, o_paperShape29_32)))))
def f_X12_lays_L2 (s_sources : Int32) (p1 : Int32)  : Nat → Int32 → Int32 → Int32 → (Nat → Int32) → (Nat → Int32) → Option (Int32 × Int32 × (Nat → Int32) × (Nat → Int32))
  | 0, _, _, _, _, _ => none
  | n2 + 1, x2_2, paperHigh__3, paperShape__4, highAt__5, shapeAt__6 =>
    if 1440 ≤ x2_2 then
    (some (paperHigh__3, paperShape__4, highAt__5, shapeAt__6))
    else
    (cb2 (f_X12_looks s_sources paperHigh__3 paperShape__4 p1 x2_2) fun o_paperHigh12_14 o_paperShape12_15 =>
      wrI highAt__5 1440 x2_2 o_paperHigh12_14 fun g24_20 =>
      wrI shapeAt__6 1440 x2_2 o_paperShape12_15 fun g34_25 =>
      nmI (x2_2 + 1) fun v35_30 =>
      (f_X12_lays_L2 s_sources p1  n2) v35_30 o_paperHigh12_14 o_paperShape12_15 g24_20 g34_25)
def f_X12_lays (s_sources : Int32) (s_paperHigh : Int32) (s_paperShape : Int32) (s_highAt : Nat → Int32) (s_shapeAt : Nat → Int32) (p1 : Int32) : Option (Int32 × Int32 × (Nat → Int32) × (Nat → Int32)) :=
    (f_X12_lays_L2 s_sources p1  FU) 0 s_paperHigh s_paperShape s_highAt s_shapeAt
def f_X12_isMarked_J94 (s_many : Nat → Int32) (s_shapeAt : Nat → Int32) (p1 : Int32) (p2 : Int32) (p3 : Int32) (p4 : Int32) (o_atA1_1 : Int32) (o_atN1_9 : Int32) (o_atU1_12 : Int32) (o_atX1_13 : Int32) (v10_18 : Int32) (t1_23 : Int32)  (atG__27 : Int32) : Option (Int32 × Int32 × Int32 × Int32 × Int32 × Int32 × Int32 × Int32 × Int32 × Int32 × Int32 × Int32 × Int32 × Int32) :=
    rdI s_shapeAt 1440 p3 fun v100_28 =>
    cb1 (f_X12_starAt p2 p3) fun r112_34 =>
    nmI (jrem p2 7) fun v128_41 =>
    nmI (12 * (10 + p1)) fun v144_46 =>
    rdI s_many 20 (10 + p1) fun v163_50 =>
    if ((12 * (10 + p1)) + v163_50) ≤ v144_46 then
    (some (0, o_atA1_1, t1_23, p2, v128_41, atG__27, v10_18, v100_28, p3, o_atN1_9, r112_34, p4, o_atU1_12, o_atX1_13))
    else
    (none)
def f_X12_isMarked_L50 (s_highAt : Nat → Int32) (p3 : Int32) (K94 : Int32 → Option (Int32 × Int32 × Int32 × Int32 × Int32 × Int32 × Int32 × Int32 × Int32 × Int32 × Int32 × Int32 × Int32 × Int32)) : Nat → Int32 → Int32 → Option (Int32 × Int32 × Int32 × Int32 × Int32 × Int32 × Int32 × Int32 × Int32 × Int32 × Int32 × Int32 × Int32 × Int32)
  | 0, _, _ => none
  | n50 + 1, x5_71, atG__72 =>
    if p3 ≤ x5_71 then
    (K94 atG__72)
    else
    (rdI s_highAt 1440 x5_71 fun v63_76 =>
      if v63_76 ≤ atG__72 then
      (nmI (x5_71 + 1) fun v88_84 =>
        (f_X12_isMarked_L50 s_highAt p3 K94 n50) v88_84 atG__72)
      else
      (rdI s_highAt 1440 x5_71 fun v77_88 =>
        nmI (x5_71 + 1) fun v88_93 =>
        (f_X12_isMarked_L50 s_highAt p3 K94 n50) v88_93 v77_88))
def f_X12_isMarked_J48 (s_highAt : Nat → Int32) (s_many : Nat → Int32) (s_shapeAt : Nat → Int32) (p1 : Int32) (p2 : Int32) (p3 : Int32) (p4 : Int32) (o_atA1_1 : Int32) (o_atG1_5 : Int32) (o_atN1_9 : Int32) (o_atU1_12 : Int32) (o_atX1_13 : Int32) (v10_18 : Int32) (t1_23 : Int32)  (t0_25 : Int32) : Option (Int32 × Int32 × Int32 × Int32 × Int32 × Int32 × Int32 × Int32 × Int32 × Int32 × Int32 × Int32 × Int32 × Int32) :=
    (f_X12_isMarked_L50 s_highAt p3 (f_X12_isMarked_J94 s_many s_shapeAt p1 p2 p3 p4 o_atA1_1 o_atN1_9 o_atU1_12 o_atX1_13 v10_18 t1_23 ) FU) t0_25 o_atG1_5
def f_X12_isMarked_J31 (s_highAt : Nat → Int32) (s_many : Nat → Int32) (s_shapeAt : Nat → Int32) (p1 : Int32) (p2 : Int32) (p3 : Int32) (p4 : Int32) (o_atA1_1 : Int32) (o_atG1_5 : Int32) (o_atN1_9 : Int32) (o_atU1_12 : Int32) (o_atX1_13 : Int32) (v10_18 : Int32)  (t1_23 : Int32) : Option (Int32 × Int32 × Int32 × Int32 × Int32 × Int32 × Int32 × Int32 × Int32 × Int32 × Int32 × Int32 × Int32 × Int32) :=
    if 10 ≤ p3 then
    ((f_X12_isMarked_J48 s_highAt s_many s_shapeAt p1 p2 p3 p4 o_atA1_1 o_atG1_5 o_atN1_9 o_atU1_12 o_atX1_13 v10_18 t1_23 ) (p3 - 10))
    else
    ((f_X12_isMarked_J48 s_highAt s_many s_shapeAt p1 p2 p3 p4 o_atA1_1 o_atG1_5 o_atN1_9 o_atU1_12 o_atX1_13 v10_18 t1_23 ) 0)
def f_X12_isMarked (s_atA : Int32) (s_atB : Int32) (s_atD : Int32) (s_atF : Int32) (s_atG : Int32) (s_atH : Int32) (s_atL : Int32) (s_atM : Int32) (s_atN : Int32) (s_atS : Int32) (s_atT : Int32) (s_atU : Int32) (s_atX : Int32) (s_highAt : Nat → Int32) (s_many : Nat → Int32) (s_shapeAt : Nat → Int32) (p1 : Int32) (p2 : Int32) (p3 : Int32) (p4 : Int32) : Option (Int32 × Int32 × Int32 × Int32 × Int32 × Int32 × Int32 × Int32 × Int32 × Int32 × Int32 × Int32 × Int32 × Int32) :=
    cb13 (f_X12_clears s_atA s_atB s_atD s_atF s_atG s_atH s_atL s_atM s_atN s_atS s_atT s_atU s_atX) fun o_atA1_1 o_atB1_2 o_atD1_3 o_atF1_4 o_atG1_5 o_atH1_6 o_atL1_7 o_atM1_8 o_atN1_9 o_atS1_10 o_atT1_11 o_atU1_12 o_atX1_13 =>
    rdI s_highAt 1440 p3 fun v10_18 =>
    if p3 = 0 then
    ((f_X12_isMarked_J31 s_highAt s_many s_shapeAt p1 p2 p3 p4 o_atA1_1 o_atG1_5 o_atN1_9 o_atU1_12 o_atX1_13 v10_18 ) 0)
    else
    (rdI s_highAt 1440 (p3 - 1) fun v30_103 =>
      (f_X12_isMarked_J31 s_highAt s_many s_shapeAt p1 p2 p3 p4 o_atA1_1 o_atG1_5 o_atN1_9 o_atU1_12 o_atX1_13 v10_18 ) v30_103)
def f_X12_goesOver_J160 (s_marked : Nat → Int32) (p3 : Int32)  (x4_4 : Int32) (atA__5 : Int32) (atB__6 : Int32) (atD__7 : Int32) (atF__8 : Int32) (atG__9 : Int32) (atH__10 : Int32) (atL__11 : Int32) (atM__12 : Int32) (atN__13 : Int32) (atS__14 : Int32) (atT__15 : Int32) (atU__16 : Int32) (atX__17 : Int32) (first__18 : Nat → Int32) (greatest__19 : Nat → Int32) (last__20 : Nat → Int32) : Option (Int32 × Int32 × Int32 × Int32 × Int32 × Int32 × Int32 × Int32 × Int32 × Int32 × Int32 × Int32 × Int32 × (Nat → Int32) × (Nat → Int32) × (Nat → Int32) × (Nat → Int32)) :=
    wrI s_marked 2 p3 x4_4 fun g167_21 =>
    some (atA__5, atB__6, atD__7, atF__8, atG__9, atH__10, atL__11, atM__12, atN__13, atS__14, atT__15, atU__16, atX__17, first__18, greatest__19, last__20, g167_21)
def f_X12_goesOver_J149 (x6_45 : Int32) (r36_66 : Int32) (o_atA36_67 : Int32) (o_atB36_68 : Int32) (o_atD36_69 : Int32) (o_atF36_70 : Int32) (o_atG36_71 : Int32) (o_atH36_72 : Int32) (o_atL36_73 : Int32) (o_atM36_74 : Int32) (o_atN36_75 : Int32) (o_atS36_76 : Int32) (o_atT36_77 : Int32) (o_atU36_78 : Int32) (o_atX36_79 : Int32) (x4_85 : Int32) (first__86 : Nat → Int32) (greatest__87 : Nat → Int32) (v98_96 : Int32) (g108_100 : Nat → Int32) (K9 : Int32 → Int32 → Int32 → Int32 → Int32 → Int32 → Int32 → Int32 → Int32 → Int32 → Int32 → Int32 → Int32 → Int32 → Int32 → Int32 → (Nat → Int32) → (Nat → Int32) → (Nat → Int32) → Option (Int32 × Int32 × Int32 × Int32 × Int32 × Int32 × Int32 × Int32 × Int32 × Int32 × Int32 × Int32 × Int32 × (Nat → Int32) × (Nat → Int32) × (Nat → Int32) × (Nat → Int32))) (t2_113 : Int32) : Option (Int32 × Int32 × Int32 × Int32 × Int32 × Int32 × Int32 × Int32 × Int32 × Int32 × Int32 × Int32 × Int32 × (Nat → Int32) × (Nat → Int32) × (Nat → Int32) × (Nat → Int32)) :=
    wrI greatest__87 1440 v98_96 t2_113 fun g149_114 =>
    nmI (x6_45 + 1) fun v154_120 =>
    K9 x4_85 r36_66 v154_120 o_atA36_67 o_atB36_68 o_atD36_69 o_atF36_70 o_atG36_71 o_atH36_72 o_atL36_73 o_atM36_74 o_atN36_75 o_atS36_76 o_atT36_77 o_atU36_78 o_atX36_79 first__86 g149_114 g108_100
def f_X12_goesOver_J83 (s_highAt : Nat → Int32) (p3 : Int32) (x6_45 : Int32) (last__61 : Nat → Int32) (r36_66 : Int32) (o_atA36_67 : Int32) (o_atB36_68 : Int32) (o_atD36_69 : Int32) (o_atF36_70 : Int32) (o_atG36_71 : Int32) (o_atH36_72 : Int32) (o_atL36_73 : Int32) (o_atM36_74 : Int32) (o_atN36_75 : Int32) (o_atS36_76 : Int32) (o_atT36_77 : Int32) (o_atU36_78 : Int32) (o_atX36_79 : Int32) (K9 : Int32 → Int32 → Int32 → Int32 → Int32 → Int32 → Int32 → Int32 → Int32 → Int32 → Int32 → Int32 → Int32 → Int32 → Int32 → Int32 → (Nat → Int32) → (Nat → Int32) → (Nat → Int32) → Option (Int32 × Int32 × Int32 × Int32 × Int32 × Int32 × Int32 × Int32 × Int32 × Int32 × Int32 × Int32 × Int32 × (Nat → Int32) × (Nat → Int32) × (Nat → Int32) × (Nat → Int32))) (x4_85 : Int32) (first__86 : Nat → Int32) (greatest__87 : Nat → Int32) : Option (Int32 × Int32 × Int32 × Int32 × Int32 × Int32 × Int32 × Int32 × Int32 × Int32 × Int32 × Int32 × Int32 × (Nat → Int32) × (Nat → Int32) × (Nat → Int32) × (Nat → Int32)) :=
    if r36_66 = 0 then
    (nmI (x6_45 + 1) fun v154_92 =>
      K9 x4_85 r36_66 v154_92 o_atA36_67 o_atB36_68 o_atD36_69 o_atF36_70 o_atG36_71 o_atH36_72 o_atL36_73 o_atM36_74 o_atN36_75 o_atS36_76 o_atT36_77 o_atU36_78 o_atX36_79 first__86 greatest__87 last__61)
    else
    (nmI (((720 * p3) + x4_85) - 1) fun v98_96 =>
      wrI last__61 1440 v98_96 x6_45 fun g108_100 =>
      rdI s_highAt 1440 x6_45 fun v121_105 =>
      rdI greatest__87 1440 v98_96 fun v128_109 =>
      if v121_105 ≤ v128_109 then
      (rdI greatest__87 1440 v98_96 fun v148_127 =>
        (f_X12_goesOver_J149 x6_45 r36_66 o_atA36_67 o_atB36_68 o_atD36_69 o_atF36_70 o_atG36_71 o_atH36_72 o_atL36_73 o_atM36_74 o_atN36_75 o_atS36_76 o_atT36_77 o_atU36_78 o_atX36_79 x4_85 first__86 greatest__87 v98_96 g108_100 K9) v148_127)
      else
      (rdI s_highAt 1440 x6_45 fun v138_131 =>
        (f_X12_goesOver_J149 x6_45 r36_66 o_atA36_67 o_atB36_68 o_atD36_69 o_atF36_70 o_atG36_71 o_atH36_72 o_atL36_73 o_atM36_74 o_atN36_75 o_atS36_76 o_atT36_77 o_atU36_78 o_atX36_79 x4_85 first__86 greatest__87 v98_96 g108_100 K9) v138_131))
def f_X12_goesOver_J36 (s_highAt : Nat → Int32) (s_many : Nat → Int32) (s_shapeAt : Nat → Int32) (p1 : Int32) (p2 : Int32) (p3 : Int32) (x4_43 : Int32) (x5_44 : Int32) (x6_45 : Int32) (atA__46 : Int32) (atB__47 : Int32) (atD__48 : Int32) (atF__49 : Int32) (atG__50 : Int32) (atH__51 : Int32) (atL__52 : Int32) (atM__53 : Int32) (atN__54 : Int32) (atS__55 : Int32) (atT__56 : Int32) (atU__57 : Int32) (atX__58 : Int32) (first__59 : Nat → Int32) (greatest__60 : Nat → Int32) (last__61 : Nat → Int32) (K9 : Int32 → Int32 → Int32 → Int32 → Int32 → Int32 → Int32 → Int32 → Int32 → Int32 → Int32 → Int32 → Int32 → Int32 → Int32 → Int32 → (Nat → Int32) → (Nat → Int32) → (Nat → Int32) → Option (Int32 × Int32 × Int32 × Int32 × Int32 × Int32 × Int32 × Int32 × Int32 × Int32 × Int32 × Int32 × Int32 × (Nat → Int32) × (Nat → Int32) × (Nat → Int32) × (Nat → Int32))) (t4_65 : Int32) : Option (Int32 × Int32 × Int32 × Int32 × Int32 × Int32 × Int32 × Int32 × Int32 × Int32 × Int32 × Int32 × Int32 × (Nat → Int32) × (Nat → Int32) × (Nat → Int32) × (Nat → Int32)) :=
    cb14 (f_X12_isMarked atA__46 atB__47 atD__48 atF__49 atG__50 atH__51 atL__52 atM__53 atN__54 atS__55 atT__56 atU__57 atX__58 s_highAt s_many s_shapeAt p1 p2 x6_45 t4_65) fun r36_66 o_atA36_67 o_atB36_68 o_atD36_69 o_atF36_70 o_atG36_71 o_atH36_72 o_atL36_73 o_atM36_74 o_atN36_75 o_atS36_76 o_atT36_77 o_atU36_78 o_atX36_79 =>
    if r36_66 = 0 then
    ((f_X12_goesOver_J83 s_highAt p3 x6_45 last__61 r36_66 o_atA36_67 o_atB36_68 o_atD36_69 o_atF36_70 o_atG36_71 o_atH36_72 o_atL36_73 o_atM36_74 o_atN36_75 o_atS36_76 o_atT36_77 o_atU36_78 o_atX36_79 K9) x4_43 first__59 greatest__60)
    else
    (if x5_44 = 0 then
      (wrI first__59 1440 ((720 * p3) + x4_43) x6_45 fun g65_141 =>
        wrI greatest__60 1440 ((720 * p3) + x4_43) 0 fun g79_146 =>
        nmI (x4_43 + 1) fun v80_151 =>
        (f_X12_goesOver_J83 s_highAt p3 x6_45 last__61 r36_66 o_atA36_67 o_atB36_68 o_atD36_69 o_atF36_70 o_atG36_71 o_atH36_72 o_atL36_73 o_atM36_74 o_atN36_75 o_atS36_76 o_atT36_77 o_atU36_78 o_atX36_79 K9) v80_151 g65_141 g79_146)
      else
      ((f_X12_goesOver_J83 s_highAt p3 x6_45 last__61 r36_66 o_atA36_67 o_atB36_68 o_atD36_69 o_atF36_70 o_atG36_71 o_atH36_72 o_atL36_73 o_atM36_74 o_atN36_75 o_atS36_76 o_atT36_77 o_atU36_78 o_atX36_79 K9) x4_43 first__59 greatest__60))
def f_X12_goesOver_L9 (s_highAt : Nat → Int32) (s_many : Nat → Int32) (s_shapeAt : Nat → Int32) (p1 : Int32) (p2 : Int32) (p3 : Int32) (K160 : Int32 → Int32 → Int32 → Int32 → Int32 → Int32 → Int32 → Int32 → Int32 → Int32 → Int32 → Int32 → Int32 → Int32 → (Nat → Int32) → (Nat → Int32) → (Nat → Int32) → Option (Int32 × Int32 × Int32 × Int32 × Int32 × Int32 × Int32 × Int32 × Int32 × Int32 × Int32 × Int32 × Int32 × (Nat → Int32) × (Nat → Int32) × (Nat → Int32) × (Nat → Int32))) : Nat → Int32 → Int32 → Int32 → Int32 → Int32 → Int32 → Int32 → Int32 → Int32 → Int32 → Int32 → Int32 → Int32 → Int32 → Int32 → Int32 → (Nat → Int32) → (Nat → Int32) → (Nat → Int32) → Option (Int32 × Int32 × Int32 × Int32 × Int32 × Int32 × Int32 × Int32 × Int32 × Int32 × Int32 × Int32 × Int32 × (Nat → Int32) × (Nat → Int32) × (Nat → Int32) × (Nat → Int32))
  | 0, _, _, _, _, _, _, _, _, _, _, _, _, _, _, _, _, _, _, _ => none
  | n9 + 1, x4_43, x5_44, x6_45, atA__46, atB__47, atD__48, atF__49, atG__50, atH__51, atL__52, atM__53, atN__54, atS__55, atT__56, atU__57, atX__58, first__59, greatest__60, last__61 =>
    if 1440 ≤ x6_45 then
    (K160 x4_43 atA__46 atB__47 atD__48 atF__49 atG__50 atH__51 atL__52 atM__53 atN__54 atS__55 atT__56 atU__57 atX__58 first__59 greatest__60 last__61)
    else
    (if x5_44 = 0 then
      ((f_X12_goesOver_J36 s_highAt s_many s_shapeAt p1 p2 p3 x4_43 x5_44 x6_45 atA__46 atB__47 atD__48 atF__49 atG__50 atH__51 atL__52 atM__53 atN__54 atS__55 atT__56 atU__57 atX__58 first__59 greatest__60 last__61 (f_X12_goesOver_L9 s_highAt s_many s_shapeAt p1 p2 p3 K160 n9)) x4_43)
      else
      ((f_X12_goesOver_J36 s_highAt s_many s_shapeAt p1 p2 p3 x4_43 x5_44 x6_45 atA__46 atB__47 atD__48 atF__49 atG__50 atH__51 atL__52 atM__53 atN__54 atS__55 atT__56 atU__57 atX__58 first__59 greatest__60 last__61 (f_X12_goesOver_L9 s_highAt s_many s_shapeAt p1 p2 p3 K160 n9)) (x4_43 - 1)))
def f_X12_goesOver (s_atA : Int32) (s_atB : Int32) (s_atD : Int32) (s_atF : Int32) (s_atG : Int32) (s_atH : Int32) (s_atL : Int32) (s_atM : Int32) (s_atN : Int32) (s_atS : Int32) (s_atT : Int32) (s_atU : Int32) (s_atX : Int32) (s_first : Nat → Int32) (s_greatest : Nat → Int32) (s_highAt : Nat → Int32) (s_last : Nat → Int32) (s_many : Nat → Int32) (s_marked : Nat → Int32) (s_shapeAt : Nat → Int32) (p1 : Int32) (p2 : Int32) (p3 : Int32) : Option (Int32 × Int32 × Int32 × Int32 × Int32 × Int32 × Int32 × Int32 × Int32 × Int32 × Int32 × Int32 × Int32 × (Nat → Int32) × (Nat → Int32) × (Nat → Int32) × (Nat → Int32)) :=
    (f_X12_goesOver_L9 s_highAt s_many s_shapeAt p1 p2 p3 (f_X12_goesOver_J160 s_marked p3 ) FU) 0 0 0 s_atA s_atB s_atD s_atF s_atG s_atH s_atL s_atM s_atN s_atS s_atT s_atU s_atX s_first s_greatest s_last
def f_X12_marks (s_sources : Int32) (s_atA : Int32) (s_atB : Int32) (s_atD : Int32) (s_atF : Int32) (s_atG : Int32) (s_atH : Int32) (s_atL : Int32) (s_atM : Int32) (s_atN : Int32) (s_atS : Int32) (s_atT : Int32) (s_atU : Int32) (s_atX : Int32) (s_paperHigh : Int32) (s_paperShape : Int32) (s_first : Nat → Int32) (s_greatest : Nat → Int32) (s_highAt : Nat → Int32) (s_last : Nat → Int32) (s_many : Nat → Int32) (s_marked : Nat → Int32) (s_shapeAt : Nat → Int32) (p1 : Int32) (p2 : Int32) (p3 : Int32) : Option (Int32 × Int32 × Int32 × Int32 × Int32 × Int32 × Int32 × Int32 × Int32 × Int32 × Int32 × Int32 × Int32 × Int32 × Int32 × Int32 × (Nat → Int32) × (Nat → Int32) × (Nat → Int32) × (Nat → Int32) × (Nat → Int32) × (Nat → Int32)) :=
    cb1 (f_X12_isReader p1) fun r1_1 =>
    if r1_1 = 0 then
    (some ((-1), s_atA, s_atB, s_atD, s_atF, s_atG, s_atH, s_atL, s_atM, s_atN, s_atS, s_atT, s_atU, s_atX, s_paperHigh, s_paperShape, s_first, s_greatest, s_highAt, s_last, s_marked, s_shapeAt))
    else
    (cb1 (f_X12_isDay p2) fun r8_31 =>
      if r8_31 = 0 then
      (some ((-1), s_atA, s_atB, s_atD, s_atF, s_atG, s_atH, s_atL, s_atM, s_atN, s_atS, s_atT, s_atU, s_atX, s_paperHigh, s_paperShape, s_first, s_greatest, s_highAt, s_last, s_marked, s_shapeAt))
      else
      (if (-1) ≤ p3 then
        (cb4 (f_X12_lays s_sources s_paperHigh s_paperShape s_highAt s_shapeAt p2) fun o_paperHigh23_64 o_paperShape23_65 o_highAt23_66 o_shapeAt23_67 =>
          cb17 (f_X12_goesOver s_atA s_atB s_atD s_atF s_atG s_atH s_atL s_atM s_atN s_atS s_atT s_atU s_atX s_first s_greatest o_highAt23_66 s_last s_many s_marked o_shapeAt23_67 p1 p2 0) fun o_atA30_72 o_atB30_73 o_atD30_74 o_atF30_75 o_atG30_76 o_atH30_77 o_atL30_78 o_atM30_79 o_atN30_80 o_atS30_81 o_atT30_82 o_atU30_83 o_atX30_84 o_first30_85 o_greatest30_86 o_last30_87 o_marked30_88 =>
          if p3 = (-1) then
          (rdI o_marked30_88 2 0 fun v43_209 =>
            some (v43_209, o_atA30_72, o_atB30_73, o_atD30_74, o_atF30_75, o_atG30_76, o_atH30_77, o_atL30_78, o_atM30_79, o_atN30_80, o_atS30_81, o_atT30_82, o_atU30_83, o_atX30_84, o_paperHigh23_64, o_paperShape23_65, o_first30_85, o_greatest30_86, o_highAt23_66, o_last30_87, o_marked30_88, o_shapeAt23_67))
          else
          (rdI o_marked30_88 2 0 fun v53_96 =>
            if (p3 / 3) < v53_96 then
            (if (jrem p3 3) = 0 then
              (rdI o_first30_85 1440 (p3 / 3) fun v72_161 =>
                some (v72_161, o_atA30_72, o_atB30_73, o_atD30_74, o_atF30_75, o_atG30_76, o_atH30_77, o_atL30_78, o_atM30_79, o_atN30_80, o_atS30_81, o_atT30_82, o_atU30_83, o_atX30_84, o_paperHigh23_64, o_paperShape23_65, o_first30_85, o_greatest30_86, o_highAt23_66, o_last30_87, o_marked30_88, o_shapeAt23_67))
              else
              (if (jrem p3 3) = 1 then
                (rdI o_last30_87 1440 (p3 / 3) fun v90_135 =>
                  some (v90_135, o_atA30_72, o_atB30_73, o_atD30_74, o_atF30_75, o_atG30_76, o_atH30_77, o_atL30_78, o_atM30_79, o_atN30_80, o_atS30_81, o_atT30_82, o_atU30_83, o_atX30_84, o_paperHigh23_64, o_paperShape23_65, o_first30_85, o_greatest30_86, o_highAt23_66, o_last30_87, o_marked30_88, o_shapeAt23_67))
                else
                (rdI o_greatest30_86 1440 (p3 / 3) fun v101_109 =>
                  some (v101_109, o_atA30_72, o_atB30_73, o_atD30_74, o_atF30_75, o_atG30_76, o_atH30_77, o_atL30_78, o_atM30_79, o_atN30_80, o_atS30_81, o_atT30_82, o_atU30_83, o_atX30_84, o_paperHigh23_64, o_paperShape23_65, o_first30_85, o_greatest30_86, o_highAt23_66, o_last30_87, o_marked30_88, o_shapeAt23_67))))
            else
            (some ((-1), o_atA30_72, o_atB30_73, o_atD30_74, o_atF30_75, o_atG30_76, o_atH30_77, o_atL30_78, o_atM30_79, o_atN30_80, o_atS30_81, o_atT30_82, o_atU30_83, o_atX30_84, o_paperHigh23_64, o_paperShape23_65, o_first30_85, o_greatest30_86, o_highAt23_66, o_last30_87, o_marked30_88, o_shapeAt23_67))))
        else
        (some ((-1), s_atA, s_atB, s_atD, s_atF, s_atG, s_atH, s_atL, s_atM, s_atN, s_atS, s_atT, s_atU, s_atX, s_paperHigh, s_paperShape, s_first, s_greatest, s_highAt, s_last, s_marked, s_shapeAt))))
def f_X12_passed_J164 (p5 : Int32)  (atA__163 : Int32) (atB__164 : Int32) (atD__165 : Int32) (atF__166 : Int32) (atG__167 : Int32) (atH__168 : Int32) (atL__169 : Int32) (atM__170 : Int32) (atN__171 : Int32) (atS__172 : Int32) (atT__173 : Int32) (atU__174 : Int32) (atX__175 : Int32) (paperHigh__176 : Int32) (paperShape__177 : Int32) (first__178 : Nat → Int32) (greatest__179 : Nat → Int32) (highAt__180 : Nat → Int32) (last__181 : Nat → Int32) (marked__182 : Nat → Int32) (shapeAt__183 : Nat → Int32) : Option (Int32 × Int32 × Int32 × Int32 × Int32 × Int32 × Int32 × Int32 × Int32 × Int32 × Int32 × Int32 × Int32 × Int32 × Int32 × Int32 × (Nat → Int32) × (Nat → Int32) × (Nat → Int32) × (Nat → Int32) × (Nat → Int32) × (Nat → Int32)) :=
    if p5 = 0 then
    (some (0, atA__163, atB__164, atD__165, atF__166, atG__167, atH__168, atL__169, atM__170, atN__171, atS__172, atT__173, atU__174, atX__175, paperHigh__176, paperShape__177, first__178, greatest__179, highAt__180, last__181, marked__182, shapeAt__183))
    else
    (if p5 = 1 then
      (some ((-1), atA__163, atB__164, atD__165, atF__166, atG__167, atH__168, atL__169, atM__170, atN__171, atS__172, atT__173, atU__174, atX__175, paperHigh__176, paperShape__177, first__178, greatest__179, highAt__180, last__181, marked__182, shapeAt__183))
      else
      (some ((-1), atA__163, atB__164, atD__165, atF__166, atG__167, atH__168, atL__169, atM__170, atN__171, atS__172, atT__173, atU__174, atX__175, paperHigh__176, paperShape__177, first__178, greatest__179, highAt__180, last__181, marked__182, shapeAt__183)))
def f_X12_passed_L72 (s_sources : Int32) (s_many : Nat → Int32) (p1 : Int32) (p2 : Int32) (p4 : Int32) (K164 : Int32 → Int32 → Int32 → Int32 → Int32 → Int32 → Int32 → Int32 → Int32 → Int32 → Int32 → Int32 → Int32 → Int32 → Int32 → (Nat → Int32) → (Nat → Int32) → (Nat → Int32) → (Nat → Int32) → (Nat → Int32) → (Nat → Int32) → Option (Int32 × Int32 × Int32 × Int32 × Int32 × Int32 × Int32 × Int32 × Int32 × Int32 × Int32 × Int32 × Int32 × Int32 × Int32 × Int32 × (Nat → Int32) × (Nat → Int32) × (Nat → Int32) × (Nat → Int32) × (Nat → Int32) × (Nat → Int32))) : Nat → Int32 → Int32 → Int32 → Int32 → Int32 → Int32 → Int32 → Int32 → Int32 → Int32 → Int32 → Int32 → Int32 → Int32 → Int32 → Int32 → (Nat → Int32) → (Nat → Int32) → (Nat → Int32) → (Nat → Int32) → (Nat → Int32) → (Nat → Int32) → Option (Int32 × Int32 × Int32 × Int32 × Int32 × Int32 × Int32 × Int32 × Int32 × Int32 × Int32 × Int32 × Int32 × Int32 × Int32 × Int32 × (Nat → Int32) × (Nat → Int32) × (Nat → Int32) × (Nat → Int32) × (Nat → Int32) × (Nat → Int32))
  | 0, _, _, _, _, _, _, _, _, _, _, _, _, _, _, _, _, _, _, _, _, _, _ => none
  | n72 + 1, x9_256, atA__257, atB__258, atD__259, atF__260, atG__261, atH__262, atL__263, atM__264, atN__265, atS__266, atT__267, atU__268, atX__269, paperHigh__270, paperShape__271, first__272, greatest__273, highAt__274, last__275, marked__276, shapeAt__277 =>
    if p4 < x9_256 then
    (K164 atA__257 atB__258 atD__259 atF__260 atG__261 atH__262 atL__263 atM__264 atN__265 atS__266 atT__267 atU__268 atX__269 paperHigh__270 paperShape__271 first__272 greatest__273 highAt__274 last__275 marked__276 shapeAt__277)
    else
    (cb4 (f_X12_lays s_sources paperHigh__270 paperShape__271 highAt__274 shapeAt__277 x9_256) fun o_paperHigh82_281 o_paperShape82_282 o_highAt82_283 o_shapeAt82_284 =>
      cb17 (f_X12_goesOver atA__257 atB__258 atD__259 atF__260 atG__261 atH__262 atL__263 atM__264 atN__265 atS__266 atT__267 atU__268 atX__269 first__272 greatest__273 o_highAt82_283 last__275 s_many marked__276 o_shapeAt82_284 p1 x9_256 0) fun o_atA90_289 o_atB90_290 o_atD90_291 o_atF90_292 o_atG90_293 o_atH90_294 o_atL90_295 o_atM90_296 o_atN90_297 o_atS90_298 o_atT90_299 o_atU90_300 o_atX90_301 o_first90_302 o_greatest90_303 o_last90_304 o_marked90_305 =>
      cb17 (f_X12_goesOver o_atA90_289 o_atB90_290 o_atD90_291 o_atF90_292 o_atG90_293 o_atH90_294 o_atL90_295 o_atM90_296 o_atN90_297 o_atS90_298 o_atT90_299 o_atU90_300 o_atX90_301 o_first90_302 o_greatest90_303 o_highAt82_283 o_last90_304 s_many o_marked90_305 o_shapeAt82_284 p2 x9_256 1) fun o_atA98_310 o_atB98_311 o_atD98_312 o_atF98_313 o_atG98_314 o_atH98_315 o_atL98_316 o_atM98_317 o_atN98_318 o_atS98_319 o_atT98_320 o_atU98_321 o_atX98_322 o_first98_323 o_greatest98_324 o_last98_325 o_marked98_326 =>
      rdI o_marked98_326 2 1 fun v111_332 =>
      if v111_332 ≤ 0 then
      (nmI (x9_256 + 1) fun v158_339 =>
        (f_X12_passed_L72 s_sources s_many p1 p2 p4 K164 n72) v158_339 o_atA98_310 o_atB98_311 o_atD98_312 o_atF98_313 o_atG98_314 o_atH98_315 o_atL98_316 o_atM98_317 o_atN98_318 o_atS98_319 o_atT98_320 o_atU98_321 o_atX98_322 o_paperHigh82_281 o_paperShape82_282 o_first98_323 o_greatest98_324 o_highAt82_283 o_last98_325 o_marked98_326 o_shapeAt82_284)
      else
      (none))
def f_X12_passed (s_sources : Int32) (s_atA : Int32) (s_atB : Int32) (s_atD : Int32) (s_atF : Int32) (s_atG : Int32) (s_atH : Int32) (s_atL : Int32) (s_atM : Int32) (s_atN : Int32) (s_atS : Int32) (s_atT : Int32) (s_atU : Int32) (s_atX : Int32) (s_paperHigh : Int32) (s_paperShape : Int32) (s_first : Nat → Int32) (s_greatest : Nat → Int32) (s_highAt : Nat → Int32) (s_last : Nat → Int32) (s_many : Nat → Int32) (s_marked : Nat → Int32) (s_shapeAt : Nat → Int32) (p1 : Int32) (p2 : Int32) (p3 : Int32) (p4 : Int32) (p5 : Int32) : Option (Int32 × Int32 × Int32 × Int32 × Int32 × Int32 × Int32 × Int32 × Int32 × Int32 × Int32 × Int32 × Int32 × Int32 × Int32 × Int32 × (Nat → Int32) × (Nat → Int32) × (Nat → Int32) × (Nat → Int32) × (Nat → Int32) × (Nat → Int32)) :=
    cb1 (f_X12_isReader p1) fun r1_1 =>
    if r1_1 = 0 then
    (some ((-1), s_atA, s_atB, s_atD, s_atF, s_atG, s_atH, s_atL, s_atM, s_atN, s_atS, s_atT, s_atU, s_atX, s_paperHigh, s_paperShape, s_first, s_greatest, s_highAt, s_last, s_marked, s_shapeAt))
    else
    (cb1 (f_X12_isReader p2) fun r8_31 =>
      if r8_31 = 0 then
      (some ((-1), s_atA, s_atB, s_atD, s_atF, s_atG, s_atH, s_atL, s_atM, s_atN, s_atS, s_atT, s_atU, s_atX, s_paperHigh, s_paperShape, s_first, s_greatest, s_highAt, s_last, s_marked, s_shapeAt))
      else
      (cb1 (f_X12_isDay p3) fun r15_61 =>
        if r15_61 = 0 then
        (some ((-1), s_atA, s_atB, s_atD, s_atF, s_atG, s_atH, s_atL, s_atM, s_atN, s_atS, s_atT, s_atU, s_atX, s_paperHigh, s_paperShape, s_first, s_greatest, s_highAt, s_last, s_marked, s_shapeAt))
        else
        (cb1 (f_X12_isDay p4) fun r23_91 =>
          if r23_91 = 0 then
          (some ((-1), s_atA, s_atB, s_atD, s_atF, s_atG, s_atH, s_atL, s_atM, s_atN, s_atS, s_atT, s_atU, s_atX, s_paperHigh, s_paperShape, s_first, s_greatest, s_highAt, s_last, s_marked, s_shapeAt))
          else
          (cb1 (f_X12_lies (Int32.toInt64 p4) (Int32.toInt64 p3) (Int32.toInt64 (p3 + 29))) fun r39_121 =>
            if r39_121 = 0 then
            (some ((-1), s_atA, s_atB, s_atD, s_atF, s_atG, s_atH, s_atL, s_atM, s_atN, s_atS, s_atT, s_atU, s_atX, s_paperHigh, s_paperShape, s_first, s_greatest, s_highAt, s_last, s_marked, s_shapeAt))
            else
            (cb1 (f_X12_lies (Int32.toInt64 p5) 0 2) fun r52_151 =>
              if r52_151 = 0 then
              (some ((-1), s_atA, s_atB, s_atD, s_atF, s_atG, s_atH, s_atL, s_atM, s_atN, s_atS, s_atT, s_atU, s_atX, s_paperHigh, s_paperShape, s_first, s_greatest, s_highAt, s_last, s_marked, s_shapeAt))
              else
              ((f_X12_passed_L72 s_sources s_many p1 p2 p4 (f_X12_passed_J164 p5 ) FU) p3 s_atA s_atB s_atD s_atF s_atG s_atH s_atL s_atM s_atN s_atS s_atT s_atU s_atX s_paperHigh s_paperShape s_first s_greatest s_highAt s_last s_marked s_shapeAt))))))
def f_X12_note_J59 (s_notes : Int32) (s_noteDay : Nat → Int32) (s_noteMinute : Nat → Int32) (s_noteShape : Nat → Int32) (p1 : Int32) (p2 : Int32) (p3 : Int32)   : Option (Int32 × Int32 × (Nat → Int32) × (Nat → Int32) × (Nat → Int32)) :=
    wrI s_noteDay 40 s_notes p1 fun g68_48 =>
    wrI s_noteMinute 40 s_notes p2 fun g78_53 =>
    wrI s_noteShape 40 s_notes p3 fun g88_58 =>
    nmI (s_notes + 1) fun v96_63 =>
    some ((v96_63 - 1), v96_63, g68_48, g78_53, g88_58)
def f_X12_note (s_notes : Int32) (s_noteDay : Nat → Int32) (s_noteMinute : Nat → Int32) (s_noteShape : Nat → Int32) (p1 : Int32) (p2 : Int32) (p3 : Int32) : Option (Int32 × Int32 × (Nat → Int32) × (Nat → Int32) × (Nat → Int32)) :=
    if s_notes = 40 then
    (some ((-1), s_notes, s_noteDay, s_noteMinute, s_noteShape))
    else
    (cb1 (f_X12_isDay p1) fun r10_9 =>
      if r10_9 = 0 then
      (some ((-1), s_notes, s_noteDay, s_noteMinute, s_noteShape))
      else
      (cb1 (f_X12_isMinute p2) fun r17_22 =>
        if r17_22 = 0 then
        (some ((-1), s_notes, s_noteDay, s_noteMinute, s_noteShape))
        else
        (cb1 (f_X12_lies (Int32.toInt64 p3) 0 3) fun r29_35 =>
          if r29_35 = 0 then
          (some ((-1), s_notes, s_noteDay, s_noteMinute, s_noteShape))
          else
          (if s_notes ≤ 0 then
            ((f_X12_note_J59 s_notes s_noteDay s_noteMinute s_noteShape p1 p2 p3 ))
            else
            (rdI s_noteDay 40 (s_notes - 1) fun v53_75 =>
              if v53_75 ≤ p1 then
              ((f_X12_note_J59 s_notes s_noteDay s_noteMinute s_noteShape p1 p2 p3 ))
              else
              (some ((-1), s_notes, s_noteDay, s_noteMinute, s_noteShape)))))))
def f_X12_isWithin (p1 : Int32) : Option (Int32) :=
    cb1 (f_X12_lies (Int32.toInt64 p1) 0 700) fun r6_1 =>
    bo r6_1 <|
    some (r6_1)
def f_X12_isShape (p1 : Int32) : Option (Int32) :=
    cb1 (f_X12_lies (Int32.toInt64 p1) 0 3) fun r6_1 =>
    bo r6_1 <|
    some (r6_1)
def f_X12_manyOf_L5 (s_notes : Int32) (s_noteDay : Nat → Int32) (s_noteShape : Nat → Int32) (p1 : Int32) (p2 : Int32)  : Nat → Int32 → Int32 → Option (Int32)
  | 0, _, _ => none
  | n5 + 1, x3_3, x4_4 =>
    if s_notes ≤ x4_4 then
    (some (x3_3))
    else
    (rdI s_noteShape 40 x4_4 fun v21_9 =>
      if v21_9 = p1 then
      (rdI s_noteDay 40 x4_4 fun v32_24 =>
        if p2 < v32_24 then
        (nmI (x3_3 + 0) fun v43_31 =>
          nmI (x4_4 + 1) fun v44_35 =>
          (f_X12_manyOf_L5 s_notes s_noteDay s_noteShape p1 p2  n5) v43_31 v44_35)
        else
        (nmI (x3_3 + 1) fun v43_39 =>
          nmI (x4_4 + 1) fun v44_43 =>
          (f_X12_manyOf_L5 s_notes s_noteDay s_noteShape p1 p2  n5) v43_39 v44_43))
      else
      (nmI (x3_3 + 0) fun v43_16 =>
        nmI (x4_4 + 1) fun v44_20 =>
        (f_X12_manyOf_L5 s_notes s_noteDay s_noteShape p1 p2  n5) v43_16 v44_20))
def f_X12_manyOf (s_notes : Int32) (s_noteDay : Nat → Int32) (s_noteShape : Nat → Int32) (p1 : Int32) (p2 : Int32) : Option (Int32) :=
    (f_X12_manyOf_L5 s_notes s_noteDay s_noteShape p1 p2  FU) 0 0
def f_X12_one (s_notes : Int32) (s_noteDay : Nat → Int32) (s_noteShape : Nat → Int32) (p1 : Int32) (p2 : Int32) : Option (Int32) :=
    cb1 (f_X12_isShape p1) fun r1_1 =>
    if r1_1 = 0 then
    (some ((-1)))
    else
    (cb1 (f_X12_isWithin p2) fun r8_10 =>
      if r8_10 = 0 then
      (some ((-1)))
      else
      (cb1 (f_X12_manyOf s_notes s_noteDay s_noteShape p1 400) fun r19_19 =>
        if r19_19 ≤ 1 then
        (some ((-1)))
        else
        (none)))
def f_X12_known_J54 (s_noteDay : Nat → Int32)  (x3_19 : Int32) : Option (Int32) :=
    rdI s_noteDay 40 x3_19 fun v61_20 =>
    none
def f_X12_known_L18 (s_notes : Int32) (s_noteDay : Nat → Int32) (s_noteShape : Nat → Int32) (p1 : Int32) (K54 : Int32 → Option (Int32)) : Nat → Int32 → Option (Int32)
  | 0, _ => none
  | n18 + 1, x3_24 =>
    if s_notes ≤ x3_24 then
    (some ((-1)))
    else
    (rdI s_noteShape 40 x3_24 fun v31_29 =>
      if v31_29 = p1 then
      (rdI s_noteDay 40 x3_24 fun v43_40 =>
        cb1 (f_X12_manyOf s_notes s_noteDay s_noteShape p1 v43_40) fun r44_44 =>
        if 2 ≤ r44_44 then
        (K54 x3_24)
        else
        (nmI (x3_24 + 1) fun v87_52 =>
          (f_X12_known_L18 s_notes s_noteDay s_noteShape p1 K54 n18) v87_52))
      else
      (nmI (x3_24 + 1) fun v87_36 =>
        (f_X12_known_L18 s_notes s_noteDay s_noteShape p1 K54 n18) v87_36))
def f_X12_known (s_notes : Int32) (s_noteDay : Nat → Int32) (s_noteShape : Nat → Int32) (p1 : Int32) (p2 : Int32) : Option (Int32) :=
    cb1 (f_X12_isShape p1) fun r1_1 =>
    if r1_1 = 0 then
    (some ((-1)))
    else
    (cb1 (f_X12_isWithin p2) fun r8_10 =>
      if r8_10 = 0 then
      (some ((-1)))
      else
      ((f_X12_known_L18 s_notes s_noteDay s_noteShape p1 (f_X12_known_J54 s_noteDay ) FU) 0))
def f_X12_row_J130 (p3 : Int32)   : Option (Int32) :=
    if p3 = 0 then
    (some (0))
    else
    (some (0))
def f_X12_row_L46 (s_notes : Int32) (s_noteShape : Nat → Int32) (p1 : Int32) (K130 : Option (Int32)) : Nat → Int32 → Option (Int32)
  | 0, _ => none
  | n46 + 1, x6_44 =>
    if s_notes ≤ x6_44 then
    (K130)
    else
    (rdI s_noteShape 40 x6_44 fun v61_48 =>
      if v61_48 = p1 then
      (none)
      else
      (nmI (x6_44 + 1) fun v124_55 =>
        (f_X12_row_L46 s_notes s_noteShape p1 K130 n46) v124_55))
def f_X12_row (s_notes : Int32) (s_noteDay : Nat → Int32) (s_noteShape : Nat → Int32) (p1 : Int32) (p2 : Int32) (p3 : Int32) : Option (Int32) :=
    cb1 (f_X12_isShape p1) fun r1_1 =>
    if r1_1 = 0 then
    (some ((-1)))
    else
    (cb1 (f_X12_isWithin p2) fun r8_10 =>
      if r8_10 = 0 then
      (some ((-1)))
      else
      (cb1 (f_X12_lies (Int32.toInt64 p3) 0 1) fun r18_19 =>
        if r18_19 = 0 then
        (some ((-1)))
        else
        (cb1 (f_X12_manyOf s_notes s_noteDay s_noteShape p1 400) fun r29_28 =>
          if r29_28 = 0 then
          (some ((-1)))
          else
          ((f_X12_row_L46 s_notes s_noteShape p1 (f_X12_row_J130 p3 ) FU) 0))))
def f_X12_blip_J45 (s_blips : Int32) (s_time : Nat → Int32) (p1 : Int32)   : Option (Int32 × Int32 × (Nat → Int32)) :=
    wrI s_time 40 s_blips p1 fun g54_18 =>
    nmI (s_blips + 1) fun v62_23 =>
    some ((v62_23 - 1), v62_23, g54_18)
def f_X12_blip (s_blips : Int32) (s_time : Nat → Int32) (p1 : Int32) : Option (Int32 × Int32 × (Nat → Int32)) :=
    if s_blips = 40 then
    (some ((-1), s_blips, s_time))
    else
    (cb1 (f_X12_lies (Int32.toInt64 p1) 0 1000000000) fun r15_7 =>
      if r15_7 = 0 then
      (some ((-1), s_blips, s_time))
      else
      (if s_blips ≤ 0 then
        ((f_X12_blip_J45 s_blips s_time p1 ))
        else
        (rdI s_time 40 (s_blips - 1) fun v39_33 =>
          if v39_33 < p1 then
          ((f_X12_blip_J45 s_blips s_time p1 ))
          else
          (some ((-1), s_blips, s_time)))))
def f_X12_isBeat (p1 : Int32) : Option (Int32) :=
    cb1 (f_X12_lies (Int32.toInt64 p1) 1 1000000) fun r6_1 =>
    bo r6_1 <|
    some (r6_1)
def f_X12_fits (s_blips : Int32) (p1 : Int32) (p2 : Int32) : Option (Int32) :=
    cb1 (f_X12_isBeat p1) fun r1_1 =>
    if r1_1 = 0 then
    (some ((-1)))
    else
    (cb1 (f_X12_lies (Int32.toInt64 p2) 0 1000) fun r13_10 =>
      if r13_10 = 0 then
      (some ((-1)))
      else
      (if p1 ≤ (2 * p2) then
        (some ((-1)))
        else
        (if s_blips ≤ 1 then
          (some ((-1)))
          else
          (none))))
def f_X12_canBeat (s_blips : Int32) (p1 : Int32) (p2 : Int32) (p3 : Int32) : Option (Int32) :=
    cb1 (f_X12_isBeat p1) fun r1_1 =>
    if r1_1 = 0 then
    (some (0))
    else
    (cb1 (f_X12_isBeat p2) fun r8_10 =>
      if r8_10 = 0 then
      (some (0))
      else
      (cb1 (f_X12_lies (Int32.toInt64 p2) (Int32.toInt64 p1) (Int32.toInt64 (p1 + 2000))) fun r24_19 =>
        if r24_19 = 0 then
        (some (0))
        else
        (cb1 (f_X12_lies (Int32.toInt64 p3) 0 1000) fun r36_28 =>
          if r36_28 = 0 then
          (some (0))
          else
          (if p1 ≤ (2 * p3) then
            (some (0))
            else
            (if s_blips ≤ 1 then
              (some (0))
              else
              (some (1)))))))
def f_X12_beats (s_blips : Int32) (p1 : Int32) (p2 : Int32) (p3 : Int32) (p4 : Int32) : Option (Int32) :=
    cb1 (f_X12_canBeat s_blips p1 p2 p3) fun r4_1 =>
    if r4_1 = 0 then
    (some ((-1)))
    else
    (cb1 (f_X12_lies (Int32.toInt64 p4) 0 2) fun r17_10 =>
      if r17_10 = 0 then
      (some ((-1)))
      else
      (none))
def f_X12_counted (s_blips : Int32) (p1 : Int32) (p2 : Int32) : Option (Int32) :=
    cb1 (f_X12_lies (Int32.toInt64 p1) 0 (Int32.toInt64 (s_blips - 1))) fun r10_1 =>
    if r10_1 = 0 then
    (some ((-1)))
    else
    (cb1 (f_X12_isBeat p2) fun r17_10 =>
      if r17_10 = 0 then
      (some ((-1)))
      else
      (none))
def f_X12_sure (s_blips : Int32) (p1 : Int32) (p2 : Int32) (p3 : Int32) : Option (Int32) :=
    cb1 (f_X12_canBeat s_blips p1 p2 p3) fun r4_1 =>
    if r4_1 = 0 then
    (some ((-1)))
    else
    (none)
def f_X12_lost (s_blips : Int32) (p1 : Int32) (p2 : Int32) (p3 : Int32) : Option (Int32) :=
    cb1 (f_X12_canBeat s_blips p1 p2 p3) fun r4_1 =>
    if r4_1 = 0 then
    (some ((-1)))
    else
    (none)
def f_X12_night (s_nights : Int32) (s_found : Nat → Int32) (s_nightDay : Nat → Int32) (p1 : Int32) (p2 : Int32) : Option (Int32 × Int32 × (Nat → Int32) × (Nat → Int32)) :=
    if s_nights = 30 then
    (some ((-1), s_nights, s_found, s_nightDay))
    else
    (cb1 (f_X12_isDay p1) fun r10_8 =>
      if r10_8 = 0 then
      (some ((-1), s_nights, s_found, s_nightDay))
      else
      (cb1 (f_X12_lies (Int32.toInt64 p2) (-100000) 100000) fun r24_20 =>
        if r24_20 = 0 then
        (some ((-1), s_nights, s_found, s_nightDay))
        else
        (wrI s_nightDay 30 s_nights p1 fun g41_28 =>
          wrI s_found 30 s_nights p2 fun g51_33 =>
          nmI (s_nights + 1) fun v59_38 =>
          some ((v59_38 - 1), v59_38, g51_33, g41_28))))
def f_X12_isNight (s_nights : Int32) (p1 : Int32) : Option (Int32) :=
    cb1 (f_X12_lies (Int32.toInt64 p1) 0 (Int32.toInt64 (s_nights - 1))) fun r10_1 =>
    bo r10_1 <|
    some (r10_1)
def f_X12_isTold (s_many : Nat → Int32) (p1 : Int32) : Option (Int32) :=
    cb1 (f_X12_isTale p1) fun r1_1 =>
    if r1_1 = 0 then
    (some (0))
    else
    (rdI s_many 20 (14 + p1) fun v15_10 =>
      if v15_10 ≤ 0 then
      (some (0))
      else
      (some (1)))
def f_X12_says (s_nights : Int32) (s_many : Nat → Int32) (p1 : Int32) (p2 : Int32) : Option (Int32) :=
    cb1 (f_X12_isTold s_many p1) fun r2_1 =>
    if r2_1 = 0 then
    (some ((-1000000)))
    else
    (cb1 (f_X12_isNight s_nights p2) fun r10_10 =>
      if r10_10 = 0 then
      (some ((-1000000)))
      else
      (none))
def f_X12_isError (p1 : Int32) : Option (Int32) :=
    cb1 (f_X12_lies (Int32.toInt64 p1) 0 100000) fun r6_1 =>
    bo r6_1 <|
    some (r6_1)
def f_X12_falls (s_many : Nat → Int32) (p1 : Int32) (p2 : Int32) : Option (Int32) :=
    cb1 (f_X12_isTold s_many p1) fun r2_1 =>
    if r2_1 = 0 then
    (some ((-1)))
    else
    (cb1 (f_X12_isError p2) fun r9_10 =>
      if r9_10 = 0 then
      (some ((-1)))
      else
      (none))
def f_X12_told_J87 (p2 : Int32)  (x3_19 : Int32) (x5_20 : Int32) : Option (Int32) :=
    if p2 = 0 then
    (some (x3_19))
    else
    (some (x5_20))
def f_X12_told_J81 (x3_26 : Int32) (K21 : Int32 → Option (Int32))  : Option (Int32) :=
    nmI (x3_26 + 1) fun v98_35 =>
    K21 v98_35
def f_X12_told_L38 (s_many : Nat → Int32) (K81 : Option (Int32)) : Nat → Int32 → Option (Int32)
  | 0, _ => none
  | n38 + 1, x6_39 =>
    if 6 ≤ x6_39 then
    (K81)
    else
    (cb1 (f_X12_isTold s_many x6_39) fun r48_43 =>
      if r48_43 = 0 then
      (nmI (x6_39 + 1) fun v75_51 =>
        (f_X12_told_L38 s_many K81 n38) v75_51)
      else
      (none))
def f_X12_told_L21 (s_nights : Int32) (s_many : Nat → Int32)  : Nat → Int32 → Option (Int32)
  | 0, _ => none
  | n21 + 1, x3_26 =>
    if s_nights ≤ x3_26 then
    (some ((-1)))
    else
    ((f_X12_told_L38 s_many (f_X12_told_J81 x3_26 (f_X12_told_L21 s_nights s_many  n21)) FU) 0)
def f_X12_told (s_nights : Int32) (s_many : Nat → Int32) (p1 : Int32) (p2 : Int32) : Option (Int32) :=
    cb1 (f_X12_isError p1) fun r1_1 =>
    if r1_1 = 0 then
    (some ((-1)))
    else
    (cb1 (f_X12_lies (Int32.toInt64 p2) 0 1) fun r11_10 =>
      if r11_10 = 0 then
      (some ((-1)))
      else
      ((f_X12_told_L21 s_nights s_many  FU) 0))
def f_X12_waveOf (p1 : Int32) (p2 : Int32) : Option (Int32) :=
    dvI p2 <|
    nmI ((4000 * p1) / p2) fun v7_3 =>
    if p2 ≤ (4 * p1) then
    (if (3 * p2) ≤ (4 * p1) then
      (some ((v7_3 - 4000)))
      else
      (some ((2000 - v7_3))))
    else
    (some (v7_3))
def f_X12_canGoAbout_L3 (s_nights : Int32) (s_found : Nat → Int32) (s_nightDay : Nat → Int32) (p1 : Int32) (p2 : Int32) (p3 : Int32) (p4 : Int32)  : Nat → Int32 → Option (Int32)
  | 0, _ => none
  | n3 + 1, x5_2 =>
    if s_nights ≤ x5_2 then
    (some (1))
    else
    (rdI s_nightDay 30 x5_2 fun v19_7 =>
      dvI p1 <|
      cb1 (f_X12_waveOf (jrem (v19_7 + p4) p1) p1) fun r26_13 =>
      rdI s_found 30 x5_2 fun v40_18 =>
      cb1 (f_X12_lies (Int32.toInt64 (((p3 * r26_13) / 1000) - v40_18)) (Int32.toInt64 (-p2)) (Int32.toInt64 p2)) fun r48_22 =>
      if r48_22 = 0 then
      (some (0))
      else
      (nmI (x5_2 + 1) fun v56_30 =>
        (f_X12_canGoAbout_L3 s_nights s_found s_nightDay p1 p2 p3 p4  n3) v56_30))
def f_X12_canGoAbout (s_nights : Int32) (s_found : Nat → Int32) (s_nightDay : Nat → Int32) (p1 : Int32) (p2 : Int32) (p3 : Int32) (p4 : Int32) : Option (Int32) :=
    (f_X12_canGoAbout_L3 s_nights s_found s_nightDay p1 p2 p3 p4  FU) 0
def f_X12_bound_L34 (s_nights : Int32) (s_found : Nat → Int32) (s_nightDay : Nat → Int32) (p1 : Int32) (p2 : Int32) (x3_19 : Int32) (K27 : Int32 → Option (Int32)) : Nat → Int32 → Option (Int32)
  | 0, _ => none
  | n34 + 1, x4_25 =>
    if p1 ≤ x4_25 then
    (nmI (x3_19 + (-1)) fun v60_29 =>
      K27 v60_29)
    else
    (cb1 (f_X12_canGoAbout s_nights s_found s_nightDay p1 p2 x3_19 x4_25) fun r46_33 =>
      if r46_33 = 0 then
      (nmI (x4_25 + 1) fun v54_41 =>
        (f_X12_bound_L34 s_nights s_found s_nightDay p1 p2 x3_19 K27 n34) v54_41)
      else
      (some (x3_19)))
def f_X12_bound_L27 (s_nights : Int32) (s_found : Nat → Int32) (s_nightDay : Nat → Int32) (p1 : Int32) (p2 : Int32)  : Nat → Int32 → Option (Int32)
  | 0, _ => none
  | n27 + 1, x3_19 =>
    if x3_19 < 0 then
    (some ((-2)))
    else
    ((f_X12_bound_L34 s_nights s_found s_nightDay p1 p2 x3_19 (f_X12_bound_L27 s_nights s_found s_nightDay p1 p2  n27) FU) 0)
def f_X12_bound (s_nights : Int32) (s_found : Nat → Int32) (s_nightDay : Nat → Int32) (p1 : Int32) (p2 : Int32) : Option (Int32) :=
    cb1 (f_X12_lies (Int32.toInt64 p1) 4 400) fun r8_1 =>
    if r8_1 = 0 then
    (some ((-1)))
    else
    (cb1 (f_X12_isError p2) fun r15_10 =>
      if r15_10 = 0 then
      (some ((-1)))
      else
      ((f_X12_bound_L27 s_nights s_found s_nightDay p1 p2  FU) 2000))
def f_X12_there (s_ten : Nat → Int32) (p1 : Int32) (p2 : Int32) : Option (Int32 × (Nat → Int32)) :=
    cb1 (f_X12_lies (Int32.toInt64 p1) 0 39) fun r6_1 =>
    if r6_1 = 0 then
    (some (0, s_ten))
    else
    (cb1 (f_X12_lies (Int32.toInt64 p2) 0 10) fun r18_11 =>
      if r18_11 = 0 then
      (some (0, s_ten))
      else
      (wrI s_ten 40 p1 p2 fun g32_19 =>
        some (1, g32_19)))
def f_X12_leastAt (s_leastFrom : Nat → Int32) (p1 : Int32) (p2 : Int32) : Option (Int32) :=
    if p2 ≤ 40 then
    (rdI s_leastFrom 371 ((53 * p1) + p2) fun v28_4 =>
      some (v28_4))
    else
    (if p1 = 0 then
      (some (1))
      else
      (some ((-1))))
def f_X12_pen_J287 (p1 : Int32) (p2 : Int32) (p3 : Int32) (leastFrom__25 : Nat → Int32) (x5_32 : Int32) (K222 : Int32 → Int32 → Option (Int32 × (Nat → Int32))) (x4_38 : Int32) : Option (Int32 × (Nat → Int32)) :=
    if (p1 - x5_32) = p3 then
    (some (x4_38, leastFrom__25))
    else
    (nmI (x4_38 + p2) fun v302_42 =>
      nmI (x5_32 + (-1)) fun v304_46 =>
      K222 v302_42 v304_46)
def f_X12_pen_L227 (s_ten : Nat → Int32) (p2 : Int32) (leastFrom__25 : Nat → Int32) (x5_32 : Int32) (K287 : Int32 → Option (Int32 × (Nat → Int32))) : Nat → Int32 → Option (Int32 × (Nat → Int32))
  | 0, _ => none
  | n227 + 1, x4_52 =>
    cb1 (f_X12_leastAt leastFrom__25 (x5_32 - 1) (x4_52 + p2)) fun r236_53 =>
    if r236_53 < 0 then
    (nmI (x4_52 + 1) fun v281_61 =>
      (f_X12_pen_L227 s_ten p2 leastFrom__25 x5_32 K287 n227) v281_61)
    else
    (rdI s_ten 40 x4_52 fun v250_65 =>
      cb1 (f_X12_leastAt leastFrom__25 (x5_32 - 1) (x4_52 + p2)) fun r261_69 =>
      rdI leastFrom__25 371 ((53 * x5_32) + x4_52) fun v277_74 =>
      if ((10 - v250_65) * r261_69) = v277_74 then
      (K287 x4_52)
      else
      (nmI (x4_52 + 1) fun v281_81 =>
        (f_X12_pen_L227 s_ten p2 leastFrom__25 x5_32 K287 n227) v281_81))
def f_X12_pen_L222 (s_ten : Nat → Int32) (p1 : Int32) (p2 : Int32) (p3 : Int32) (leastFrom__25 : Nat → Int32)  : Nat → Int32 → Int32 → Option (Int32 × (Nat → Int32))
  | 0, _, _ => none
  | n222 + 1, x4_31, x5_32 =>
    if x5_32 ≤ 0 then
    (some ((-1), leastFrom__25))
    else
    ((f_X12_pen_L227 s_ten p2 leastFrom__25 x5_32 (f_X12_pen_J287 p1 p2 p3 leastFrom__25 x5_32 (f_X12_pen_L222 s_ten p1 p2 p3 leastFrom__25  n222)) FU) x4_31)
def f_X12_pen_J200 (s_ten : Nat → Int32) (p1 : Int32) (p2 : Int32) (p3 : Int32)  (leastFrom__25 : Nat → Int32) : Option (Int32 × (Nat → Int32)) :=
    if p3 = 6 then
    (rdI leastFrom__25 371 (53 * p1) fun v214_85 =>
      some (v214_85, leastFrom__25))
    else
    ((f_X12_pen_L222 s_ten p1 p2 p3 leastFrom__25  FU) 0 p1)
def f_X12_pen_J173 (x4_91 : Int32) (x5_97 : Int32) (leastFrom__98 : Nat → Int32) (K68 : Int32 → (Nat → Int32) → Option (Int32 × (Nat → Int32))) (x6_108 : Int32) : Option (Int32 × (Nat → Int32)) :=
    wrI leastFrom__98 371 ((53 * x4_91) + x5_97) x6_108 fun g187_109 =>
    nmI (x5_97 + (-1)) fun v188_114 =>
    K68 v188_114 g187_109
def f_X12_pen_J150 (v111_124 : Int32) (K173 : Int32 → Option (Int32 × (Nat → Int32))) (t0_135 : Int32) : Option (Int32 × (Nat → Int32)) :=
    if t0_135 < 0 then
    (K173 v111_124)
    else
    (if v111_124 < 0 then
      (K173 t0_135)
      else
      (if v111_124 ≤ t0_135 then
        (K173 v111_124)
        else
        (K173 t0_135)))
def f_X12_pen_J83 (s_ten : Nat → Int32) (p2 : Int32) (x4_91 : Int32) (x5_97 : Int32) (leastFrom__98 : Nat → Int32) (K68 : Int32 → (Nat → Int32) → Option (Int32 × (Nat → Int32))) (t0_106 : Int32) : Option (Int32 × (Nat → Int32)) :=
    if x4_91 ≤ 0 then
    ((f_X12_pen_J173 x4_91 x5_97 leastFrom__98 K68) t0_106)
    else
    (if 40 ≤ x5_97 then
      ((f_X12_pen_J173 x4_91 x5_97 leastFrom__98 K68) t0_106)
      else
      (rdI leastFrom__98 371 (((53 * x4_91) + x5_97) + 1) fun v111_124 =>
        cb1 (f_X12_leastAt leastFrom__98 (x4_91 - 1) (x5_97 + p2)) fun r123_129 =>
        if 0 ≤ r123_129 then
        (rdI s_ten 40 x5_97 fun v145_151 =>
          (f_X12_pen_J150 v111_124 (f_X12_pen_J173 x4_91 x5_97 leastFrom__98 K68)) ((10 - v145_151) * r123_129))
        else
        ((f_X12_pen_J150 v111_124 (f_X12_pen_J173 x4_91 x5_97 leastFrom__98 K68)) (-1))))
def f_X12_pen_L68 (s_ten : Nat → Int32) (p2 : Int32) (x4_91 : Int32) (K58 : Int32 → (Nat → Int32) → Option (Int32 × (Nat → Int32))) : Nat → Int32 → (Nat → Int32) → Option (Int32 × (Nat → Int32))
  | 0, _, _ => none
  | n68 + 1, x5_97, leastFrom__98 =>
    if x5_97 < 0 then
    (nmI (x4_91 + 1) fun v194_102 =>
      K58 v194_102 leastFrom__98)
    else
    (if x4_91 = 0 then
      ((f_X12_pen_J83 s_ten p2 x4_91 x5_97 leastFrom__98 (f_X12_pen_L68 s_ten p2 x4_91 K58 n68)) 1)
      else
      ((f_X12_pen_J83 s_ten p2 x4_91 x5_97 leastFrom__98 (f_X12_pen_L68 s_ten p2 x4_91 K58 n68)) (-1)))
def f_X12_pen_L58 (s_ten : Nat → Int32) (p1 : Int32) (p2 : Int32) (K200 : (Nat → Int32) → Option (Int32 × (Nat → Int32))) : Nat → Int32 → (Nat → Int32) → Option (Int32 × (Nat → Int32))
  | 0, _, _ => none
  | n58 + 1, x4_91, leastFrom__92 =>
    if p1 < x4_91 then
    (K200 leastFrom__92)
    else
    ((f_X12_pen_L68 s_ten p2 x4_91 (f_X12_pen_L58 s_ten p1 p2 K200 n58) FU) 40 leastFrom__92)
def f_X12_pen_J43 (s_leastFrom : Nat → Int32) (s_ten : Nat → Int32) (p1 : Int32) (p2 : Int32) (p3 : Int32)   : Option (Int32 × (Nat → Int32)) :=
    if ((p1 - 1) * p2) ≤ 39 then
    ((f_X12_pen_L58 s_ten p1 p2 (f_X12_pen_J200 s_ten p1 p2 p3 ) FU) 0 s_leastFrom)
    else
    (some ((-1), s_leastFrom))
def f_X12_pen (s_leastFrom : Nat → Int32) (s_ten : Nat → Int32) (p1 : Int32) (p2 : Int32) (p3 : Int32) : Option (Int32 × (Nat → Int32)) :=
    cb1 (f_X12_lies (Int32.toInt64 p1) 1 6) fun r6_1 =>
    if r6_1 = 0 then
    (some ((-1), s_leastFrom))
    else
    (cb1 (f_X12_lies (Int32.toInt64 p2) 1 10) fun r18_11 =>
      if r18_11 = 0 then
      (some ((-1), s_leastFrom))
      else
      (if p3 = 6 then
        ((f_X12_pen_J43 s_leastFrom s_ten p1 p2 p3 ))
        else
        (cb1 (f_X12_lies (Int32.toInt64 p3) 0 (Int32.toInt64 (p1 - 1))) fun r37_163 =>
          if r37_163 = 0 then
          (some ((-1), s_leastFrom))
          else
          ((f_X12_pen_J43 s_leastFrom s_ten p1 p2 p3 )))))
def f_X12_choices_L16 (p1 : Int32) (p2 : Int32)  : Nat → Int64 → Int32 → Option (Int64)
  | 0, _, _ => none
  | n16 + 1, x2_10, x4_11 =>
    if p2 < x4_11 then
    (some (x2_10))
    else
    (dvL (Int32.toInt64 x4_11) <|
      nmL ((x2_10 * (Int32.toInt64 ((p1 - p2) + x4_11))) / (Int32.toInt64 x4_11)) fun v35_18 =>
      nmI (x4_11 + 1) fun v36_22 =>
      (f_X12_choices_L16 p1 p2  n16) v35_18 v36_22)
def f_X12_choices (p1 : Int32) (p2 : Int32) : Option (Int64) :=
    if p2 < 0 then
    (some (0))
    else
    (if p2 ≤ p1 then
      ((f_X12_choices_L16 p1 p2  FU) 1 1)
      else
      (some (0)))
def f_X12_divisor_L6   : Nat → Int64 → Int64 → Option (Int64)
  | 0, _, _ => none
  | n6 + 1, x4_3, x6_4 =>
    if (lg_cmp x6_4 0) = 0 then
    (some (x4_3))
    else
    (dvL x6_4 <|
      nmL (jremL x4_3 x6_4) fun v18_11 =>
      (f_X12_divisor_L6   n6) x6_4 v18_11)
def f_X12_divisor (p1 : Int64) (p2 : Int64) : Option (Int64) :=
    (f_X12_divisor_L6   FU) p1 p2
def f_X12_canLook (p1 : Int32) (p2 : Int32) (p3 : Int32) : Option (Int32) :=
    cb1 (f_X12_lies (Int32.toInt64 p1) 0 20) fun r6_1 =>
    if r6_1 = 0 then
    (some (0))
    else
    (cb1 (f_X12_lies (Int32.toInt64 p2) 0 20) fun r18_10 =>
      if r18_10 = 0 then
      (some (0))
      else
      (cb1 (f_X12_lies (Int32.toInt64 p3) 0 (Int32.toInt64 p1)) fun r29_19 =>
        if r29_19 = 0 then
        (some (0))
        else
        (if p2 < p3 then
          (some (0))
          else
          (some (1)))))
def f_X12_waysOf (p1 : Int32) (p2 : Int32) (p3 : Int32) (p4 : Int32) : Option (Int64) :=
    cb1 (f_X12_choices p1 p3) fun r2_1 =>
    cb1 (f_X12_choices (p4 - p1) (p2 - p3)) fun r11_6 =>
    some ((r2_1 * r11_6))
def f_X12_odds (p1 : Int32) (p2 : Int32) (p3 : Int32) (p4 : Int32) (p5 : Int32) : Option (Int64) :=
    cb1 (f_X12_canLook p1 p2 p3) fun r3_1 =>
    if r3_1 = 0 then
    (some ((-1)))
    else
    (cb1 (f_X12_lies (Int32.toInt64 p4) (Int32.toInt64 ((p1 + p2) - p3)) 40) fun r21_10 =>
      if r21_10 = 0 then
      (some ((-1)))
      else
      (cb1 (f_X12_lies (Int32.toInt64 p5) 0 1) fun r32_19 =>
        if r32_19 = 0 then
        (some ((-1)))
        else
        (cb1 (f_X12_waysOf p1 p2 p3 p4) fun r47_27 =>
          cb1 (f_X12_choices p4 p2) fun r55_33 =>
          cb1 (f_X12_divisor r47_27 r55_33) fun r64_39 =>
          if p5 = 0 then
          (dvL r64_39 <|
            some ((r47_27 / r64_39)))
          else
          (dvL r64_39 <|
            some ((r55_33 / r64_39))))))
def f_X12_more_L46 (p1 : Int32) (p2 : Int32) (p3 : Int32) (p4 : Int32) (p5 : Int32)  : Nat → Int32 → Int32 → Option (Int32)
  | 0, _, _ => none
  | n46 + 1, x6_32, x7_33 =>
    if 40 < x7_33 then
    (some (x6_32))
    else
    (cb1 (f_X12_waysOf p1 p2 p3 x7_33) fun r58_38 =>
      cb1 (f_X12_choices x7_33 p2) fun r71_43 =>
      if (lg_cmp (r58_38 * 1000) ((Int32.toInt64 p4) * r71_43)) < 0 then
      (nmI (x7_33 + 1) fun v94_51 =>
        (f_X12_more_L46 p1 p2 p3 p4 p5  n46) x6_32 v94_51)
      else
      (if p5 = 1 then
        (nmI (x7_33 + 1) fun v94_59 =>
          (f_X12_more_L46 p1 p2 p3 p4 p5  n46) x7_33 v94_59)
        else
        (if 0 ≤ x6_32 then
          (nmI (x7_33 + 1) fun v94_66 =>
            (f_X12_more_L46 p1 p2 p3 p4 p5  n46) x6_32 v94_66)
          else
          (nmI (x7_33 + 1) fun v94_71 =>
            (f_X12_more_L46 p1 p2 p3 p4 p5  n46) x7_33 v94_71))))
def f_X12_more (p1 : Int32) (p2 : Int32) (p3 : Int32) (p4 : Int32) (p5 : Int32) : Option (Int32) :=
    cb1 (f_X12_canLook p1 p2 p3) fun r3_1 =>
    if r3_1 = 0 then
    (some ((-1)))
    else
    (cb1 (f_X12_lies (Int32.toInt64 p4) 1 1000) fun r16_10 =>
      if r16_10 = 0 then
      (some ((-1)))
      else
      (cb1 (f_X12_lies (Int32.toInt64 p5) 0 1) fun r27_19 =>
        if r27_19 = 0 then
        (some ((-1)))
        else
        (nmI ((p1 + p2) - p3) fun v44_28 =>
          (f_X12_more_L46 p1 p2 p3 p4 p5  FU) (-2) v44_28)))
def f_X12_check (s_taped : Int32) (s_sources : Int32) (s_atA : Int32) (s_atB : Int32) (s_atD : Int32) (s_atF : Int32) (s_atG : Int32) (s_atH : Int32) (s_atL : Int32) (s_atM : Int32) (s_atN : Int32) (s_atS : Int32) (s_atT : Int32) (s_atU : Int32) (s_atX : Int32) (s_paperHigh : Int32) (s_paperShape : Int32) (s_first : Nat → Int32) (s_greatest : Nat → Int32) (s_highAt : Nat → Int32) (s_last : Nat → Int32) (s_many : Nat → Int32) (s_marked : Nat → Int32) (s_shapeAt : Nat → Int32) (p1 : Int32) (p2 : Int32) (p3 : Int32) : Option (Int32 × Int32 × Int32 × Int32 × Int32 × Int32 × Int32 × Int32 × Int32 × Int32 × Int32 × Int32 × Int32 × Int32 × Int32 × Int32 × Int32 × (Nat → Int32) × (Nat → Int32) × (Nat → Int32) × (Nat → Int32) × (Nat → Int32) × (Nat → Int32)) :=
    cb1 (f_X12_isReader p1) fun r1_1 =>
    if r1_1 = 0 then
    (some ((-2), s_taped, s_atA, s_atB, s_atD, s_atF, s_atG, s_atH, s_atL, s_atM, s_atN, s_atS, s_atT, s_atU, s_atX, s_paperHigh, s_paperShape, s_first, s_greatest, s_highAt, s_last, s_marked, s_shapeAt))
    else
    (cb1 (f_X12_isDay p2) fun r8_32 =>
      if r8_32 = 0 then
      (some ((-2), s_taped, s_atA, s_atB, s_atD, s_atF, s_atG, s_atH, s_atL, s_atM, s_atN, s_atS, s_atT, s_atU, s_atX, s_paperHigh, s_paperShape, s_first, s_greatest, s_highAt, s_last, s_marked, s_shapeAt))
      else
      (if p3 < 0 then
        (some ((-2), s_taped, s_atA, s_atB, s_atD, s_atF, s_atG, s_atH, s_atL, s_atM, s_atN, s_atS, s_atT, s_atU, s_atX, s_paperHigh, s_paperShape, s_first, s_greatest, s_highAt, s_last, s_marked, s_shapeAt))
        else
        (if p3 ≤ (s_taped / 12) then
          (cb4 (f_X12_lays s_sources s_paperHigh s_paperShape s_highAt s_shapeAt p2) fun o_paperHigh39_93 o_paperShape39_94 o_highAt39_95 o_shapeAt39_96 =>
            cb17 (f_X12_goesOver s_atA s_atB s_atD s_atF s_atG s_atH s_atL s_atM s_atN s_atS s_atT s_atU s_atX s_first s_greatest o_highAt39_95 s_last s_many s_marked o_shapeAt39_96 p1 p2 0) fun o_atA46_101 o_atB46_102 o_atD46_103 o_atF46_104 o_atG46_105 o_atH46_106 o_atL46_107 o_atM46_108 o_atN46_109 o_atS46_110 o_atT46_111 o_atU46_112 o_atX46_113 o_first46_114 o_greatest46_115 o_last46_116 o_marked46_117 =>
            rdI o_marked46_117 2 0 fun v59_123 =>
            if v59_123 ≤ 0 then
            (rdI o_marked46_117 2 0 fun v162_130 =>
              if p3 = v162_130 then
              (some ((-1), 0, o_atA46_101, o_atB46_102, o_atD46_103, o_atF46_104, o_atG46_105, o_atH46_106, o_atL46_107, o_atM46_108, o_atN46_109, o_atS46_110, o_atT46_111, o_atU46_112, o_atX46_113, o_paperHigh39_93, o_paperShape39_94, o_first46_114, o_greatest46_115, o_highAt39_95, o_last46_116, o_marked46_117, o_shapeAt39_96))
              else
              (rdI o_marked46_117 2 0 fun v176_137 =>
                some ((3 * v176_137), 0, o_atA46_101, o_atB46_102, o_atD46_103, o_atF46_104, o_atG46_105, o_atH46_106, o_atL46_107, o_atM46_108, o_atN46_109, o_atS46_110, o_atT46_111, o_atU46_112, o_atX46_113, o_paperHigh39_93, o_paperShape39_94, o_first46_114, o_greatest46_115, o_highAt39_95, o_last46_116, o_marked46_117, o_shapeAt39_96)))
            else
            (if 0 = p3 then
              (some ((3 * p3), 0, o_atA46_101, o_atB46_102, o_atD46_103, o_atF46_104, o_atG46_105, o_atH46_106, o_atL46_107, o_atM46_108, o_atN46_109, o_atS46_110, o_atT46_111, o_atU46_112, o_atX46_113, o_paperHigh39_93, o_paperShape39_94, o_first46_114, o_greatest46_115, o_highAt39_95, o_last46_116, o_marked46_117, o_shapeAt39_96))
              else
              (none)))
          else
          (some ((-2), s_taped, s_atA, s_atB, s_atD, s_atF, s_atG, s_atH, s_atL, s_atM, s_atN, s_atS, s_atT, s_atU, s_atX, s_paperHigh, s_paperShape, s_first, s_greatest, s_highAt, s_last, s_marked, s_shapeAt)))))
def f_X12_count (s_taped : Int32) (s_sources : Int32) (s_seed : Int32) (s_notes : Int32) (s_blips : Int32) (s_nights : Int32) (s_many : Nat → Int32) (p1 : Int32) : Option (Int32) :=
    cb1 (f_X12_isSource s_sources (p1 - 10)) fun r5_1 =>
    if r5_1 = 0 then
    (cb1 (f_X12_isReader (p1 - 20)) fun r27_9 =>
      if r27_9 = 0 then
      (cb1 (f_X12_isTale (p1 - 30)) fun r50_17 =>
        if r50_17 = 0 then
        (if p1 = 0 then (some (s_sources))
          else if p1 = 1 then (some (s_notes))
          else if p1 = 2 then (some (s_blips))
          else if p1 = 3 then (some (s_nights))
          else if p1 = 4 then (some (s_seed))
          else if p1 = 5 then (some (s_taped))
          else (some ((-1))))
        else
        (rdI s_many 20 ((14 + p1) - 30) fun v67_50 =>
          some (v67_50)))
      else
      (rdI s_many 20 ((10 + p1) - 20) fun v44_55 =>
        some (v44_55)))
    else
    (rdI s_many 20 ((0 + p1) - 10) fun v21_60 =>
      some (v21_60))
