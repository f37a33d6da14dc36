/-! plain functions that stand for a second school, told over arrays of ints (no machine in it) -/
abbrev Mx : Type := Nat → Nat → Int32
def mf (s : Mx) (f : Nat) : Int32 := s 0 f
def mp (s : Mx) (f : Nat) (x : Int32) : Mx := u2 s 0 f x
def mg (s : Mx) (j : Nat) (i : Int32) : Int32 := s j i.toNatClampNeg
def ms (s : Mx) (j : Nat) (i x : Int32) : Mx := u2 s j i.toNatClampNeg x
abbrev nch (x : Int32) : Prop := x.toUInt32.toUInt16.toUInt32.toInt32 = x
theorem nar_ch {x : Int32} (h : nch x) : narrow .char (.int x) = .int x := congrArg Value.int h
def f_12001  (s : Mx) : Int32 :=
  (mf s 82)
def f_12002 (x0 : Int64) (x1 : Int64) (x2 : Int64) (s : Mx) : Int32 :=
  if (lg_cmp x0 x1) < 0 then
    0
  else
    if 0 < (lg_cmp x0 x2) then
      0
    else
      1
def f_12003_J26  (l1 : Int32) (l2 : Int32) (l3 : Int32) (k0 : Int32) (s : Mx) : Mx × Int32 :=
  bS (mp s 82 k0) fun s1 =>
  if (mf s1 82) = 0 then
    (s1, 1)
  else
    (s1, 0)
def f_12003 (x0 : Int32) (x1 : Int32) (x2 : Int32) (s : Mx) : Mx × Int32 :=
  if x0 = 0 then
    f_12003_J26 x0 x1 x2 1 s
  else
    if x1 = 0 then
      f_12003_J26 x0 x1 x2 2 s
    else
      if x2 = 0 then
        f_12003_J26 x0 x1 x2 3 s
      else
        f_12003_J26 x0 x1 x2 0 s
def f_12004 (x0 : Int32) (s : Mx) : Mx × Int32 :=
  bS (mp s 82 0) fun s1 =>
  (s1, x0)
def f_12005 (x0 : Int64) (s : Mx) : Int32 :=
  if (lg_cmp x0 0) = 0 then
    1
  else
    if (lg_cmp x0 10) = 0 then
      1
    else
      if (f_12002 x0 32 126 s) = 0 then
        0
      else
        1
def f_12006_L99  : Nat → Int64 → Int32 → Int32 → Int32 → Mx → Option (Mx × Int32)
  | 0, _, _, _, _, _ => none
  | n + 1, l1, l3, l4, l5, s =>
    if 8 ≤ l5 then
      some (s, (mf s 0))
    else
      if (lg_cmp ((l1.toUInt64 >>> ((8 * l5).toInt64.toUInt64 &&& Int64.toUInt64 63)).toInt64 &&& 255) 0) = 0 then
        f_12006_L99 n l1 l3 l4 (l5 + 1) s
      else
        gd (vi (mf s 0) 300) <|
        bS (ms s 1 (mf s 0) (vp_nar .char (((((l1.toUInt64 >>> ((8 * l5).toInt64.toUInt64 &&& Int64.toUInt64 63)).toInt64 &&& 255).toInt32).toUInt32 % 65536).toInt32))) fun s3 =>
        bS (mp s3 0 ((mf s3 0) + 1)) fun s4 =>
        f_12006_L99 n l1 l3 l4 (l5 + 1) s4
def f_12006_J45  (k8 : Int64 → Int32 → Int32 → Int32 → Mx → Option (Mx × Int32)) (l1 : Int64) (l3 : Int32) (l4 : Int32) (l5 : Int32) (l6 : Int64) (k0 : Int32) (s : Mx) : Option (Mx × Int32) :=
  if (lg_cmp l6 0) = 0 then
    k8 l1 k0 (l4 + 0) (l5 + 1) s
  else
    k8 l1 k0 (l4 + 1) (l5 + 1) s
def f_12006_J44  (k8 : Int64 → Int32 → Int32 → Int32 → Mx → Option (Mx × Int32)) (l1 : Int64) (l3 : Int32) (l4 : Int32) (l5 : Int32) (l6 : Int64) (s : Mx) : Option (Mx × Int32) :=
  f_12006_J45 k8 l1 l3 l4 l5 l6 0 s
def f_12006_L8  : Nat → Int64 → Int32 → Int32 → Int32 → Mx → Option (Mx × Int32)
  | 0, _, _, _, _, _ => none
  | n + 1, l1, l3, l4, l5, s =>
    if 8 ≤ l5 then
      bT (f_12003 l3 1 1 s) fun s7 r7 =>
      if r7 = 0 then
        some (s7, 0)
      else
        if ((mf s7 0) + l4) ≤ 300 then
          f_12006_L99 1000 l1 l3 l4 0 s7
        else
          some (s7, (-1))
    else
      if l3 = 0 then
        f_12006_J44 (f_12006_L8 n) l1 l3 l4 l5 ((l1.toUInt64 >>> ((8 * l5).toInt64.toUInt64 &&& Int64.toUInt64 63)).toInt64 &&& 255) s
      else
        if (f_12005 ((l1.toUInt64 >>> ((8 * l5).toInt64.toUInt64 &&& Int64.toUInt64 63)).toInt64 &&& 255) s) = 0 then
          f_12006_J44 (f_12006_L8 n) l1 l3 l4 l5 ((l1.toUInt64 >>> ((8 * l5).toInt64.toUInt64 &&& Int64.toUInt64 63)).toInt64 &&& 255) s
        else
          f_12006_J45 (f_12006_L8 n) l1 l3 l4 l5 ((l1.toUInt64 >>> ((8 * l5).toInt64.toUInt64 &&& Int64.toUInt64 63)).toInt64 &&& 255) 1 s
def f_12006 (x0 : Int64) (s : Mx) : Option (Mx × Int32) :=
  f_12006_L8 1000 x0 1 0 0 s
def f_12007  (s : Mx) : Mx × Int32 :=
  bS (mp s 0 0) fun s1 =>
  bT (f_12004 (mf s 0) s1) fun s2 r2 =>
  (s2, r2)
def f_12008 (x0 : Int32) (s : Mx) : Mx × Int32 :=
  bT (f_12003 (f_12002 x0.toInt64 1 ((mf s 0).toInt64) s) 1 1 s) fun s2 r2 =>
  if r2 = 0 then
    (s2, 0)
  else
    bS (mp s2 0 ((mf s2 0) - x0)) fun s4 =>
    (s4, (mf s4 0))
def f_12009  (s : Mx) : Mx × Int32 :=
  bT (f_12004 (mf s 0) s) fun s1 r1 =>
  (s1, r1)
def f_12010 (x0 : Int32) (s : Mx) : Option (Mx × Int32) :=
  bT (f_12003 (f_12002 x0.toInt64 0 (((mf s 0) - 1).toInt64) s) 1 1 s) fun s2 r2 =>
  if r2 = 0 then
    gd (nch 32) <|
    some (s2, 32)
  else
    gd (vi x0 300) <|
    gd (nch (mg s2 1 x0)) <|
    some (s2, (mg s2 1 x0))
def f_12011 (x0 : Int32) (s : Mx) : Int32 :=
  if x0 < 48 then
    0
  else
    if 57 < x0 then
      0
    else
      1
def f_12012 (x0 : Int32) (s : Mx) : Int32 :=
  if x0 < 97 then
    0
  else
    if 122 < x0 then
      0
    else
      1
def f_12013_L2  : Nat → Int32 → Int32 → Mx → Option Int32
  | 0, _, _, _ => none
  | n + 1, l1, l2, s =>
    if (mf s 4) ≤ l2 then
      some l2
    else
      gd (vi l2 300) <|
      if (mg s 3 l2) = 32 then
        f_12013_L2 n l1 (l2 + 1) s
      else
        gd (vi l2 300) <|
        if (mg s 3 l2) = 10 then
          f_12013_L2 n l1 (l2 + 1) s
        else
          some l2
def f_12013 (x0 : Int32) (s : Mx) : Option Int32 :=
  f_12013_L2 1000 x0 x0 s
def f_12014  (s : Mx) : Option Int32 :=
  bP (f_12013 (mf s 7) s) fun r1 =>
  if (mf s 4) ≤ r1 then
    some 0
  else
    gd (vi r1 300) <|
    if (mg s 3 r1) = 40 then
      some 1
    else
      some 0
def f_12015_J92  (l1 : Int64) (k0 : Int32) (s : Mx) : Option (Mx × Int32) :=
  bS (mp s 8 k0) fun s1 =>
  if (lg_cmp l1 2147483647) ≤ 0 then
    some (s1, 1)
  else
    some (s1, (-2))
def f_12015_J77  (l1 : Int64) (s : Mx) : Option (Mx × Int32) :=
  if (lg_cmp l1 2147483647) ≤ 0 then
    f_12015_J92 l1 l1.toInt32 s
  else
    f_12015_J92 l1 0 s
def f_12015_J63  (k2 : Int64 → Mx → Option (Mx × Int32)) (l1 : Int64) (k0 : Int64) (s : Mx) : Option (Mx × Int32) :=
  bS (mp s 7 ((mf s 7) + 1)) fun s4 =>
  k2 k0 s4
def f_12015_L2  : Nat → Int64 → Mx → Option (Mx × Int32)
  | 0, _, _ => none
  | n + 1, l1, s =>
    if (mf s 4) ≤ (mf s 7) then
      f_12015_J77 l1 s
    else
      gd (vi (mf s 7) 300) <|
      if (f_12011 (mg s 3 (mf s 7)) s) = 0 then
        f_12015_J77 l1 s
      else
        gd (vi (mf s 7) 300) <|
        if (lg_cmp ((l1 * 10) + ((mg s 3 (mf s 7)) - 48).toInt64) 9999999999) ≤ 0 then
          f_12015_J63 (f_12015_L2 n) ((l1 * 10) + ((mg s 3 (mf s 7)) - 48).toInt64) ((l1 * 10) + ((mg s 3 (mf s 7)) - 48).toInt64) s
        else
          f_12015_J63 (f_12015_L2 n) ((l1 * 10) + ((mg s 3 (mf s 7)) - 48).toInt64) 9999999999 s
def f_12015  (s : Mx) : Option (Mx × Int32) :=
  f_12015_L2 1000 0 s
def f_12016_J83  (l1 : Int64) (s : Mx) : Option (Mx × Int32) :=
  if (lg_cmp l1 201) = 0 then
    some (s, 4)
  else
    if (lg_cmp l1 183685) = 0 then
      some (s, 5)
    else
      if (lg_cmp l1 5645591) = 0 then
        some (s, 6)
      else
        if (lg_cmp l1 21167) = 0 then
          some (s, 7)
        else
          if (lg_cmp l1 457) = 0 then
            some (s, 8)
          else
            if (lg_cmp l1 6308) = 0 then
              some (s, 9)
            else
              if (lg_cmp l1 489345202) = 0 then
                some (s, 10)
              else
                some (s, 2)
def f_12016_J68  (k2 : Int64 → Mx → Option (Mx × Int32)) (l1 : Int64) (l3 : Int32) (k0 : Int64) (k1 : Int64) (s : Mx) : Option (Mx × Int32) :=
  bS (mp s 7 ((mf s 7) + 1)) fun s8 =>
  k2 (k1 + k0) s8
def f_12016_L2  : Nat → Int64 → Mx → Option (Mx × Int32)
  | 0, _, _ => none
  | n + 1, l1, s =>
    if (mf s 4) ≤ (mf s 7) then
      f_12016_J83 l1 s
    else
      gd (vi (mf s 7) 300) <|
      if (f_12012 (mg s 3 (mf s 7)) s) = 0 then
        f_12016_J83 l1 s
      else
        if 7 ≤ ((mf s 7) - (mf s 6)) then
          f_12016_J68 (f_12016_L2 n) l1 ((mf s 7) - (mf s 6)) 0 l1 s
        else
          gd (vi (mf s 7) 300) <|
          f_12016_J68 (f_12016_L2 n) l1 ((mf s 7) - (mf s 6)) ((((mg s 3 (mf s 7)) - 97) + 1).toInt64 <<< ((5 * ((mf s 7) - (mf s 6))).toInt64 &&& 63)) l1 s
def f_12016  (s : Mx) : Option (Mx × Int32) :=
  f_12016_L2 1000 0 s
def f_12017_J46  (l1 : Int32) (l2 : Int32) (l3 : Int32) (l4 : Int32) (k0 : Int32) (k1 : Int32) (s : Mx) : Option (Mx × Int32) :=
  bS (mp s 7 (k1 + k0)) fun s1 =>
  if l4 = 0 then
    some (s1, l3)
  else
    some (s1, l2)
def f_12017_J29  (l1 : Int32) (l2 : Int32) (l3 : Int32) (k0 : Int32) (s : Mx) : Option (Mx × Int32) :=
  if k0 = 0 then
    f_12017_J46 l1 l2 l3 k0 0 (mf s 7) s
  else
    f_12017_J46 l1 l2 l3 k0 1 (mf s 7) s
def f_12017_J28  (l1 : Int32) (l2 : Int32) (l3 : Int32) (s : Mx) : Option (Mx × Int32) :=
  f_12017_J29 l1 l2 l3 0 s
def f_12017 (x0 : Int32) (x1 : Int32) (x2 : Int32) (s : Mx) : Option (Mx × Int32) :=
  if (mf s 4) ≤ (mf s 7) then
    f_12017_J28 x0 x1 x2 s
  else
    gd (vi (mf s 7) 300) <|
    if (mg s 3 (mf s 7)) = x0 then
      f_12017_J29 x0 x1 x2 1 s
    else
      f_12017_J28 x0 x1 x2 s
def f_12018 (x0 : Int32) (s : Mx) : Option (Mx × Int32) :=
  if x0 = 33 then
    bO (f_12017 61 21 24 s) fun s2 r2 =>
    some (s2, r2)
  else if x0 = 35 then
    some (s, 32)
  else if x0 = 37 then
    some (s, 15)
  else if x0 = 38 then
    bO (f_12017 38 22 (-1) s) fun s3 r3 =>
    some (s3, r3)
  else if x0 = 40 then
    some (s, 26)
  else if x0 = 41 then
    some (s, 27)
  else if x0 = 42 then
    some (s, 13)
  else if x0 = 43 then
    some (s, 11)
  else if x0 = 44 then
    some (s, 30)
  else if x0 = 45 then
    some (s, 12)
  else if x0 = 47 then
    some (s, 14)
  else if x0 = 59 then
    some (s, 31)
  else if x0 = 60 then
    bO (f_12017 61 17 16 s) fun s4 r4 =>
    some (s4, r4)
  else if x0 = 61 then
    bO (f_12017 61 20 25 s) fun s5 r5 =>
    some (s5, r5)
  else if x0 = 62 then
    bO (f_12017 61 19 18 s) fun s6 r6 =>
    some (s6, r6)
  else if x0 = 123 then
    some (s, 28)
  else if x0 = 124 then
    bO (f_12017 124 23 (-1) s) fun s7 r7 =>
    some (s7, r7)
  else if x0 = 125 then
    some (s, 29)
  else
    some (s, (-1))
def f_12019  (s : Mx) : Option Mx :=
  bP (f_12013 (mf s 7) s) fun r1 =>
  bS (mp s 6 r1) fun s2 =>
  bS (mp s2 7 (mf s2 6)) fun s3 =>
  if (mf s3 6) = (mf s3 4) then
    bS (mp s3 5 0) fun s16 =>
    some s16
  else
    gd (vi (mf s3 6) 300) <|
    if (f_12011 (mg s3 3 (mf s3 6)) s3) = 0 then
      gd (vi (mf s3 6) 300) <|
      if (f_12012 (mg s3 3 (mf s3 6)) s3) = 0 then
        bS (mp s3 7 ((mf s3 7) + 1)) fun s9 =>
        gd (vi (mf s9 6) 300) <|
        bO (f_12018 (mg s9 3 (mf s9 6)) s9) fun s10 r10 =>
        bS (mp s10 5 r10) fun s11 =>
        some s11
      else
        bO (f_12016 s3) fun s12 r12 =>
        bS (mp s12 5 r12) fun s13 =>
        some s13
    else
      bO (f_12015 s3) fun s14 r14 =>
      bS (mp s14 5 r14) fun s15 =>
      some s15
def f_12020 (x0 : Int32) (s : Mx) : Mx × Int32 :=
  bS (mp s 9 x0) fun s1 =>
  bS (mp s1 10 (mf s1 6)) fun s2 =>
  (s2, 0)
def f_12021 (x0 : Int32) (x1 : Int32) (s : Mx) : Option (Mx × Int32) :=
  gd (vi (mf s 11) 1200) <|
  bS (ms s 4 (mf s 11) x0) fun s1 =>
  gd (vi (mf s1 11) 1200) <|
  bS (ms s1 5 (mf s1 11) x1) fun s2 =>
  bS (mp s2 11 ((mf s2 11) + 1)) fun s3 =>
  some (s3, ((mf s3 11) - 1))
def f_12022 (x0 : Int32) (x1 : Int32) (s : Mx) : Option (Mx × Int32) :=
  gd (vi (mf s 14) 301) <|
  bS (ms s 6 (mf s 14) x0) fun s1 =>
  bS (mp s1 14 ((mf s1 14) + 1)) fun s2 =>
  bS (mp s2 32 x1) fun s3 =>
  some (s3, 1)
def f_12023  (s : Mx) : Option Mx :=
  bS (mp s 43 (mf s 16)) fun s1 =>
  gd (vi (mf s1 43) 100) <|
  bS (ms s1 7 (mf s1 43) (mf s1 14)) fun s2 =>
  bS (mp s2 16 ((mf s2 16) + 1)) fun s3 =>
  some s3
def f_12024 (x0 : Int32) (x1 : Int32) (s : Mx) : Option Mx :=
  gd (vi (mf s 35) 100) <|
  bS (ms s 20 (mf s 35) x0) fun s1 =>
  gd (vi (mf s1 35) 100) <|
  bS (ms s1 21 (mf s1 35) x1) fun s2 =>
  bS (mp s2 35 ((mf s2 35) + 1)) fun s3 =>
  some s3
def f_12025  (s : Mx) : Option Int32 :=
  if (mf s 35) = 0 then
    some (-1)
  else
    gd (vi ((mf s 35) - 1) 100) <|
    some (mg s 20 ((mf s 35) - 1))
def f_12026  (s : Mx) : Mx × Int32 :=
  if (mf s 33) = 8 then
    bT (f_12020 4 s) fun s3 r3 =>
    (s3, r3)
  else
    bS (mp s 33 ((mf s 33) + 1)) fun s2 =>
    (s2, 1)
def f_12027_L16  : Nat → Int32 → Int32 → Int32 → Int32 → Int32 → Int32 → Mx → Option Int32
  | 0, _, _, _, _, _, _, _ => none
  | n + 1, l1, l2, l3, l4, l5, l6, s =>
    if l2 ≤ l6 then
      gd (l5 = 0 ∨ l5 = 1) <|
      some l5
    else
      if l5 = 0 then
        gd (l5 = 0 ∨ l5 = 1) <|
        some l5
      else
        gd (vi (l1 + l6) 300) <|
        gd (vi (l3 + l6) 300) <|
        if (mg s 3 (l1 + l6)) = (mg s 3 (l3 + l6)) then
          f_12027_L16 n l1 l2 l3 l4 1 (l6 + 1) s
        else
          f_12027_L16 n l1 l2 l3 l4 0 (l6 + 1) s
def f_12027 (x0 : Int32) (x1 : Int32) (x2 : Int32) (x3 : Int32) (s : Mx) : Option Int32 :=
  if x1 = x3 then
    f_12027_L16 1000 x0 x1 x2 x3 1 0 s
  else
    f_12027_L16 1000 x0 x1 x2 x3 0 0 s
def f_12028_L4  : Nat → Int32 → Int32 → Mx → Option Int32
  | 0, _, _, _ => none
  | n + 1, l1, l2, s =>
    gd (vi (mf s 34) 2) <|
    if (mg s 9 (mf s 34)) ≤ l2 then
      some l1
    else
      gd (vi ((8 * (mf s 34)) + l2) 16) <|
      gd (vi ((8 * (mf s 34)) + l2) 16) <|
      bP (f_12027 (mg s 10 ((8 * (mf s 34)) + l2)) (mg s 11 ((8 * (mf s 34)) + l2)) (mf s 6) ((mf s 7) - (mf s 6)) s) fun r2 =>
      if r2 = 0 then
        f_12028_L4 n l1 (l2 + 1) s
      else
        f_12028_L4 n l2 (l2 + 1) s
def f_12028  (s : Mx) : Option Int32 :=
  f_12028_L4 1000 (-1) 0 s
def f_12029  (s : Mx) : Option (Mx × Int32) :=
  bP (f_12028 s) fun r1 =>
  if r1 = (-1) then
    gd (vi (mf s 34) 2) <|
    if (mg s 9 (mf s 34)) = 8 then
      some (s, r1)
    else
      gd (vi (mf s 34) 2) <|
      gd (vi ((8 * (mf s 34)) + (mg s 9 (mf s 34))) 16) <|
      bS (ms s 10 ((8 * (mf s 34)) + (mg s 9 (mf s 34))) (mf s 6)) fun s4 =>
      gd (vi (mf s4 34) 2) <|
      gd (vi ((8 * (mf s4 34)) + (mg s4 9 (mf s4 34))) 16) <|
      bS (ms s4 11 ((8 * (mf s4 34)) + (mg s4 9 (mf s4 34))) ((mf s4 7) - (mf s4 6))) fun s5 =>
      gd (vi (mf s5 34) 2) <|
      gd (vi (mf s5 34) 2) <|
      bS (ms s5 9 (mf s5 34) ((mg s5 9 (mf s5 34)) + 1)) fun s6 =>
      gd (vi (mf s6 34) 2) <|
      some (s6, ((mg s6 9 (mf s6 34)) - 1))
  else
    some (s, r1)
def f_12030_L10  : Nat → Int32 → Int32 → Int32 → Int32 → Mx → Option Int32
  | 0, _, _, _, _, _ => none
  | n + 1, l1, l2, l3, l4, s =>
    if l4 < 0 then
      some l3
    else
      gd (vi l4 40) <|
      gd (vi l4 40) <|
      bP (f_12027 (mg s 12 l4) (mg s 13 l4) l1 l2 s) fun r2 =>
      if r2 = 0 then
        f_12030_L10 n l1 l2 l3 (l4 + (-1)) s
      else
        f_12030_L10 n l1 l2 l4 (l4 + (-1)) s
def f_12030 (x0 : Int32) (x1 : Int32) (s : Mx) : Option Int32 :=
  f_12030_L10 1000 x0 x1 (-1) ((mf s 22) - 1) s
def f_12031 (x0 : Int32) (s : Mx) : Int32 :=
  if x0 = 11 then
    5
  else if x0 = 12 then
    5
  else if x0 = 13 then
    6
  else if x0 = 14 then
    6
  else if x0 = 15 then
    6
  else if x0 = 16 then
    4
  else if x0 = 17 then
    4
  else if x0 = 18 then
    4
  else if x0 = 19 then
    4
  else if x0 = 20 then
    3
  else if x0 = 21 then
    3
  else if x0 = 22 then
    2
  else if x0 = 23 then
    1
  else
    0
def f_12032_J66  (k0 : Int32 → Mx → Option Mx) (l1 : Int32) (s : Mx) : Option Mx :=
  bO (f_12021 8 0 s) fun s1 r1 =>
  gd (vi (mf s1 35) 100) <|
  gd (vi (mg s1 21 (mf s1 35)) 1200) <|
  bS (ms s1 5 (mg s1 21 (mf s1 35)) (mf s1 11)) fun s2 =>
  k0 l1 s2
def f_12032_L0  : Nat → Int32 → Mx → Option Mx
  | 0, _, _ => none
  | n + 1, l1, s =>
    bP (f_12025 s) fun r3 =>
    if r3 = (-1) then
      some s
    else
      bP (f_12025 s) fun r5 =>
      if 40 ≤ r5 then
        some s
      else
        bP (f_12025 s) fun r7 =>
        if (f_12031 r7 s) < l1 then
          some s
        else
          bS (mp s 35 ((mf s 35) - 1)) fun s10 =>
          gd (vi (mf s10 35) 100) <|
          if (mg s10 20 (mf s10 35)) = 22 then
            f_12032_J66 (f_12032_L0 n) l1 s10
          else
            gd (vi (mf s10 35) 100) <|
            if (mg s10 20 (mf s10 35)) = 23 then
              f_12032_J66 (f_12032_L0 n) l1 s10
            else
              gd (vi (mf s10 35) 100) <|
              bO (f_12021 5 (mg s10 20 (mf s10 35)) s10) fun s13 r13 =>
              f_12032_L0 n l1 s13
def f_12032 (x0 : Int32) (s : Mx) : Option Mx :=
  f_12032_L0 1000 x0 s
def f_12033_L7  : Nat → Int32 → Mx → Option Int32
  | 0, _, _ => none
  | n + 1, l1, s =>
    gd (vi l1 100) <|
    if 40 ≤ (mg s 20 l1) then
      gd (vi l1 100) <|
      some (mg s 20 l1)
    else
      f_12033_L7 n (l1 + (-1)) s
def f_12033  (s : Mx) : Option Int32 :=
  f_12033_L7 1000 ((mf s 35) - 1) s
def f_12034_L0  : Nat → Mx → Option (Mx × Int32)
  | 0, _ => none
  | n + 1, s =>
    bP (f_12025 s) fun r1 =>
    if r1 = 40 then
      bS (mp s 35 ((mf s 35) - 1)) fun s14 =>
      bS (mp s14 33 ((mf s14 33) - 1)) fun s15 =>
      gd (vi (mf s15 35) 100) <|
      bO (f_12021 4 (mg s15 21 (mf s15 35)) s15) fun s16 r16 =>
      f_12034_L0 n  s16
    else
      bS (mp s 32 4) fun s3 =>
      bP (f_12025 s3) fun r4 =>
      if r4 = 48 then
        bS (mp s3 35 ((mf s3 35) - 1)) fun s11 =>
        bS (mp s11 33 ((mf s11 33) - 1)) fun s12 =>
        bS (mp s12 32 6) fun s13 =>
        some (s13, 1)
      else
        bP (f_12025 s3) fun r6 =>
        if r6 = 50 then
          bS (mp s3 35 ((mf s3 35) - 1)) fun s8 =>
          bO (f_12021 16 0 s8) fun s9 r9 =>
          bS (mp s9 32 14) fun s10 =>
          some (s10, 1)
        else
          some (s3, 1)
def f_12034  (s : Mx) : Option (Mx × Int32) :=
  f_12034_L0 1000  s
def f_12035  (s : Mx) : Option (Mx × Int32) :=
  gd (vi (mf s 27) 110) <|
  bS (ms s 16 (mf s 27) (mf s 6)) fun s1 =>
  gd (vi (mf s1 27) 110) <|
  bS (ms s1 17 (mf s1 27) ((mf s1 7) - (mf s1 6))) fun s2 =>
  gd (vi (mf s2 27) 110) <|
  bS (ms s2 18 (mf s2 27) 0) fun s3 =>
  bOv (f_12024 42 (mf s3 27) s3) fun s4 =>
  bS (mp s4 27 ((mf s4 27) + 1)) fun s5 =>
  bO (f_12022 3 13 s5) fun s6 r6 =>
  some (s6, r6)
def f_12036  (s : Mx) : Option (Mx × Int32) :=
  bO (f_12022 27 4 s) fun s1 r1 =>
  bS (mp s1 35 ((mf s1 35) - 1)) fun s2 =>
  bS (mp s2 33 ((mf s2 33) - 1)) fun s3 =>
  gd (vi (mf s3 35) 100) <|
  bO (f_12021 10 0 s3) fun s4 r4 =>
  gd (vi (mg s3 21 (mf s3 35)) 110) <|
  bS (ms s4 19 (mg s3 21 (mf s3 35)) r4) fun s5 =>
  bO (f_12034 s5) fun s6 r6 =>
  some (s6, r6)
def f_12037 (x0 : Int32) (x1 : Int32) (x2 : Int32) (x3 : Int32) (s : Mx) : Option (Mx × Int32) :=
  bT (f_12026 s) fun s1 r1 =>
  if r1 = 0 then
    some (s1, 0)
  else
    gd (vi (mf s1 38) 10) <|
    bS (ms s1 22 (mf s1 38) x0) fun s3 =>
    gd (vi (mf s3 38) 10) <|
    bS (ms s3 23 (mf s3 38) x1) fun s4 =>
    gd (vi (mf s4 38) 10) <|
    bS (ms s4 24 (mf s4 38) x2) fun s5 =>
    gd (vi (mf s5 38) 10) <|
    bS (ms s5 25 (mf s5 38) x3) fun s6 =>
    bS (mp s6 38 ((mf s6 38) + 1)) fun s7 =>
    bO (f_12022 28 0 s7) fun s8 r8 =>
    some (s8, r8)
def f_12038_J121  (l1 : Int32) (l2 : Int32) (s : Mx) : Option (Mx × Int32) :=
  gd (vi (mf s 38) 10) <|
  gd (vi (mg s 24 (mf s 38)) 1200) <|
  bS (ms s 5 (mg s 24 (mf s 38)) (mf s 11)) fun s1 =>
  some (s1, 1)
def f_12038  (s : Mx) : Option (Mx × Int32) :=
  bO (f_12022 29 0 s) fun s2 r2 =>
  bS (mp s2 38 ((mf s2 38) - 1)) fun s3 =>
  bS (mp s3 33 ((mf s3 33) - 1)) fun s4 =>
  gd (vi (mf s4 38) 10) <|
  gd (vi (mg s4 23 (mf s4 38)) 100) <|
  bS (ms s4 8 (mg s4 23 (mf s4 38)) ((mf s4 14) - 1)) fun s5 =>
  gd (vi (mf s5 38) 10) <|
  if (mg s5 22 (mf s5 38)) = 4 then
    bS (mp s5 32 1) fun s13 =>
    some (s13, 1)
  else
    if (mg s5 22 (mf s5 38)) = 6 then
      gd (vi (mf s5 38) 10) <|
      bO (f_12021 14 (mg s5 25 (mf s5 38)) s5) fun s12 r12 =>
      f_12038_J121 r2 (mg s5 22 (mf s5 38)) s12
    else
      if (mg s5 22 (mf s5 38)) = 9 then
        bO (f_12021 1 0 s5) fun s9 r9 =>
        bO (f_12021 15 0 s9) fun s10 r10 =>
        bS (mp s10 34 0) fun s11 =>
        f_12038_J121 r2 (mg s5 22 (mf s5 38)) s11
      else
        f_12038_J121 r2 (mg s5 22 (mf s5 38)) s5
def f_12040 (x0 : Int32) (x1 : Int32) (s : Mx) : Option (Mx × Int32) :=
  bOv (f_12023 s) fun s1 =>
  bO (f_12021 0 0 s1) fun s2 r2 =>
  gd (vi (mf s1 38) 10) <|
  bS (ms s2 25 (mf s1 38) r2) fun s3 =>
  bOv (f_12024 x0 x1 s3) fun s4 =>
  some (s4, 1)
def f_12041  (s : Mx) : Option (Mx × Int32) :=
  bP (f_12014 s) fun r1 =>
  if r1 = 0 then
    bO (f_12029 s) fun s3 r3 =>
    if r3 = (-1) then
      bT (f_12020 5 s3) fun s7 r7 =>
      some (s7, r7)
    else
      bO (f_12040 43 r3 s3) fun s5 r5 =>
      bO (f_12022 2 5 s5) fun s6 r6 =>
      some (s6, r6)
  else
    bO (f_12040 50 0 s) fun s8 r8 =>
    bO (f_12035 s8) fun s9 r9 =>
    some (s9, r9)
def f_12042  (s : Mx) : Option (Mx × Int32) :=
  if (mf s 5) = 0 then
    if (mf s 38) = 0 then
      bO (f_12021 17 0 s) fun s5 r5 =>
      if 0 ≤ r5 then
        some (s5, 0)
      else
        some (s5, 1)
    else
      bT (f_12020 3 s) fun s4 r4 =>
      some (s4, r4)
  else if (mf s 5) = 1 then
    bT (f_12020 3 s) fun s7 r7 =>
    some (s7, r7)
  else if (mf s 5) = 2 then
    bO (f_12041 s) fun s8 r8 =>
    some (s8, r8)
  else if (mf s 5) = 3 then
    bT (f_12020 3 s) fun s9 r9 =>
    some (s9, r9)
  else if (mf s 5) = 4 then
    bO (f_12040 46 0 s) fun s10 r10 =>
    if r10 = 0 then
      some (s10, 0)
    else
      bO (f_12022 4 2 s10) fun s12 r12 =>
      if r12 = 0 then
        some (s12, 0)
      else
        some (s12, 1)
  else if (mf s 5) = 5 then
    bT (f_12020 3 s) fun s14 r14 =>
    some (s14, r14)
  else if (mf s 5) = 6 then
    bO (f_12040 47 0 s) fun s15 r15 =>
    if r15 = 0 then
      some (s15, 0)
    else
      bO (f_12022 6 2 s15) fun s17 r17 =>
      if r17 = 0 then
        some (s17, 0)
      else
        some (s17, 1)
  else if (mf s 5) = 7 then
    bO (f_12040 44 0 s) fun s19 r19 =>
    if r19 = 0 then
      some (s19, 0)
    else
      bO (f_12022 7 2 s19) fun s21 r21 =>
      if r21 = 0 then
        some (s21, 0)
      else
        some (s21, 1)
  else if (mf s 5) = 8 then
    bT (f_12020 3 s) fun s23 r23 =>
    some (s23, r23)
  else if (mf s 5) = 9 then
    if (mf s 38) ≤ 0 then
      bOv (f_12023 s) fun s25 =>
      bO (f_12022 9 8 s25) fun s26 r26 =>
      some (s26, r26)
    else
      bT (f_12020 3 s) fun s27 r27 =>
      some (s27, r27)
  else if (mf s 5) = 10 then
    if (mf s 34) = 0 then
      bT (f_12020 3 s) fun s33 r33 =>
      some (s33, r33)
    else
      bO (f_12040 45 0 s) fun s29 r29 =>
      if r29 = 0 then
        some (s29, 0)
      else
        bO (f_12022 10 2 s29) fun s31 r31 =>
        if r31 = 0 then
          some (s31, 0)
        else
          some (s31, 1)
  else if (mf s 5) = 11 then
    bT (f_12020 3 s) fun s34 r34 =>
    some (s34, r34)
  else if (mf s 5) = 12 then
    bT (f_12020 3 s) fun s35 r35 =>
    some (s35, r35)
  else if (mf s 5) = 13 then
    bT (f_12020 3 s) fun s36 r36 =>
    some (s36, r36)
  else if (mf s 5) = 14 then
    bT (f_12020 3 s) fun s37 r37 =>
    some (s37, r37)
  else if (mf s 5) = 15 then
    bT (f_12020 3 s) fun s38 r38 =>
    some (s38, r38)
  else if (mf s 5) = 16 then
    bT (f_12020 3 s) fun s39 r39 =>
    some (s39, r39)
  else if (mf s 5) = 17 then
    bT (f_12020 3 s) fun s40 r40 =>
    some (s40, r40)
  else if (mf s 5) = 18 then
    bT (f_12020 3 s) fun s41 r41 =>
    some (s41, r41)
  else if (mf s 5) = 19 then
    bT (f_12020 3 s) fun s42 r42 =>
    some (s42, r42)
  else if (mf s 5) = 20 then
    bT (f_12020 3 s) fun s43 r43 =>
    some (s43, r43)
  else if (mf s 5) = 21 then
    bT (f_12020 3 s) fun s44 r44 =>
    some (s44, r44)
  else if (mf s 5) = 22 then
    bT (f_12020 3 s) fun s45 r45 =>
    some (s45, r45)
  else if (mf s 5) = 23 then
    bT (f_12020 3 s) fun s46 r46 =>
    some (s46, r46)
  else if (mf s 5) = 24 then
    bT (f_12020 3 s) fun s47 r47 =>
    some (s47, r47)
  else if (mf s 5) = 25 then
    bT (f_12020 3 s) fun s48 r48 =>
    some (s48, r48)
  else if (mf s 5) = 26 then
    bT (f_12020 3 s) fun s49 r49 =>
    some (s49, r49)
  else if (mf s 5) = 27 then
    bT (f_12020 3 s) fun s50 r50 =>
    some (s50, r50)
  else if (mf s 5) = 28 then
    bT (f_12020 3 s) fun s51 r51 =>
    some (s51, r51)
  else if (mf s 5) = 29 then
    if (mf s 38) ≤ 0 then
      bT (f_12020 3 s) fun s53 r53 =>
      some (s53, r53)
    else
      bO (f_12038 s) fun s54 r54 =>
      some (s54, r54)
  else if (mf s 5) = 30 then
    bT (f_12020 3 s) fun s55 r55 =>
    some (s55, r55)
  else if (mf s 5) = 31 then
    bT (f_12020 3 s) fun s56 r56 =>
    some (s56, r56)
  else if (mf s 5) = 32 then
    bT (f_12026 s) fun s57 r57 =>
    if r57 = 0 then
      some (s57, 0)
    else
      bO (f_12040 48 0 s57) fun s59 r59 =>
      if r59 = 0 then
        some (s59, 0)
      else
        bO (f_12022 32 2 s59) fun s61 r61 =>
        if r61 = 0 then
          some (s61, 0)
        else
          some (s61, 1)
  else
    bT (f_12020 3 s) fun s2 r2 =>
    some (s2, r2)
def f_12039  (s : Mx) : Option (Mx × Int32) :=
  if (mf s 5) = 5 then
    bO (f_12021 14 0 s) fun s5 r5 =>
    gd (vi (mf s5 38) 10) <|
    gd (vi (mg s5 24 (mf s5 38)) 1200) <|
    bS (ms s5 5 (mg s5 24 (mf s5 38)) (mf s5 11)) fun s6 =>
    gd (vi (mf s6 38) 10) <|
    bS (ms s6 24 (mf s6 38) r5) fun s7 =>
    gd (vi (mf s7 38) 10) <|
    bS (ms s7 22 (mf s7 38) 5) fun s8 =>
    bO (f_12022 5 7 s8) fun s9 r9 =>
    some (s9, r9)
  else
    gd (vi (mf s 38) 10) <|
    gd (vi (mg s 24 (mf s 38)) 1200) <|
    bS (ms s 5 (mg s 24 (mf s 38)) (mf s 11)) fun s2 =>
    bS (mp s2 32 0) fun s3 =>
    bO (f_12042 s3) fun s4 r4 =>
    some (s4, r4)
def f_12044  (s : Mx) : Option (Mx × Int32) :=
  bO (f_12029 s) fun s1 r1 =>
  if r1 = (-1) then
    bT (f_12020 5 s1) fun s8 r8 =>
    some (s8, r8)
  else
    bO (f_12021 2 r1 s1) fun s3 r3 =>
    bO (f_12022 2 4 s3) fun s4 r4 =>
    if r4 = 0 then
      some (s4, 0)
    else
      bO (f_12034 s4) fun s6 r6 =>
      if r6 = 0 then
        some (s6, 0)
      else
        some (s6, 1)
def f_12043_J171   (s : Mx) : Option (Mx × Int32) :=
  bT (f_12026 s) fun s1 r1 =>
  if r1 = 0 then
    some (s1, 0)
  else
    bOv (f_12024 40 (mf s1 5) s1) fun s3 =>
    bO (f_12022 (mf s3 5) 2 s3) fun s4 r4 =>
    some (s4, r4)
def f_12043  (s : Mx) : Option (Mx × Int32) :=
  if (mf s 5) = 1 then
    bO (f_12021 1 (mf s 8) s) fun s6 r6 =>
    if r6 < 0 then
      some (s6, 0)
    else
      bO (f_12022 1 4 s6) fun s8 r8 =>
      if r8 = 0 then
        some (s8, 0)
      else
        bO (f_12034 s8) fun s10 r10 =>
        if r10 = 0 then
          some (s10, 0)
        else
          some (s10, 1)
  else if (mf s 5) = 2 then
    bP (f_12014 s) fun r12 =>
    if r12 = 0 then
      bO (f_12044 s) fun s14 r14 =>
      some (s14, r14)
    else
      bO (f_12035 s) fun s15 r15 =>
      some (s15, r15)
  else if (mf s 5) = 8 then
    bO (f_12021 9 0 s) fun s16 r16 =>
    if r16 < 0 then
      some (s16, 0)
    else
      bO (f_12022 8 4 s16) fun s18 r18 =>
      if r18 = 0 then
        some (s18, 0)
      else
        bO (f_12034 s18) fun s20 r20 =>
        if r20 = 0 then
          some (s20, 0)
        else
          some (s20, 1)
  else if (mf s 5) = 12 then
    f_12043_J171  s
  else if (mf s 5) = 24 then
    f_12043_J171  s
  else if (mf s 5) = 26 then
    bT (f_12026 s) fun s22 r22 =>
    if r22 = 0 then
      some (s22, 0)
    else
      bOv (f_12024 41 0 s22) fun s24 =>
      bO (f_12022 26 2 s24) fun s25 r25 =>
      some (s25, r25)
  else if (mf s 5) = 27 then
    if (mf s 32) = 3 then
      bO (f_12036 s) fun s28 r28 =>
      some (s28, r28)
    else
      bT (f_12020 3 s) fun s27 r27 =>
      some (s27, r27)
  else if (mf s 5) = 32 then
    f_12043_J171  s
  else
    bT (f_12020 3 s) fun s29 r29 =>
    some (s29, r29)
def f_12046 (x0 : Int32) (s : Mx) : Option (Mx × Int32) :=
  bOv (f_12032 1 s) fun s1 =>
  if x0 = 42 then
    gd (vi ((mf s1 35) - 1) 100) <|
    gd (vi (mg s1 21 ((mf s1 35) - 1)) 110) <|
    gd (vi (mg s1 21 ((mf s1 35) - 1)) 110) <|
    bS (ms s1 18 (mg s1 21 ((mf s1 35) - 1)) ((mg s1 18 (mg s1 21 ((mf s1 35) - 1))) + 1)) fun s9 =>
    bO (f_12036 s9) fun s10 r10 =>
    some (s10, r10)
  else
    bS (mp s1 35 ((mf s1 35) - 1)) fun s3 =>
    bS (mp s3 33 ((mf s3 33) - 1)) fun s4 =>
    bO (f_12022 27 4 s4) fun s5 r5 =>
    if r5 = 0 then
      some (s5, 0)
    else
      bO (f_12034 s5) fun s7 r7 =>
      if r7 = 0 then
        some (s7, 0)
      else
        some (s7, 1)
def f_12047_J60  (l1 : Int32) (k0 : Int32) (s : Mx) : Option (Mx × Int32) :=
  gd (vi (mf s 35) 100) <|
  bO (f_12021 k0 (mg s 21 (mf s 35)) s) fun s1 r1 =>
  gd (vi (mf s1 43) 100) <|
  bS (ms s1 8 (mf s1 43) (mf s1 14)) fun s2 =>
  bO (f_12022 31 0 s2) fun s3 r3 =>
  some (s3, r3)
def f_12047  (s : Mx) : Option (Mx × Int32) :=
  bOv (f_12032 1 s) fun s4 =>
  bS (mp s4 35 ((mf s4 35) - 1)) fun s5 =>
  gd (vi (mf s5 35) 100) <|
  if (mg s5 20 (mf s5 35)) = 43 then
    f_12047_J60 (mg s5 20 (mf s5 35)) 3 s5
  else
    if (mg s5 20 (mf s5 35)) = 44 then
      f_12047_J60 (mg s5 20 (mf s5 35)) 11 s5
    else
      if (mg s5 20 (mf s5 35)) = 45 then
        f_12047_J60 (mg s5 20 (mf s5 35)) 15 s5
      else
        f_12047_J60 (mg s5 20 (mf s5 35)) 12 s5
def f_12048_J59  (l1 : Int32) (k0 : Int32) (s : Mx) : Option (Mx × Int32) :=
  gd (vi (mf s 38) 10) <|
  bO (f_12037 k0 (mf s 43) l1 (mg s 25 (mf s 38)) s) fun s1 r1 =>
  some (s1, r1)
def f_12048  (s : Mx) : Option (Mx × Int32) :=
  if (mf s 33) = 8 then
    bT (f_12020 4 s) fun s7 r7 =>
    some (s7, r7)
  else
    bOv (f_12032 1 s) fun s3 =>
    bS (mp s3 35 ((mf s3 35) - 1)) fun s4 =>
    bO (f_12021 13 0 s4) fun s5 r5 =>
    gd (vi (mf s5 35) 100) <|
    if (mg s5 20 (mf s5 35)) = 46 then
      f_12048_J59 r5 4 s5
    else
      f_12048_J59 r5 6 s5
def f_12045_J132  (l1 : Int32) (l2 : Int32) (s : Mx) : Option (Mx × Int32) :=
  bO (f_12046 l2 s) fun s1 r1 =>
  some (s1, r1)
def f_12045_J56  (l1 : Int32) (k0 : Int32) (s : Mx) : Option (Mx × Int32) :=
  bOv (f_12024 (mf s 5) k0 s) fun s2 =>
  bO (f_12022 (mf s2 5) 2 s2) fun s3 r3 =>
  some (s3, r3)
def f_12045  (s : Mx) : Option (Mx × Int32) :=
  if (f_12031 (mf s 5) s) ≤ 0 then
    bP (f_12033 s) fun r6 =>
    if (mf s 5) = 27 then
      if r6 = 41 then
        f_12045_J132 (f_12031 (mf s 5) s) r6 s
      else
        if r6 = 42 then
          f_12045_J132 (f_12031 (mf s 5) s) r6 s
        else
          bT (f_12020 3 s) fun s11 r11 =>
          some (s11, r11)
    else if (mf s 5) = 28 then
      if r6 = 46 then
        bO (f_12048 s) fun s13 r13 =>
        some (s13, r13)
      else
        if r6 = 47 then
          bO (f_12048 s) fun s16 r16 =>
          some (s16, r16)
        else
          bT (f_12020 3 s) fun s15 r15 =>
          some (s15, r15)
    else if (mf s 5) = 29 then
      bT (f_12020 3 s) fun s17 r17 =>
      some (s17, r17)
    else if (mf s 5) = 30 then
      if r6 = 42 then
        bOv (f_12032 1 s) fun s19 =>
        gd (vi ((mf s19 35) - 1) 100) <|
        gd (vi (mg s19 21 ((mf s19 35) - 1)) 110) <|
        gd (vi (mg s19 21 ((mf s19 35) - 1)) 110) <|
        bS (ms s19 18 (mg s19 21 ((mf s19 35) - 1)) ((mg s19 18 (mg s19 21 ((mf s19 35) - 1))) + 1)) fun s20 =>
        bO (f_12022 30 2 s20) fun s21 r21 =>
        some (s21, r21)
      else
        bT (f_12020 3 s) fun s22 r22 =>
        some (s22, r22)
    else if (mf s 5) = 31 then
      if r6 = 43 then
        bO (f_12047 s) fun s24 r24 =>
        some (s24, r24)
      else
        if r6 = 44 then
          bO (f_12047 s) fun s26 r26 =>
          some (s26, r26)
        else
          if r6 = 45 then
            bO (f_12047 s) fun s28 r28 =>
            some (s28, r28)
          else
            if r6 = 49 then
              bO (f_12047 s) fun s31 r31 =>
              some (s31, r31)
            else
              bT (f_12020 3 s) fun s30 r30 =>
              some (s30, r30)
    else
      bT (f_12020 3 s) fun s8 r8 =>
      some (s8, r8)
  else
    bOv (f_12032 (f_12031 (mf s 5) s) s) fun s32 =>
    if (mf s32 5) = 22 then
      bO (f_12021 6 0 s32) fun s36 r36 =>
      f_12045_J56 (f_12031 (mf s 5) s) r36 s36
    else
      if (mf s32 5) = 23 then
        bO (f_12021 7 0 s32) fun s35 r35 =>
        f_12045_J56 (f_12031 (mf s 5) s) r35 s35
      else
        f_12045_J56 (f_12031 (mf s 5) s) 0 s32
def f_12049  (s : Mx) : Option (Mx × Int32) :=
  if (mf s 5) = 2 then
    bP (f_12030 (mf s 6) ((mf s 7) - (mf s 6)) s) fun r2 =>
    if r2 = (-1) then
      gd (vi (mf s 22) 40) <|
      bS (ms s 12 (mf s 22) (mf s 6)) fun s4 =>
      gd (vi (mf s4 22) 40) <|
      bS (ms s4 13 (mf s4 22) ((mf s4 7) - (mf s4 6))) fun s5 =>
      gd (vi (mf s5 22) 40) <|
      bS (ms s5 14 (mf s5 22) 0) fun s6 =>
      bO (f_12021 14 0 s6) fun s7 r7 =>
      gd (vi 0 10) <|
      bS (ms s7 24 0 r7) fun s8 =>
      gd (vi (mf s8 22) 40) <|
      bS (ms s8 15 (mf s8 22) (mf s8 11)) fun s9 =>
      bS (mp s9 22 ((mf s9 22) + 1)) fun s10 =>
      bS (mp s10 34 1) fun s11 =>
      gd (vi 1 2) <|
      bS (ms s11 9 1 0) fun s12 =>
      bO (f_12022 3 9 s12) fun s13 r13 =>
      some (s13, r13)
    else
      bT (f_12020 6 s) fun s14 r14 =>
      some (s14, r14)
  else
    bT (f_12020 3 s) fun s15 r15 =>
    some (s15, r15)
def f_12050_J37   (s : Mx) : Option (Mx × Int32) :=
  if (mf s 5) = 2 then
    bP (f_12028 s) fun r2 =>
    if r2 = (-1) then
      bO (f_12029 s) fun s4 r4 =>
      if r4 = (-1) then
        bT (f_12020 5 s4) fun s8 r8 =>
        some (s8, r8)
      else
        gd (vi ((mf s4 22) - 1) 40) <|
        gd (vi ((mf s4 22) - 1) 40) <|
        bS (ms s4 14 ((mf s4 22) - 1) ((mg s4 14 ((mf s4 22) - 1)) + 1)) fun s6 =>
        bO (f_12022 2 12 s6) fun s7 r7 =>
        some (s7, r7)
    else
      bT (f_12020 6 s) fun s9 r9 =>
      some (s9, r9)
  else
    bT (f_12020 3 s) fun s10 r10 =>
    some (s10, r10)
def f_12050  (s : Mx) : Option (Mx × Int32) :=
  if (mf s 5) = 27 then
    if (mf s 32) = 10 then
      bS (mp s 33 ((mf s 33) - 1)) fun s13 =>
      bO (f_12022 27 7 s13) fun s14 r14 =>
      some (s14, r14)
    else
      f_12050_J37  s
  else
    f_12050_J37  s
def f_12051_J37  (k0 : Int32) (k1 : Int32) (s : Mx) : Option (Mx × Int32) :=
  bS (mp s 33 (k1 - k0)) fun s1 =>
  if (mf s1 5) = 27 then
    bO (f_12022 27 7 s1) fun s4 r4 =>
    some (s4, r4)
  else
    bT (f_12020 3 s1) fun s3 r3 =>
    some (s3, r3)
def f_12051  (s : Mx) : Option (Mx × Int32) :=
  if (mf s 5) = 30 then
    bO (f_12022 30 11 s) fun s7 r7 =>
    some (s7, r7)
  else
    if (mf s 5) = 27 then
      f_12051_J37 1 (mf s 33) s
    else
      f_12051_J37 0 (mf s 33) s
def f_12052_J67  (l1 : Int32) (k0 : Int32) (k1 : Int32) (s : Mx) : Option (Mx × Int32) :=
  gd (vi (mf s 38) 10) <|
  bO (f_12037 k1 k0 (mg s 24 (mf s 38)) 0 s) fun s1 r1 =>
  some (s1, r1)
def f_12052_J47  (l1 : Int32) (k0 : Int32) (s : Mx) : Option (Mx × Int32) :=
  if l1 = 0 then
    f_12052_J67 l1 (mf s 43) k0 s
  else
    gd (vi (mf s 38) 10) <|
    f_12052_J67 l1 (mg s 23 (mf s 38)) k0 s
def f_12052_J35  (k0 : Int32) (s : Mx) : Option (Mx × Int32) :=
  if k0 = 0 then
    f_12052_J47 k0 9 s
  else
    f_12052_J47 k0 5 s
def f_12052  (s : Mx) : Option (Mx × Int32) :=
  if (mf s 5) = 28 then
    gd (vi ((mf s 14) - 1) 301) <|
    if (mg s 6 ((mf s 14) - 1)) = 5 then
      f_12052_J35 1 s
    else
      f_12052_J35 0 s
  else
    bT (f_12020 3 s) fun s6 r6 =>
    some (s6, r6)
def f_12053 (x0 : Int32) (x1 : Int32) (s : Mx) : Option (Mx × Int32) :=
  if (mf s 5) = x0 then
    bO (f_12022 x0 x1 s) fun s3 r3 =>
    some (s3, r3)
  else
    bT (f_12020 3 s) fun s2 r2 =>
    some (s2, r2)
def f_12054  (s : Mx) : Option (Mx × Int32) :=
  if 0 ≤ (mf s 5) then
    if (mf s 32) = 0 then
      bO (f_12042 s) fun s5 r5 =>
      some (s5, r5)
    else if (mf s 32) = 1 then
      bO (f_12039 s) fun s6 r6 =>
      some (s6, r6)
    else if (mf s 32) = 2 then
      bO (f_12043 s) fun s7 r7 =>
      some (s7, r7)
    else if (mf s 32) = 3 then
      bO (f_12043 s) fun s8 r8 =>
      some (s8, r8)
    else if (mf s 32) = 4 then
      bO (f_12045 s) fun s9 r9 =>
      some (s9, r9)
    else if (mf s 32) = 5 then
      bO (f_12053 25 2 s) fun s10 r10 =>
      some (s10, r10)
    else if (mf s 32) = 6 then
      bOv (f_12024 49 0 s) fun s11 =>
      bO (f_12053 25 2 s11) fun s12 r12 =>
      some (s12, r12)
    else if (mf s 32) = 7 then
      bO (f_12052 s) fun s13 r13 =>
      some (s13, r13)
    else if (mf s 32) = 8 then
      bO (f_12049 s) fun s14 r14 =>
      some (s14, r14)
    else if (mf s 32) = 9 then
      if (mf s 5) = 26 then
        bT (f_12026 s) fun s17 r17 =>
        if r17 = 0 then
          some (s17, 0)
        else
          bO (f_12022 26 10 s17) fun s19 r19 =>
          if r19 = 0 then
            some (s19, 0)
          else
            some (s19, 1)
      else
        bT (f_12020 3 s) fun s16 r16 =>
        some (s16, r16)
    else if (mf s 32) = 10 then
      bO (f_12050 s) fun s21 r21 =>
      some (s21, r21)
    else if (mf s 32) = 11 then
      bO (f_12050 s) fun s22 r22 =>
      some (s22, r22)
    else if (mf s 32) = 12 then
      bO (f_12051 s) fun s23 r23 =>
      some (s23, r23)
    else if (mf s 32) = 13 then
      bT (f_12026 s) fun s24 r24 =>
      if r24 = 0 then
        some (s24, 0)
      else
        bO (f_12022 26 3 s24) fun s26 r26 =>
        if r26 = 0 then
          some (s26, 0)
        else
          some (s26, 1)
    else
      gd (vi (mf s 43) 100) <|
      bS (ms s 8 (mf s 43) (mf s 14)) fun s3 =>
      bO (f_12053 31 0 s3) fun s4 r4 =>
      some (s4, r4)
  else
    bT (f_12020 (-(mf s 5)) s) fun s28 r28 =>
    some (s28, r28)
def f_12055_J179  (k99 : Int32 → Int32 → Mx → Option Mx) (l1 : Int32) (l2 : Int32) (l3 : Int32) (s : Mx) : Option Mx :=
  gd (vi l2 110) <|
  gd (vi (mg s 19 l2) 1200) <|
  bS (ms s 5 (mg s 19 l2) l3) fun s1 =>
  k99 l1 (l2 + 1) s1
def f_12055_J174  (k99 : Int32 → Int32 → Mx → Option Mx) (l1 : Int32) (l2 : Int32) (l3 : Int32) (k0 : Int32) (s : Mx) : Option Mx :=
  bT (f_12020 k0 s) fun s2 r2 =>
  f_12055_J179 k99 l1 l2 l3 s2
def f_12055_J151  (k99 : Int32 → Int32 → Mx → Option Mx) (l1 : Int32) (l2 : Int32) (l3 : Int32) (s : Mx) : Option Mx :=
  gd (vi l2 110) <|
  bS (mp s 6 (mg s 16 l2)) fun s3 =>
  if l3 = (-1) then
    f_12055_J174 k99 l1 l2 l3 7 s3
  else
    f_12055_J174 k99 l1 l2 l3 8 s3
def f_12055_L99  : Nat → Int32 → Int32 → Mx → Option Mx
  | 0, _, _, _ => none
  | n + 1, l1, l2, s =>
    if (mf s 27) ≤ l2 then
      some s
    else
      if (mf s 9) = 0 then
        gd (vi l2 110) <|
        gd (vi l2 110) <|
        bP (f_12030 (mg s 16 l2) (mg s 17 l2) s) fun r7 =>
        if r7 = (-1) then
          f_12055_J151 (f_12055_L99 n) l1 l2 r7 s
        else
          gd (vi r7 40) <|
          gd (vi l2 110) <|
          if (mg s 14 r7) = (mg s 18 l2) then
            f_12055_J179 (f_12055_L99 n) l1 l2 r7 s
          else
            f_12055_J151 (f_12055_L99 n) l1 l2 r7 s
      else
        some s
def f_12055_L81  : Nat → Int32 → Mx → Option Mx
  | 0, _, _ => none
  | n + 1, l1, s =>
    if l1 = 0 then
      f_12055_L99 1000 l1 0 s
    else
      bOv (f_12019 s) fun s11 =>
      bO (f_12054 s11) fun s12 r12 =>
      f_12055_L81 n r12 s12
def f_12055  (s : Mx) : Option Mx :=
  bS (mp s 7 0) fun s13 =>
  bS (mp s13 9 0) fun s14 =>
  bS (mp s14 10 (-1)) fun s15 =>
  bS (mp s15 11 0) fun s16 =>
  bS (mp s16 14 0) fun s17 =>
  bS (mp s17 16 0) fun s18 =>
  gd (vi 0 2) <|
  bS (ms s18 9 0 0) fun s19 =>
  gd (vi 1 2) <|
  bS (ms s19 9 1 0) fun s20 =>
  bS (mp s20 22 0) fun s21 =>
  bS (mp s21 27 0) fun s22 =>
  bS (mp s22 32 0) fun s23 =>
  bS (mp s23 33 0) fun s24 =>
  bS (mp s24 34 0) fun s25 =>
  bS (mp s25 35 0) fun s26 =>
  bS (mp s26 38 0) fun s27 =>
  f_12055_L81 1000 1 s27
def f_12056_J36  (k0 : Int32) (k1 : Int32) (s : Mx) : Mx × Int32 :=
  bS (mp s 49 (k1 - k0)) fun s1 =>
  if (mf s1 50) = 0 then
    (s1, 1)
  else
    (s1, 0)
def f_12056_J16  (k0 : Int32) (s : Mx) : Mx × Int32 :=
  bS (mp s 50 k0) fun s3 =>
  if (mf s3 49) = 0 then
    f_12056_J36 0 (mf s3 49) s3
  else
    f_12056_J36 1 (mf s3 49) s3
def f_12056  (s : Mx) : Mx × Int32 :=
  if (mf s 49) = 0 then
    f_12056_J16 1 s
  else
    f_12056_J16 (mf s 50) s
def f_12057 (x0 : Int32) (s : Mx) : Option Mx :=
  gd (vi (mf s 53) 1300) <|
  bS (ms s 30 (mf s 53) x0) fun s1 =>
  bS (mp s1 53 ((mf s1 53) + 1)) fun s2 =>
  some s2
def f_12058  (s : Mx) : Option (Mx × Int32) :=
  bS (mp s 53 ((mf s 53) - 1)) fun s1 =>
  gd (vi (mf s1 53) 1300) <|
  some (s1, (mg s1 30 (mf s1 53)))
def f_12059_J16  (l1 : Int64) (s : Mx) : Option Mx :=
  bS (mp s 50 2) fun s1 =>
  some s1
def f_12059 (x0 : Int64) (s : Mx) : Option Mx :=
  if 0 < (lg_cmp x0 2147483647) then
    f_12059_J16 x0 s
  else
    if 0 ≤ (lg_cmp x0 (-2147483648)) then
      bOv (f_12057 x0.toInt32 s) fun s4 =>
      some s4
    else
      f_12059_J16 x0 s
def f_12060 (x0 : Int32) (s : Mx) : Int32 :=
  (f_12002 x0.toInt64 0 31 s)
def f_12061 (x0 : Int32) (s : Mx) : Option Mx :=
  bO (f_12058 s) fun s1 r1 =>
  if x0 = 12 then
    bOv (f_12059 (-r1.toInt64) s1) fun s11 =>
    some s11
  else
    if x0 = 24 then
      if r1 = 0 then
        bOv (f_12057 1 s1) fun s10 =>
        some s10
      else
        bOv (f_12057 0 s1) fun s9 =>
        some s9
    else
      if (f_12060 r1 s1) = 0 then
        bS (mp s1 50 4) fun s6 =>
        some s6
      else
        gd (vi r1 32) <|
        bOv (f_12057 (mg s1 34 r1) s1) fun s7 =>
        some s7
def f_12063 (x0 : Int32) (x1 : Int64) (x2 : Int64) (s : Mx) : Option Mx :=
  if (lg_cmp x2 0) = 0 then
    bS (mp s 50 3) fun s5 =>
    some s5
  else
    if x0 = 14 then
      gd (¬ (x2 : Int64) = 0) <|
      bOv (f_12059 (x1 / x2) s) fun s4 =>
      some s4
    else
      gd (¬ (x2 : Int64) = 0) <|
      bOv (f_12059 (x1 - x1 / x2 * x2) s) fun s3 =>
      some s3
def f_12062_J219  (l1 : Int32) (l2 : Int64) (l4 : Int64) (s : Mx) : Option Mx :=
  bOv (f_12063 l1 l4 l2 s) fun s1 =>
  some s1
def f_12062 (x0 : Int32) (s : Mx) : Option Mx :=
  bO (f_12058 s) fun s2 r2 =>
  bO (f_12058 s2) fun s3 r3 =>
  if x0 = 11 then
    bOv (f_12059 (r3.toInt64 + r2.toInt64) s3) fun s5 =>
    some s5
  else if x0 = 12 then
    bOv (f_12059 (r3.toInt64 - r2.toInt64) s3) fun s6 =>
    some s6
  else if x0 = 13 then
    bOv (f_12059 (r3.toInt64 * r2.toInt64) s3) fun s7 =>
    some s7
  else if x0 = 14 then
    f_12062_J219 x0 r2.toInt64 r3.toInt64 s3
  else if x0 = 15 then
    f_12062_J219 x0 r2.toInt64 r3.toInt64 s3
  else if x0 = 16 then
    if 0 ≤ (lg_cmp r3.toInt64 r2.toInt64) then
      bOv (f_12057 0 s3) fun s9 =>
      some s9
    else
      bOv (f_12057 1 s3) fun s10 =>
      some s10
  else if x0 = 17 then
    if 0 < (lg_cmp r3.toInt64 r2.toInt64) then
      bOv (f_12057 0 s3) fun s12 =>
      some s12
    else
      bOv (f_12057 1 s3) fun s13 =>
      some s13
  else if x0 = 18 then
    if (lg_cmp r3.toInt64 r2.toInt64) ≤ 0 then
      bOv (f_12057 0 s3) fun s15 =>
      some s15
    else
      bOv (f_12057 1 s3) fun s16 =>
      some s16
  else if x0 = 19 then
    if (lg_cmp r3.toInt64 r2.toInt64) < 0 then
      bOv (f_12057 0 s3) fun s18 =>
      some s18
    else
      bOv (f_12057 1 s3) fun s19 =>
      some s19
  else if x0 = 20 then
    if (lg_cmp r3.toInt64 r2.toInt64) = 0 then
      bOv (f_12057 1 s3) fun s22 =>
      some s22
    else
      bOv (f_12057 0 s3) fun s21 =>
      some s21
  else if x0 = 21 then
    if (lg_cmp r3.toInt64 r2.toInt64) = 0 then
      bOv (f_12057 0 s3) fun s24 =>
      some s24
    else
      bOv (f_12057 1 s3) fun s25 =>
      some s25
  else
    f_12062_J219 x0 r2.toInt64 r3.toInt64 s3
def f_12064  (s : Mx) : Option Mx :=
  bO (f_12058 s) fun s1 r1 =>
  bO (f_12058 s1) fun s2 r2 =>
  if (f_12060 r2 s2) = 0 then
    bS (mp s2 50 4) fun s5 =>
    some s5
  else
    gd (vi r2 32) <|
    bS (ms s2 34 r2 r1) fun s6 =>
    some s6
def f_12065  (s : Mx) : Option Mx :=
  bO (f_12058 s) fun s1 r1 =>
  if (mf s1 57) = 8 then
    bS (mp s1 50 6) fun s5 =>
    some s5
  else
    gd (vi (mf s1 57) 9) <|
    bS (ms s1 33 (mf s1 57) r1) fun s3 =>
    bS (mp s3 57 ((mf s3 57) + 1)) fun s4 =>
    some s4
def f_12066_L75  : Nat → Int32 → Int32 → Int32 → Mx → Option (Mx × Int32)
  | 0, _, _, _, _ => none
  | n + 1, l1, l2, l3, s =>
    if l3 < 0 then
      gd (vi l1 40) <|
      some (s, (mg s 15 l1))
    else
      bO (f_12058 s) fun s2 r2 =>
      gd (vi ((8 * (mf s 52)) + l3) 88) <|
      bS (ms s2 31 ((8 * (mf s 52)) + l3) r2) fun s3 =>
      f_12066_L75 n l1 l2 (l3 + (-1)) s3
def f_12066_L39  : Nat → Int32 → Int32 → Int32 → Mx → Option (Mx × Int32)
  | 0, _, _, _, _ => none
  | n + 1, l1, l2, l3, s =>
    if 8 ≤ l3 then
      gd (vi l1 40) <|
      f_12066_L75 1000 l1 l2 ((mg s 14 l1) - 1) s
    else
      gd (vi ((8 * (mf s 52)) + l3) 88) <|
      bS (ms s 31 ((8 * (mf s 52)) + l3) 0) fun s5 =>
      f_12066_L39 n l1 l2 (l3 + 1) s5
def f_12066 (x0 : Int32) (x1 : Int32) (s : Mx) : Option (Mx × Int32) :=
  if (mf s 52) = 10 then
    bS (mp s 50 7) fun s9 =>
    some (s9, x1)
  else
    bS (mp s 52 ((mf s 52) + 1)) fun s7 =>
    gd (vi (mf s7 52) 12) <|
    bS (ms s7 32 (mf s7 52) x1) fun s8 =>
    f_12066_L39 1000 x0 x1 0 s8
def f_12067_J216  (l1 : Int32) (l2 : Int32) (s : Mx) : Option (Mx × Int32) :=
  bS (mp s 53 ((mf s 53) - 1)) fun s1 =>
  some (s1, (l1 + 1))
def f_12067_J154  (l1 : Int32) (l2 : Int32) (k0 : Int32) (s : Mx) : Option (Mx × Int32) :=
  bOv (f_12057 k0 s) fun s2 =>
  some (s2, (l1 + 1))
def f_12067 (x0 : Int32) (s : Mx) : Option (Mx × Int32) :=
  gd (vi x0 1200) <|
  gd (vi x0 1200) <|
  if (mg s 4 x0) = 1 then
    bOv (f_12057 (mg s 5 x0) s) fun s4 =>
    some (s4, (x0 + 1))
  else if (mg s 4 x0) = 2 then
    gd (vi ((8 * (mf s 52)) + (mg s 5 x0)) 88) <|
    bOv (f_12057 (mg s 31 ((8 * (mf s 52)) + (mg s 5 x0))) s) fun s5 =>
    some (s5, (x0 + 1))
  else if (mg s 4 x0) = 3 then
    bO (f_12058 s) fun s6 r6 =>
    gd (vi ((8 * (mf s 52)) + (mg s 5 x0)) 88) <|
    bS (ms s6 31 ((8 * (mf s 52)) + (mg s 5 x0)) r6) fun s7 =>
    some (s7, (x0 + 1))
  else if (mg s 4 x0) = 4 then
    f_12067_J216 x0 (mg s 5 x0) s
  else if (mg s 4 x0) = 5 then
    f_12067_J216 x0 (mg s 5 x0) s
  else if (mg s 4 x0) = 6 then
    f_12067_J216 x0 (mg s 5 x0) s
  else if (mg s 4 x0) = 7 then
    f_12067_J216 x0 (mg s 5 x0) s
  else if (mg s 4 x0) = 8 then
    bO (f_12058 s) fun s8 r8 =>
    if r8 = 0 then
      f_12067_J154 x0 (mg s 5 x0) 0 s8
    else
      f_12067_J154 x0 (mg s 5 x0) 1 s8
  else if (mg s 4 x0) = 9 then
    f_12067_J216 x0 (mg s 5 x0) s
  else if (mg s 4 x0) = 10 then
    f_12067_J216 x0 (mg s 5 x0) s
  else if (mg s 4 x0) = 11 then
    bOv (f_12065 s) fun s10 =>
    some (s10, (x0 + 1))
  else if (mg s 4 x0) = 12 then
    bOv (f_12064 s) fun s11 =>
    some (s11, (x0 + 1))
  else if (mg s 4 x0) = 13 then
    bO (f_12058 s) fun s12 r12 =>
    if r12 = 0 then
      some (s12, (mg s 5 x0))
    else
      some (s12, (x0 + 1))
  else if (mg s 4 x0) = 14 then
    some (s, (mg s 5 x0))
  else if (mg s 4 x0) = 15 then
    bS (mp s 52 ((mf s 52) - 1)) fun s14 =>
    gd (vi ((mf s14 52) + 1) 12) <|
    some (s14, (mg s14 32 ((mf s14 52) + 1)))
  else
    f_12067_J216 x0 (mg s 5 x0) s
def f_12068_J184  (l1 : Int32) (l2 : Int32) (l3 : Int32) (l4 : Int32) (k0 : Int32) (s : Mx) : Option (Mx × Int32) :=
  bOv (f_12057 k0 s) fun s1 =>
  bS (mp s1 51 ((mf s1 51) + 1)) fun s2 =>
  some (s2, (l1 + 1))
def f_12068_J168  (l1 : Int32) (l2 : Int32) (l3 : Int32) (l4 : Int32) (k0 : Int32) (s : Mx) : Option (Mx × Int32) :=
  bS (mp s 50 k0) fun s3 =>
  if (mf s3 51) = 0 then
    f_12068_J184 l1 l2 l3 l4 l2 s3
  else
    f_12068_J184 l1 l2 l3 l4 l3 s3
def f_12068_J137  (l1 : Int32) (l2 : Int32) (l3 : Int32) (l4 : Int32) (l5 : Int32) (l6 : Int32) (s : Mx) : Option (Mx × Int32) :=
  if l6 = 0 then
    some (s, (l1 + 1))
  else
    some (s, l4)
def f_12068_J134  (l1 : Int32) (l2 : Int32) (l3 : Int32) (l4 : Int32) (l5 : Int32) (l6 : Int32) (k0 : Int32) (s : Mx) : Option (Mx × Int32) :=
  bOv (f_12057 k0 s) fun s6 =>
  f_12068_J137 l1 l2 l3 l4 l5 l6 s6
def f_12068_J116  (l1 : Int32) (l2 : Int32) (l3 : Int32) (l4 : Int32) (l5 : Int32) (k0 : Int32) (s : Mx) : Option (Mx × Int32) :=
  if k0 = 0 then
    f_12068_J137 l1 l2 l3 l4 l5 k0 s
  else
    if l5 = 0 then
      f_12068_J134 l1 l2 l3 l4 l5 k0 0 s
    else
      f_12068_J134 l1 l2 l3 l4 l5 k0 1 s
def f_12068_J108  (l1 : Int32) (l2 : Int32) (l3 : Int32) (l4 : Int32) (l5 : Int32) (k0 : Int32) (k1 : Int32) (s : Mx) : Option (Mx × Int32) :=
  if k1 = k0 then
    f_12068_J116 l1 l2 l3 l4 l5 1 s
  else
    f_12068_J116 l1 l2 l3 l4 l5 0 s
def f_12068_J88  (l1 : Int32) (l2 : Int32) (l3 : Int32) (l4 : Int32) (k0 : Int32) (s : Mx) : Option (Mx × Int32) :=
  gd (vi l1 1200) <|
  if (mg s 4 l1) = 7 then
    f_12068_J108 l1 l2 l3 l4 k0 1 k0 s
  else
    f_12068_J108 l1 l2 l3 l4 k0 0 k0 s
def f_12068_J76  (l1 : Int32) (l2 : Int32) (l3 : Int32) (l4 : Int32) (s : Mx) : Option (Mx × Int32) :=
  bO (f_12058 s) fun s11 r11 =>
  if r11 = 0 then
    f_12068_J88 l1 l2 l3 l4 0 s11
  else
    f_12068_J88 l1 l2 l3 l4 1 s11
def f_12068 (x0 : Int32) (x1 : Int32) (x2 : Int32) (s : Mx) : Option (Mx × Int32) :=
  gd (vi x0 1200) <|
  gd (vi x0 1200) <|
  if (mg s 4 x0) = 4 then
    bOv (f_12061 (mg s 5 x0) s) fun s14 =>
    some (s14, (x0 + 1))
  else if (mg s 4 x0) = 5 then
    bOv (f_12062 (mg s 5 x0) s) fun s15 =>
    some (s15, (x0 + 1))
  else if (mg s 4 x0) = 6 then
    f_12068_J76 x0 x1 x2 (mg s 5 x0) s
  else if (mg s 4 x0) = 7 then
    f_12068_J76 x0 x1 x2 (mg s 5 x0) s
  else if (mg s 4 x0) = 8 then
    some (s, (x0 + 1))
  else if (mg s 4 x0) = 9 then
    if (mf s 51) = 2 then
      f_12068_J168 x0 x1 x2 (mg s 5 x0) 5 s
    else
      f_12068_J168 x0 x1 x2 (mg s 5 x0) (mf s 50) s
  else if (mg s 4 x0) = 10 then
    bO (f_12066 (mg s 5 x0) (x0 + 1) s) fun s17 r17 =>
    some (s17, r17)
  else
    some (s, (x0 + 1))
def f_12069 (x0 : Int32) (s : Mx) : Int32 :=
  if x0 = 0 then
    1
  else
    if x0 = 4 then
      1
    else
      if x0 = 5 then
        1
      else
        if x0 = 6 then
          1
        else
          if x0 = 7 then
            1
          else
            if x0 = 9 then
              1
            else
              if x0 = 10 then
                1
              else
                0
def f_12070_L81  : Nat → Int32 → Int32 → Int32 → Int32 → Mx → Option Mx
  | 0, _, _, _, _, _ => none
  | n + 1, l1, l2, l3, l4, s =>
    if (mf s 50) = 0 then
      gd (vi l4 1200) <|
      if (mg s 4 l4) = 17 then
        some s
      else
        gd (vi l4 1200) <|
        if (f_12069 (mg s 4 l4) s) = 0 then
          bO (f_12067 l4 s) fun s8 r8 =>
          f_12070_L81 n l1 l2 l3 r8 s8
        else
          bT (f_12056 s) fun s5 r5 =>
          if r5 = 0 then
            f_12070_L81 n l1 l2 l3 l4 s5
          else
            bO (f_12068 l4 l2 l3 s5) fun s7 r7 =>
            f_12070_L81 n l1 l2 l3 r7 s7
    else
      some s
def f_12070_L57  : Nat → Int32 → Int32 → Int32 → Int32 → Mx → Option Mx
  | 0, _, _, _, _, _ => none
  | n + 1, l1, l2, l3, l4, s =>
    if 8 ≤ l4 then
      f_12070_L81 1000000000 l1 l2 l3 0 s
    else
      gd (vi l4 88) <|
      bS (ms s 31 l4 0) fun s10 =>
      f_12070_L57 n l1 l2 l3 (l4 + 1) s10
def f_12070_L33  : Nat → Int32 → Int32 → Int32 → Int32 → Mx → Option Mx
  | 0, _, _, _, _, _ => none
  | n + 1, l1, l2, l3, l4, s =>
    if 32 ≤ l4 then
      f_12070_L57 1000000000 l1 l2 l3 0 s
    else
      gd (vi l4 32) <|
      bS (ms s 34 l4 0) fun s12 =>
      f_12070_L33 n l1 l2 l3 (l4 + 1) s12
def f_12070 (x0 : Int32) (x1 : Int32) (x2 : Int32) (s : Mx) : Option Mx :=
  bS (mp s 49 x0) fun s13 =>
  bS (mp s13 50 0) fun s14 =>
  bS (mp s14 51 0) fun s15 =>
  bS (mp s15 52 0) fun s16 =>
  bS (mp s16 53 0) fun s17 =>
  bS (mp s17 57 0) fun s18 =>
  f_12070_L33 1000000000 x0 x1 x2 0 s18
def f_12071_L10  : Nat → Int32 → Mx → Option Mx
  | 0, _, _ => none
  | n + 1, l1, s =>
    if (mf s 0) ≤ l1 then
      bOv (f_12055 s) fun s2 =>
      some s2
    else
      gd (vi l1 300) <|
      gd (vi l1 300) <|
      bS (ms s 3 l1 (vp_nar .char (mg s 1 l1))) fun s3 =>
      f_12071_L10 n (l1 + 1) s3
def f_12071  (s : Mx) : Option Mx :=
  bS (mp s 4 (mf s 0)) fun s4 =>
  f_12071_L10 1000 0 s4
def f_12072_L12  : Nat → Int32 → Int32 → Mx → Option Mx
  | 0, _, _, _ => none
  | n + 1, l1, l2, s =>
    if (mf s 4) ≤ l2 then
      bOv (f_12055 s) fun s2 =>
      some s2
    else
      gd (vi ((300 * l1) + l2) 9000) <|
      gd (vi l2 300) <|
      bS (ms s 3 l2 (vp_nar .char (mg s 2 ((300 * l1) + l2)))) fun s3 =>
      f_12072_L12 n l1 (l2 + 1) s3
def f_12072 (x0 : Int32) (s : Mx) : Option Mx :=
  gd (vi x0 30) <|
  bS (mp s 4 (mg s 45 x0)) fun s4 =>
  f_12072_L12 1000 x0 0 s4
def f_12073  (s : Mx) : Option (Mx × Int32) :=
  bOv (f_12071 s) fun s1 =>
  bT (f_12004 (mf s1 9) s1) fun s2 r2 =>
  some (s2, r2)
def f_12074  (s : Mx) : Option (Mx × Int32) :=
  bOv (f_12071 s) fun s1 =>
  bT (f_12004 (mf s1 10) s1) fun s2 r2 =>
  some (s2, r2)
def f_12075_J17  (k0 : Int32) (s : Mx) : Option (Mx × Int32) :=
  bT (f_12003 k0 1 1 s) fun s1 r1 =>
  if r1 = 0 then
    some (s1, 0)
  else
    some (s1, (mf s1 16))
def f_12075  (s : Mx) : Option (Mx × Int32) :=
  bOv (f_12071 s) fun s3 =>
  if (mf s3 9) = 0 then
    f_12075_J17 1 s3
  else
    f_12075_J17 0 s3
def f_12076_L91  : Nat → Int32 → Int32 → Int32 → Int32 → Mx → Option (Mx × Int32)
  | 0, _, _, _, _, _ => none
  | n + 1, l1, l2, l3, l4, s =>
    if 32 ≤ l4 then
      some (s, (mf s 50))
    else
      gd (vi l4 32) <|
      gd (vi l4 32) <|
      bS (ms s 36 l4 (mg s 34 l4)) fun s2 =>
      f_12076_L91 n l1 l2 l3 (l4 + 1) s2
def f_12076_L61  : Nat → Int32 → Int32 → Int32 → Int32 → Mx → Option (Mx × Int32)
  | 0, _, _, _, _, _ => none
  | n + 1, l1, l2, l3, l4, s =>
    if 8 ≤ l4 then
      f_12076_L91 1000 l1 l2 l3 0 s
    else
      gd (vi l4 9) <|
      gd (vi l4 9) <|
      bS (ms s 35 l4 (mg s 33 l4)) fun s4 =>
      f_12076_L61 n l1 l2 l3 (l4 + 1) s4
def f_12076_J26  (l1 : Int32) (l2 : Int32) (l3 : Int32) (k0 : Int32) (k1 : Int32) (s : Mx) : Option (Mx × Int32) :=
  bT (f_12003 k1 k0 1 s) fun s5 r5 =>
  if r5 = 0 then
    some (s5, 0)
  else
    bOv (f_12070 l1 l2 l3 s5) fun s7 =>
    bS (mp s7 60 (mf s7 57)) fun s8 =>
    bS (mp s8 63 (mf s8 49)) fun s9 =>
    f_12076_L61 1000 l1 l2 l3 0 s9
def f_12076 (x0 : Int32) (x1 : Int32) (x2 : Int32) (s : Mx) : Option (Mx × Int32) :=
  bOv (f_12071 s) fun s10 =>
  if (mf s10 9) = 0 then
    f_12076_J26 x0 x1 x2 1 (f_12002 x0.toInt64 0 5000 s10) s10
  else
    f_12076_J26 x0 x1 x2 0 (f_12002 x0.toInt64 0 5000 s10) s10
def f_12077 (x0 : Int32) (x1 : Int32) (x2 : Int32) (s : Mx) : Option (Mx × Int32) :=
  bO (f_12076 x0 x1 x2 s) fun s1 r1 =>
  some (s1, r1)
def f_12078  (s : Mx) : Mx × Int32 :=
  bT (f_12004 (mf s 60) s) fun s1 r1 =>
  (s1, r1)
def f_12079 (x0 : Int32) (s : Mx) : Option (Mx × Int32) :=
  bT (f_12003 (f_12002 x0.toInt64 0 (((mf s 60) - 1).toInt64) s) 1 1 s) fun s2 r2 =>
  if r2 = 0 then
    some (s2, 0)
  else
    gd (vi x0 9) <|
    some (s2, (mg s2 35 x0))
def f_12080  (s : Mx) : Mx × Int32 :=
  bT (f_12004 (mf s 63) s) fun s1 r1 =>
  (s1, r1)
def f_12081 (x0 : Int32) (s : Mx) : Option (Mx × Int32) :=
  bT (f_12003 (f_12060 x0 s) 1 1 s) fun s2 r2 =>
  if r2 = 0 then
    some (s2, 0)
  else
    gd (vi x0 32) <|
    some (s2, (mg s2 36 x0))
def f_12082 (x0 : Int32) (s : Mx) : Int32 :=
  (f_12002 x0.toInt64 0 (((mf s 65) - 1).toInt64) s)
def f_12083 (x0 : Int32) (x1 : Int32) (s : Mx) : Option Int32 :=
  if (f_12082 x0 s) = 0 then
    some 0
  else
    gd (vi x0 4) <|
    if (f_12002 x1.toInt64 0 (((mg s 39 x0) - 1).toInt64) s) = 0 then
      some 0
    else
      some 1
def f_12084_J47  (l1 : Int32) (l2 : Int32) (k0 : Int32) (k1 : Int32) (s : Mx) : Option (Mx × Int32) :=
  bT (f_12003 k1 k0 1 s) fun s1 r1 =>
  if r1 = 0 then
    some (s1, 0)
  else
    gd (vi (mf s1 65) 4) <|
    bS (ms s1 37 (mf s1 65) l1) fun s3 =>
    gd (vi (mf s3 65) 4) <|
    bS (ms s3 38 (mf s3 65) l2) fun s4 =>
    gd (vi (mf s4 65) 4) <|
    bS (ms s4 39 (mf s4 65) 0) fun s5 =>
    bS (mp s5 65 ((mf s5 65) + 1)) fun s6 =>
    some (s6, ((mf s6 65) - 1))
def f_12084_J34  (l1 : Int32) (l2 : Int32) (k0 : Int32) (s : Mx) : Option (Mx × Int32) :=
  if 4 ≤ (mf s 65) then
    f_12084_J47 l1 l2 0 k0 s
  else
    f_12084_J47 l1 l2 1 k0 s
def f_12084_J33  (l1 : Int32) (l2 : Int32) (s : Mx) : Option (Mx × Int32) :=
  f_12084_J34 l1 l2 0 s
def f_12084 (x0 : Int32) (x1 : Int32) (s : Mx) : Option (Mx × Int32) :=
  if (f_12002 x0.toInt64 1 2000 s) = 0 then
    f_12084_J33 x0 x1 s
  else
    if (f_12002 x1.toInt64 ((mf s 64).toInt64) 1000 s) = 0 then
      f_12084_J33 x0 x1 s
    else
      f_12084_J34 x0 x1 1 s
def f_12085_J125  (l1 : Int32) (l2 : Int32) (l3 : Int32) (l4 : Int32) (l5 : Int32) (s : Mx) : Option Mx :=
  gd (vi ((8 * l1) + l2) 240) <|
  bS (ms s 50 ((8 * l1) + l2) (mf s 50)) fun s1 =>
  gd (vi ((8 * l1) + l2) 240) <|
  bS (ms s1 51 ((8 * l1) + l2) (vp_nar .boolean l4)) fun s2 =>
  some s2
def f_12085_L75  : Nat → Int32 → Int32 → Int32 → Int32 → Int32 → Mx → Option Mx
  | 0, _, _, _, _, _, _ => none
  | n + 1, l1, l2, l3, l4, l5, s =>
    gd (vi l3 32) <|
    if (mg s 42 l3) ≤ l5 then
      f_12085_J125 l1 l2 l3 l4 l5 s
    else
      if l4 = 0 then
        f_12085_J125 l1 l2 l3 l4 l5 s
      else
        gd (vi l5 9) <|
        gd (vi ((2 * l3) + l5) 64) <|
        if (mg s 33 l5) = (mg s 43 ((2 * l3) + l5)) then
          f_12085_L75 n l1 l2 l3 1 (l5 + 1) s
        else
          f_12085_L75 n l1 l2 l3 0 (l5 + 1) s
def f_12085 (x0 : Int32) (x1 : Int32) (s : Mx) : Option Mx :=
  gd (vi x0 30) <|
  gd (vi x0 30) <|
  gd (vi (mg s 47 x0) 4) <|
  gd (vi (2 * ((8 * (mg s 47 x0)) + x1)) 64) <|
  gd (vi ((2 * ((8 * (mg s 47 x0)) + x1)) + 1) 64) <|
  bOv (f_12070 (mg s 37 (mg s 47 x0)) (mg s 41 (2 * ((8 * (mg s 47 x0)) + x1))) (mg s 41 ((2 * ((8 * (mg s 47 x0)) + x1)) + 1)) s) fun s6 =>
  if (mf s6 50) = 0 then
    gd (vi ((8 * (mg s 47 x0)) + x1) 32) <|
    if (mf s6 57) = (mg s6 42 ((8 * (mg s 47 x0)) + x1)) then
      f_12085_L75 1000 x0 x1 ((8 * (mg s 47 x0)) + x1) 1 0 s6
    else
      f_12085_L75 1000 x0 x1 ((8 * (mg s 47 x0)) + x1) 0 0 s6
  else
    f_12085_L75 1000 x0 x1 ((8 * (mg s 47 x0)) + x1) 0 0 s6
def f_12086_L171  : Nat → Int32 → Int32 → Int32 → Int32 → Int32 → Int32 → Int32 → Int32 → Int32 → Int32 → Int32 → Mx → Option (Mx × Int32)
  | 0, _, _, _, _, _, _, _, _, _, _, _, _ => none
  | n + 1, l1, l2, l3, l4, l5, l6, l7, l8, l9, l10, l11, s =>
    if (mf s 74) ≤ l11 then
      some (s, l9)
    else
      gd (vi l11 30) <|
      if (mg s 47 l11) = l1 then
        bOv (f_12072 l11 s) fun s3 =>
        bOv (f_12085 l11 l9 s3) fun s4 =>
        f_12086_L171 n l1 l2 l3 l4 l5 l6 l7 l8 l9 l10 (l11 + 1) s4
      else
        f_12086_L171 n l1 l2 l3 l4 l5 l6 l7 l8 l9 l10 (l11 + 1) s
def f_12086_J61  (l1 : Int32) (l2 : Int32) (l3 : Int32) (l4 : Int32) (l5 : Int32) (l6 : Int32) (l7 : Int32) (l8 : Int32) (k0 : Int32) (k1 : Int32) (k2 : Int32) (s : Mx) : Option (Mx × Int32) :=
  bT (f_12003 k2 k1 k0 s) fun s5 r5 =>
  if r5 = 0 then
    some (s5, 0)
  else
    gd (vi l1 4) <|
    gd (vi ((8 * l1) + (mg s5 39 l1)) 32) <|
    bS (ms s5 40 ((8 * l1) + (mg s5 39 l1)) l2) fun s7 =>
    gd (vi (2 * ((8 * l1) + (mg s5 39 l1))) 64) <|
    bS (ms s7 41 (2 * ((8 * l1) + (mg s5 39 l1))) l3) fun s8 =>
    gd (vi ((2 * ((8 * l1) + (mg s5 39 l1))) + 1) 64) <|
    bS (ms s8 41 ((2 * ((8 * l1) + (mg s5 39 l1))) + 1) l4) fun s9 =>
    gd (vi ((8 * l1) + (mg s5 39 l1)) 32) <|
    bS (ms s9 42 ((8 * l1) + (mg s5 39 l1)) l5) fun s10 =>
    gd (vi (2 * ((8 * l1) + (mg s5 39 l1))) 64) <|
    bS (ms s10 43 (2 * ((8 * l1) + (mg s5 39 l1))) l6) fun s11 =>
    gd (vi ((2 * ((8 * l1) + (mg s5 39 l1))) + 1) 64) <|
    bS (ms s11 43 ((2 * ((8 * l1) + (mg s5 39 l1))) + 1) l7) fun s12 =>
    gd (vi ((8 * l1) + (mg s5 39 l1)) 32) <|
    bS (ms s12 44 ((8 * l1) + (mg s5 39 l1)) (vp_nar .boolean 0)) fun s13 =>
    gd (vi l1 4) <|
    gd (vi l1 4) <|
    bS (ms s13 39 l1 ((mg s13 39 l1) + 1)) fun s14 =>
    f_12086_L171 1000 l1 l2 l3 l4 l5 l6 l7 l8 (mg s5 39 l1) ((8 * l1) + (mg s5 39 l1)) 0 s14
def f_12086_J60  (l1 : Int32) (l2 : Int32) (l3 : Int32) (l4 : Int32) (l5 : Int32) (l6 : Int32) (l7 : Int32) (l8 : Int32) (k0 : Int32) (k1 : Int32) (s : Mx) : Option (Mx × Int32) :=
  f_12086_J61 l1 l2 l3 l4 l5 l6 l7 l8 0 k0 k1 s
def f_12086_J40  (l1 : Int32) (l2 : Int32) (l3 : Int32) (l4 : Int32) (l5 : Int32) (l6 : Int32) (l7 : Int32) (l8 : Int32) (k0 : Int32) (k1 : Int32) (s : Mx) : Option (Mx × Int32) :=
  if l8 = 0 then
    f_12086_J60 l1 l2 l3 l4 l5 l6 l7 l8 k0 k1 s
  else
    gd (vi l1 4) <|
    if 8 ≤ (mg s 39 l1) then
      f_12086_J60 l1 l2 l3 l4 l5 l6 l7 l8 k0 k1 s
    else
      f_12086_J61 l1 l2 l3 l4 l5 l6 l7 l8 1 k0 k1 s
def f_12086_J39  (l1 : Int32) (l2 : Int32) (l3 : Int32) (l4 : Int32) (l5 : Int32) (l6 : Int32) (l7 : Int32) (l8 : Int32) (k0 : Int32) (s : Mx) : Option (Mx × Int32) :=
  f_12086_J40 l1 l2 l3 l4 l5 l6 l7 l8 0 k0 s
def f_12086 (x0 : Int32) (x1 : Int32) (x2 : Int32) (x3 : Int32) (x4 : Int32) (x5 : Int32) (x6 : Int32) (s : Mx) : Option (Mx × Int32) :=
  if (f_12002 x1.toInt64 1 10 s) = 0 then
    f_12086_J39 x0 x1 x2 x3 x4 x5 x6 (f_12082 x0 s) (f_12082 x0 s) s
  else
    if (f_12002 x4.toInt64 0 2 s) = 0 then
      f_12086_J39 x0 x1 x2 x3 x4 x5 x6 (f_12082 x0 s) (f_12082 x0 s) s
    else
      f_12086_J40 x0 x1 x2 x3 x4 x5 x6 (f_12082 x0 s) 1 (f_12082 x0 s) s
def f_12097_J97  (k7 : Int32 → Int32 → Int32 → Int32 → Mx → Option Int32) (l1 : Int32) (l2 : Int32) (l3 : Int32) (l4 : Int32) (l5 : Int32) (k0 : Int32) (s : Mx) : Option Int32 :=
  k7 l1 l2 (k0 + 0) (l4 + 1) s
def f_12097_J59  (k7 : Int32 → Int32 → Int32 → Int32 → Mx → Option Int32) (l1 : Int32) (l2 : Int32) (l3 : Int32) (l4 : Int32) (l5 : Int32) (k0 : Int32) (k1 : Int32) (s : Mx) : Option Int32 :=
  gd (vi l5 32) <|
  if (mg s 44 l5) = 0 then
    gd (vi ((8 * l1) + l4) 240) <|
    if (mg s 51 ((8 * l1) + l4)) = 0 then
      f_12097_J97 k7 l1 (k1 + k0) l3 l4 l5 l3 s
    else
      gd (vi l5 32) <|
      k7 l1 (k1 + k0) (l3 + (mg s 40 l5)) (l4 + 1) s
  else
    f_12097_J97 k7 l1 (k1 + k0) l3 l4 l5 l3 s
def f_12097_L7  : Nat → Int32 → Int32 → Int32 → Int32 → Mx → Option Int32
  | 0, _, _, _, _, _ => none
  | n + 1, l1, l2, l3, l4, s =>
    gd (vi l1 30) <|
    gd (vi (mg s 47 l1) 4) <|
    if (mg s 39 (mg s 47 l1)) ≤ l4 then
      if l2 = 0 then
        some 0
      else
        gd (¬ (l2 : Int32) = 0) <|
        some ((100 * l3) / l2)
    else
      gd (vi l1 30) <|
      gd (vi ((8 * (mg s 47 l1)) + l4) 32) <|
      if (mg s 44 ((8 * (mg s 47 l1)) + l4)) = 0 then
        gd (vi ((8 * (mg s 47 l1)) + l4) 32) <|
        f_12097_J59 (f_12097_L7 n) l1 l2 l3 l4 ((8 * (mg s 47 l1)) + l4) (mg s 40 ((8 * (mg s 47 l1)) + l4)) l2 s
      else
        f_12097_J59 (f_12097_L7 n) l1 l2 l3 l4 ((8 * (mg s 47 l1)) + l4) 0 l2 s
def f_12097 (x0 : Int32) (s : Mx) : Option Int32 :=
  f_12097_L7 1000 x0 0 0 0 s
def f_12098_J41  (l1 : Int32) (l2 : Int32) (k0 : Int32) (s : Mx) : Option Int32 :=
  gd (vi l1 30) <|
  if (mg s 49 l1) = 0 then
    bP (f_12097 l1 s) fun r2 =>
    gd (¬ (100 : Int32) = 0) <|
    some ((r2 * (100 - k0)) / 100)
  else
    some 0
def f_12098 (x0 : Int32) (s : Mx) : Option Int32 :=
  gd (vi x0 30) <|
  gd (vi x0 30) <|
  gd (vi (mg s 47 x0) 4) <|
  if ((mg s 48 x0) - (mg s 38 (mg s 47 x0))) ≤ 5 then
    if ((mg s 48 x0) - (mg s 38 (mg s 47 x0))) ≤ 0 then
      f_12098_J41 x0 ((mg s 48 x0) - (mg s 38 (mg s 47 x0))) 0 s
    else
      f_12098_J41 x0 ((mg s 48 x0) - (mg s 38 (mg s 47 x0))) (10 * ((mg s 48 x0) - (mg s 38 (mg s 47 x0)))) s
  else
    f_12098_J41 x0 ((mg s 48 x0) - (mg s 38 (mg s 47 x0))) 50 s
def f_12087_J105  (k47 : Int32 → Int32 → Int32 → Int32 → Int32 → Mx → Option (Mx × Int32)) (l1 : Int32) (l2 : Int32) (l3 : Int32) (l4 : Int32) (l5 : Int32) (l6 : Int32) (k0 : Int32) (k1 : Int32) (s : Mx) : Option (Mx × Int32) :=
  gd (vi ((8 * l1) + l2) 32) <|
  bS (ms s 44 ((8 * l1) + l2) (vp_nar .boolean 0)) fun s1 =>
  k47 l1 l2 l3 (k1 + k0) (l5 + 1) s1
def f_12087_L47  : Nat → Int32 → Int32 → Int32 → Int32 → Int32 → Mx → Option (Mx × Int32)
  | 0, _, _, _, _, _, _ => none
  | n + 1, l1, l2, l3, l4, l5, s =>
    if (mf s 74) ≤ l5 then
      gd (vi ((8 * l1) + l2) 32) <|
      bS (ms s 44 ((8 * l1) + l2) (vp_nar .boolean 1)) fun s3 =>
      some (s3, l4)
    else
      gd (vi l5 30) <|
      if (mg s 47 l5) = l1 then
        bP (f_12098 l5 s) fun r5 =>
        gd (vi ((8 * l1) + l2) 32) <|
        bS (ms s 44 ((8 * l1) + l2) (vp_nar .boolean 1)) fun s6 =>
        bP (f_12098 l5 s6) fun r7 =>
        if r7 = r5 then
          f_12087_J105 (f_12087_L47 n) l1 l2 l3 l4 l5 r5 0 l4 s6
        else
          f_12087_J105 (f_12087_L47 n) l1 l2 l3 l4 l5 r5 1 l4 s6
      else
        f_12087_L47 n l1 l2 l3 l4 (l5 + 1) s
def f_12087_J32  (l1 : Int32) (l2 : Int32) (l3 : Int32) (k0 : Int32) (k1 : Int32) (s : Mx) : Option (Mx × Int32) :=
  bT (f_12003 k1 k0 1 s) fun s9 r9 =>
  if r9 = 0 then
    some (s9, 0)
  else
    f_12087_L47 1000 l1 l2 l3 0 0 s9
def f_12087_J31  (l1 : Int32) (l2 : Int32) (l3 : Int32) (k0 : Int32) (s : Mx) : Option (Mx × Int32) :=
  f_12087_J32 l1 l2 l3 0 k0 s
def f_12087 (x0 : Int32) (x1 : Int32) (s : Mx) : Option (Mx × Int32) :=
  bP (f_12083 x0 x1 s) fun r11 =>
  if r11 = 0 then
    f_12087_J31 x0 x1 r11 r11 s
  else
    gd (vi ((8 * x0) + x1) 32) <|
    if (mg s 44 ((8 * x0) + x1)) = 0 then
      f_12087_J32 x0 x1 r11 1 r11 s
    else
      f_12087_J31 x0 x1 r11 r11 s
def f_12088_J33  (l1 : Int32) (l2 : Int32) (k0 : Int32) (k1 : Int32) (s : Mx) : Mx × Int32 :=
  bT (f_12003 k1 k0 1 s) fun s1 r1 =>
  if r1 = 0 then
    (s1, 0)
  else
    bS (mp s1 64 ((mf s1 64) + l1)) fun s3 =>
    (s3, (mf s3 64))
def f_12088_J32  (l1 : Int32) (l2 : Int32) (k0 : Int32) (s : Mx) : Mx × Int32 :=
  f_12088_J33 l1 l2 0 k0 s
def f_12088 (x0 : Int32) (s : Mx) : Mx × Int32 :=
  if (f_12002 x0.toInt64 1 100 s) = 0 then
    f_12088_J32 x0 (f_12002 x0.toInt64 1 100 s) (f_12002 x0.toInt64 1 100 s) s
  else
    if 1000 < ((mf s 64) + x0) then
      f_12088_J32 x0 (f_12002 x0.toInt64 1 100 s) (f_12002 x0.toInt64 1 100 s) s
    else
      f_12088_J33 x0 (f_12002 x0.toInt64 1 100 s) 1 (f_12002 x0.toInt64 1 100 s) s
def f_12089  (s : Mx) : Mx × Int32 :=
  bT (f_12004 (mf s 64) s) fun s1 r1 =>
  (s1, r1)
def f_12090 (x0 : Int32) (s : Mx) : Int32 :=
  (f_12002 x0.toInt64 0 (((mf s 74) - 1).toInt64) s)
def f_12091 (x0 : Int32) (s : Mx) : Int32 :=
  (f_12002 x0.toInt64 0 5 s)
def f_12092_L150  : Nat → Int32 → Int32 → Int32 → Mx → Option (Mx × Int32)
  | 0, _, _, _, _ => none
  | n + 1, l1, l2, l3, s =>
    gd (vi l2 4) <|
    if (mg s 39 l2) ≤ l3 then
      bS (mp s 74 ((mf s 74) + 1)) fun s2 =>
      some (s2, ((mf s2 74) - 1))
    else
      bOv (f_12085 (mf s 74) l3 s) fun s3 =>
      f_12092_L150 n l1 l2 (l3 + 1) s3
def f_12092_L70  : Nat → Int32 → Int32 → Int32 → Mx → Option (Mx × Int32)
  | 0, _, _, _, _ => none
  | n + 1, l1, l2, l3, s =>
    if (mf s 0) ≤ l3 then
      gd (vi (mf s 74) 30) <|
      bS (ms s 46 (mf s 74) l1) fun s5 =>
      gd (vi (mf s5 74) 30) <|
      bS (ms s5 47 (mf s5 74) l2) fun s6 =>
      gd (vi (mf s6 74) 30) <|
      bS (ms s6 48 (mf s6 74) (mf s6 64)) fun s7 =>
      gd (vi (mf s7 74) 30) <|
      bS (ms s7 49 (mf s7 74) (vp_nar .boolean 0)) fun s8 =>
      f_12092_L150 1000 l1 l2 0 s8
    else
      gd (vi l3 300) <|
      gd (vi ((300 * (mf s 74)) + l3) 9000) <|
      bS (ms s 2 ((300 * (mf s 74)) + l3) (vp_nar .char (mg s 1 l3))) fun s9 =>
      f_12092_L70 n l1 l2 (l3 + 1) s9
def f_12092_J46  (l1 : Int32) (l2 : Int32) (k0 : Int32) (k1 : Int32) (s : Mx) : Option (Mx × Int32) :=
  bT (f_12003 k1 k0 1 s) fun s10 r10 =>
  if r10 = 0 then
    some (s10, 0)
  else
    gd (vi (mf s10 74) 30) <|
    bS (ms s10 45 (mf s10 74) (mf s10 0)) fun s12 =>
    f_12092_L70 1000 l1 l2 0 s12
def f_12092_J45  (l1 : Int32) (l2 : Int32) (k0 : Int32) (s : Mx) : Option (Mx × Int32) :=
  f_12092_J46 l1 l2 0 k0 s
def f_12092_J25  (l1 : Int32) (l2 : Int32) (k0 : Int32) (s : Mx) : Option (Mx × Int32) :=
  if (mf s 9) = 0 then
    if 30 ≤ (mf s 74) then
      f_12092_J45 l1 l2 k0 s
    else
      f_12092_J46 l1 l2 1 k0 s
  else
    f_12092_J45 l1 l2 k0 s
def f_12092_J24  (l1 : Int32) (l2 : Int32) (s : Mx) : Option (Mx × Int32) :=
  f_12092_J25 l1 l2 0 s
def f_12092 (x0 : Int32) (x1 : Int32) (s : Mx) : Option (Mx × Int32) :=
  bOv (f_12071 s) fun s15 =>
  if (f_12091 x0 s15) = 0 then
    f_12092_J24 x0 x1 s15
  else
    if (f_12082 x1 s15) = 0 then
      f_12092_J24 x0 x1 s15
    else
      f_12092_J25 x0 x1 1 s15
def f_12093  (s : Mx) : Mx × Int32 :=
  bT (f_12004 (mf s 74) s) fun s1 r1 =>
  (s1, r1)
def f_12094 (x0 : Int32) (x1 : Int32) (s : Mx) : Option Int32 :=
  if (f_12090 x0 s) = 0 then
    some 0
  else
    gd (vi x0 30) <|
    gd (vi (mg s 47 x0) 4) <|
    if (f_12002 x1.toInt64 0 (((mg s 39 (mg s 47 x0)) - 1).toInt64) s) = 0 then
      some 0
    else
      some 1
def f_12095 (x0 : Int32) (x1 : Int32) (s : Mx) : Option (Mx × Int32) :=
  bP (f_12094 x0 x1 s) fun r1 =>
  bT (f_12003 r1 1 1 s) fun s2 r2 =>
  if r2 = 0 then
    some (s2, 0)
  else
    gd (vi ((8 * x0) + x1) 240) <|
    if (mg s2 51 ((8 * x0) + x1)) = 0 then
      some (s2, 0)
    else
      some (s2, 1)
def f_12096 (x0 : Int32) (x1 : Int32) (s : Mx) : Option (Mx × Int32) :=
  bP (f_12094 x0 x1 s) fun r1 =>
  bT (f_12003 r1 1 1 s) fun s2 r2 =>
  if r2 = 0 then
    some (s2, 0)
  else
    gd (vi ((8 * x0) + x1) 240) <|
    some (s2, (mg s2 50 ((8 * x0) + x1)))
def f_12099 (x0 : Int32) (s : Mx) : Option (Mx × Int32) :=
  bT (f_12003 (f_12090 x0 s) 1 1 s) fun s2 r2 =>
  if r2 = 0 then
    some (s2, 0)
  else
    bP (f_12097 x0 s2) fun r4 =>
    some (s2, r4)
def f_12100 (x0 : Int32) (s : Mx) : Option (Mx × Int32) :=
  bT (f_12003 (f_12090 x0 s) 1 1 s) fun s2 r2 =>
  if r2 = 0 then
    some (s2, 0)
  else
    bP (f_12098 x0 s2) fun r4 =>
    some (s2, r4)
def f_12101 (x0 : Int32) (s : Mx) : Option (Mx × Int32) :=
  bO (f_12100 x0 s) fun s1 r1 =>
  some (s1, r1)
def f_12102_J72  (k36 : Int32 → Int32 → Int32 → Int32 → Mx → Option (Mx × Int32)) (l1 : Int32) (l2 : Int32) (l3 : Int32) (l4 : Int32) (k0 : Int32) (s : Mx) : Option (Mx × Int32) :=
  if k0 = 0 then
    k36 l1 l2 l3 (l4 + 1) s
  else
    bP (f_12098 l4 s) fun r2 =>
    if r2 ≤ l3 then
      k36 l1 l2 l3 (l4 + 1) s
    else
      bP (f_12098 l4 s) fun r4 =>
      k36 l1 l2 r4 (l4 + 1) s
def f_12102_J71  (k36 : Int32 → Int32 → Int32 → Int32 → Mx → Option (Mx × Int32)) (l1 : Int32) (l2 : Int32) (l3 : Int32) (l4 : Int32) (s : Mx) : Option (Mx × Int32) :=
  f_12102_J72 k36 l1 l2 l3 l4 0 s
def f_12102_L36  : Nat → Int32 → Int32 → Int32 → Int32 → Mx → Option (Mx × Int32)
  | 0, _, _, _, _, _ => none
  | n + 1, l1, l2, l3, l4, s =>
    if (mf s 74) ≤ l4 then
      some (s, l3)
    else
      gd (vi l4 30) <|
      if (mg s 46 l4) = l1 then
        gd (vi l4 30) <|
        if (mg s 47 l4) = l2 then
          f_12102_J72 (f_12102_L36 n) l1 l2 l3 l4 1 s
        else
          f_12102_J71 (f_12102_L36 n) l1 l2 l3 l4 s
      else
        f_12102_J71 (f_12102_L36 n) l1 l2 l3 l4 s
def f_12102_J21  (l1 : Int32) (l2 : Int32) (k0 : Int32) (s : Mx) : Option (Mx × Int32) :=
  bT (f_12003 k0 1 1 s) fun s8 r8 =>
  if r8 = 0 then
    some (s8, 0)
  else
    f_12102_L36 1000 l1 l2 (-1) 0 s8
def f_12102_J20  (l1 : Int32) (l2 : Int32) (s : Mx) : Option (Mx × Int32) :=
  f_12102_J21 l1 l2 0 s
def f_12102 (x0 : Int32) (x1 : Int32) (s : Mx) : Option (Mx × Int32) :=
  if (f_12091 x0 s) = 0 then
    f_12102_J20 x0 x1 s
  else
    if (f_12082 x1 s) = 0 then
      f_12102_J20 x0 x1 s
    else
      f_12102_J21 x0 x1 1 s
def f_12103_J62  (k22 : Int32 → Int32 → Int32 → Int32 → Mx → Option (Mx × Int32)) (l1 : Int32) (l2 : Int32) (l3 : Int32) (l4 : Int32) (k0 : Int32) (s : Mx) : Option (Mx × Int32) :=
  k22 l1 l2 (k0 + 0) (l4 + 1) s
def f_12103_L22  : Nat → Int32 → Int32 → Int32 → Int32 → Mx → Option (Mx × Int32)
  | 0, _, _, _, _, _ => none
  | n + 1, l1, l2, l3, l4, s =>
    if (mf s 74) ≤ l4 then
      some (s, l3)
    else
      gd (vi l4 30) <|
      if (mg s 47 l4) = l1 then
        gd (vi ((8 * l4) + l2) 240) <|
        if (mg s 51 ((8 * l4) + l2)) = 0 then
          f_12103_J62 (f_12103_L22 n) l1 l2 l3 l4 l3 s
        else
          f_12103_L22 n l1 l2 (l3 + 1) (l4 + 1) s
      else
        f_12103_J62 (f_12103_L22 n) l1 l2 l3 l4 l3 s
def f_12103 (x0 : Int32) (x1 : Int32) (s : Mx) : Option (Mx × Int32) :=
  bP (f_12083 x0 x1 s) fun r4 =>
  bT (f_12003 r4 1 1 s) fun s5 r5 =>
  if r5 = 0 then
    some (s5, 0)
  else
    f_12103_L22 1000 x0 x1 0 0 s5
def f_12104 (x0 : Int32) (s : Mx) : Option (Mx × Int32) :=
  bT (f_12003 (f_12090 x0 s) 1 1 s) fun s2 r2 =>
  if r2 = 0 then
    some (s2, 0)
  else
    bOv (f_12072 x0 s2) fun s4 =>
    some (s4, (mf s4 16))
def f_12105_L41  : Nat → Int32 → Int32 → Int32 → Int32 → Int32 → Mx → Option Int32
  | 0, _, _, _, _, _, _ => none
  | n + 1, l1, l2, l3, l4, l5, s =>
    if l3 < l5 then
      gd (l4 = 0 ∨ l4 = 1) <|
      some l4
    else
      if l4 = 0 then
        gd (l4 = 0 ∨ l4 = 1) <|
        some l4
      else
        gd (vi l1 100) <|
        gd (vi ((mg s 7 l1) + l5) 301) <|
        gd (vi l2 100) <|
        gd (vi ((mg s 27 l2) + l5) 301) <|
        if (mg s 6 ((mg s 7 l1) + l5)) = (mg s 26 ((mg s 27 l2) + l5)) then
          f_12105_L41 n l1 l2 l3 1 (l5 + 1) s
        else
          f_12105_L41 n l1 l2 l3 0 (l5 + 1) s
def f_12105 (x0 : Int32) (x1 : Int32) (s : Mx) : Option Int32 :=
  gd (vi x0 100) <|
  gd (vi x0 100) <|
  gd (vi x1 100) <|
  gd (vi x1 100) <|
  if ((mg s 8 x0) - (mg s 7 x0)) = ((mg s 28 x1) - (mg s 27 x1)) then
    f_12105_L41 1000 x0 x1 ((mg s 8 x0) - (mg s 7 x0)) 1 0 s
  else
    f_12105_L41 1000 x0 x1 ((mg s 8 x0) - (mg s 7 x0)) 0 0 s
def f_12106_J188  (k98 : Int32 → Int32 → Int32 → Int32 → Mx → Option (Mx × Int32)) (l1 : Int32) (l2 : Int32) (l3 : Int32) (l4 : Int32) (l5 : Int32) (l6 : Int32) (s : Mx) : Option (Mx × Int32) :=
  if l5 = 0 then
    k98 l1 l2 (l3 + 0) (l4 + 1) s
  else
    k98 l1 l2 (l3 + 1) (l4 + 1) s
def f_12106_J176  (k98 : Int32 → Int32 → Int32 → Int32 → Mx → Option (Mx × Int32)) (k113 : Int32 → Int32 → Int32 → Int32 → Int32 → Int32 → Mx → Option (Mx × Int32)) (l1 : Int32) (l2 : Int32) (l3 : Int32) (l4 : Int32) (l5 : Int32) (l6 : Int32) (k0 : Int32) (s : Mx) : Option (Mx × Int32) :=
  gd (vi k0 100) <|
  bS (ms s 29 k0 (vp_nar .boolean 1)) fun s2 =>
  k113 l1 l2 l3 l4 l5 (l6 + 1) s2
def f_12106_J153  (k98 : Int32 → Int32 → Int32 → Int32 → Mx → Option (Mx × Int32)) (k113 : Int32 → Int32 → Int32 → Int32 → Int32 → Int32 → Mx → Option (Mx × Int32)) (l1 : Int32) (l2 : Int32) (l3 : Int32) (l4 : Int32) (l5 : Int32) (l6 : Int32) (k0 : Int32) (s : Mx) : Option (Mx × Int32) :=
  gd (vi l6 100) <|
  if (mg s 29 l6) = 0 then
    if k0 = 0 then
      gd (vi l6 100) <|
      bS (ms s 29 l6 (vp_nar .boolean 0)) fun s5 =>
      k113 l1 l2 l3 l4 k0 (l6 + 1) s5
    else
      f_12106_J176 k98 k113 l1 l2 l3 l4 k0 l6 l6 s
  else
    f_12106_J176 k98 k113 l1 l2 l3 l4 k0 l6 l6 s
def f_12106_J152  (k98 : Int32 → Int32 → Int32 → Int32 → Mx → Option (Mx × Int32)) (k113 : Int32 → Int32 → Int32 → Int32 → Int32 → Int32 → Mx → Option (Mx × Int32)) (l1 : Int32) (l2 : Int32) (l3 : Int32) (l4 : Int32) (l5 : Int32) (l6 : Int32) (s : Mx) : Option (Mx × Int32) :=
  f_12106_J153 k98 k113 l1 l2 l3 l4 l5 l6 0 s
def f_12106_L113  (k98 : Int32 → Int32 → Int32 → Int32 → Mx → Option (Mx × Int32)) : Nat → Int32 → Int32 → Int32 → Int32 → Int32 → Int32 → Mx → Option (Mx × Int32)
  | 0, _, _, _, _, _, _, _ => none
  | n + 1, l1, l2, l3, l4, l5, l6, s =>
    if (mf s 44) ≤ l6 then
      f_12106_J188 k98 l1 l2 l3 l4 l5 l6 s
    else
      if l5 = 0 then
        gd (vi l6 100) <|
        if (mg s 29 l6) = 0 then
          bP (f_12105 l4 l6 s) fun r9 =>
          if r9 = 0 then
            f_12106_J152 k98 (f_12106_L113 k98 n) l1 l2 l3 l4 l5 l6 s
          else
            f_12106_J153 k98 (f_12106_L113 k98 n) l1 l2 l3 l4 l5 l6 1 s
        else
          f_12106_J152 k98 (f_12106_L113 k98 n) l1 l2 l3 l4 l5 l6 s
      else
        f_12106_J188 k98 l1 l2 l3 l4 l5 l6 s
def f_12106_L98  : Nat → Int32 → Int32 → Int32 → Int32 → Mx → Option (Mx × Int32)
  | 0, _, _, _, _, _ => none
  | n + 1, l1, l2, l3, l4, s =>
    if (mf s 16) ≤ l4 then
      some (s, l3)
    else
      f_12106_L113 (f_12106_L98 n) 1000 l1 l2 l3 l4 0 0 s
def f_12106_L43  : Nat → Int32 → Int32 → Int32 → Mx → Option (Mx × Int32)
  | 0, _, _, _, _ => none
  | n + 1, l1, l2, l3, s =>
    if (mf s 16) ≤ l3 then
      bOv (f_12072 l1 s) fun s13 =>
      f_12106_L98 1000 l1 l2 0 0 s13
    else
      gd (vi l3 100) <|
      gd (vi l3 100) <|
      bS (ms s 27 l3 (mg s 7 l3)) fun s14 =>
      gd (vi l3 100) <|
      gd (vi l3 100) <|
      bS (ms s14 28 l3 (mg s14 8 l3)) fun s15 =>
      gd (vi l3 100) <|
      bS (ms s15 29 l3 (vp_nar .boolean 0)) fun s16 =>
      f_12106_L43 n l1 l2 (l3 + 1) s16
def f_12106_L15  : Nat → Int32 → Int32 → Int32 → Mx → Option (Mx × Int32)
  | 0, _, _, _, _ => none
  | n + 1, l1, l2, l3, s =>
    if (mf s 14) ≤ l3 then
      f_12106_L43 1000 l1 l2 0 s
    else
      gd (vi l3 301) <|
      gd (vi l3 301) <|
      bS (ms s 26 l3 (mg s 6 l3)) fun s18 =>
      f_12106_L15 n l1 l2 (l3 + 1) s18
def f_12106 (x0 : Int32) (x1 : Int32) (s : Mx) : Option (Mx × Int32) :=
  bOv (f_12072 x1 s) fun s19 =>
  bS (mp s19 44 (mf s19 16)) fun s20 =>
  f_12106_L15 1000 x0 x1 0 s20
def f_12107 (x0 : Int32) (x1 : Int32) (s : Mx) : Option (Mx × Int32) :=
  bO (f_12106 x0 x1 s) fun s1 r1 =>
  if ((mf s1 16) + (mf s1 44)) = 0 then
    some (s1, 0)
  else
    gd (¬ (((mf s1 16) + (mf s1 44)) : Int32) = 0) <|
    some (s1, ((200 * r1) / ((mf s1 16) + (mf s1 44))))
def f_12108_J21  (l1 : Int32) (l2 : Int32) (s : Mx) : Mx × Int32 :=
  bT (f_12003 0 1 1 s) fun s1 r1 =>
  (s1, r1)
def f_12108 (x0 : Int32) (x1 : Int32) (s : Mx) : Mx × Int32 :=
  if (f_12090 x0 s) = 0 then
    f_12108_J21 x0 x1 s
  else
    if (f_12090 x1 s) = 0 then
      f_12108_J21 x0 x1 s
    else
      bT (f_12003 1 1 1 s) fun s6 r6 =>
      (s6, r6)
def f_12109 (x0 : Int32) (x1 : Int32) (s : Mx) : Option (Mx × Int32) :=
  bT (f_12108 x0 x1 s) fun s1 r1 =>
  if r1 = 0 then
    some (s1, 0)
  else
    bO (f_12106 x0 x1 s1) fun s3 r3 =>
    some (s3, r3)
def f_12110 (x0 : Int32) (x1 : Int32) (s : Mx) : Option (Mx × Int32) :=
  bT (f_12108 x0 x1 s) fun s1 r1 =>
  if r1 = 0 then
    some (s1, 0)
  else
    bO (f_12107 x0 x1 s1) fun s3 r3 =>
    some (s3, r3)
def f_12111_J40  (l1 : Int32) (l2 : Int32) (k0 : Int32) (s : Mx) : Option (Mx × Int32) :=
  if k0 = 0 then
    some (s, 0)
  else
    bO (f_12107 l1 l2 s) fun s2 r2 =>
    if r2 < 80 then
      some (s2, 0)
    else
      bO (f_12106 l1 l2 s2) fun s4 r4 =>
      if r4 < 3 then
        some (s4, 0)
      else
        some (s4, 1)
def f_12111_J39  (l1 : Int32) (l2 : Int32) (s : Mx) : Option (Mx × Int32) :=
  f_12111_J40 l1 l2 0 s
def f_12111 (x0 : Int32) (x1 : Int32) (s : Mx) : Option (Mx × Int32) :=
  if x0 ≤ x1 then
    f_12111_J39 x0 x1 s
  else
    gd (vi x0 30) <|
    gd (vi x1 30) <|
    if (mg s 46 x0) = (mg s 46 x1) then
      f_12111_J39 x0 x1 s
    else
      gd (vi x0 30) <|
      gd (vi x1 30) <|
      if (mg s 47 x0) = (mg s 47 x1) then
        f_12111_J40 x0 x1 1 s
      else
        f_12111_J39 x0 x1 s
def f_12112_J51  (l1 : Int32) (l2 : Int32) (l3 : Int32) (k0 : Int32) (k1 : Int32) (s : Mx) : Option (Mx × Int32) :=
  bT (f_12003 k1 k0 1 s) fun s1 r1 =>
  if r1 = 0 then
    some (s1, 0)
  else
    bP (f_12098 l1 s1) fun r3 =>
    gd (vi l1 30) <|
    bS (ms s1 49 l1 (vp_nar .boolean 1)) fun s4 =>
    some (s4, r3)
def f_12112_J50  (l1 : Int32) (l2 : Int32) (l3 : Int32) (k0 : Int32) (s : Mx) : Option (Mx × Int32) :=
  f_12112_J51 l1 l2 l3 0 k0 s
def f_12112_J21  (l1 : Int32) (l2 : Int32) (k0 : Int32) (s : Mx) : Option (Mx × Int32) :=
  if k0 = 0 then
    f_12112_J50 l1 l2 k0 k0 s
  else
    gd (vi l1 30) <|
    if (mg s 49 l1) = 0 then
      bO (f_12111 l1 l2 s) fun s7 r7 =>
      if r7 = 0 then
        f_12112_J50 l1 l2 k0 k0 s7
      else
        f_12112_J51 l1 l2 k0 1 k0 s7
    else
      f_12112_J50 l1 l2 k0 k0 s
def f_12112_J20  (l1 : Int32) (l2 : Int32) (s : Mx) : Option (Mx × Int32) :=
  f_12112_J21 l1 l2 0 s
def f_12112 (x0 : Int32) (x1 : Int32) (s : Mx) : Option (Mx × Int32) :=
  if (f_12090 x0 s) = 0 then
    f_12112_J20 x0 x1 s
  else
    if (f_12090 x1 s) = 0 then
      f_12112_J20 x0 x1 s
    else
      f_12112_J21 x0 x1 1 s
def f_12113_J26  (l1 : Int32) (l2 : Int32) (k0 : Int32) (k1 : Int32) (s : Mx) : Option (Mx × Int32) :=
  bT (f_12003 k1 k0 1 s) fun s1 r1 =>
  if r1 = 0 then
    some (s1, 0)
  else
    gd (vi l1 30) <|
    bS (ms s1 49 l1 (vp_nar .boolean 0)) fun s3 =>
    bP (f_12098 l1 s3) fun r4 =>
    some (s3, r4)
def f_12113_J25  (l1 : Int32) (l2 : Int32) (k0 : Int32) (s : Mx) : Option (Mx × Int32) :=
  f_12113_J26 l1 l2 0 k0 s
def f_12113 (x0 : Int32) (s : Mx) : Option (Mx × Int32) :=
  if (f_12090 x0 s) = 0 then
    f_12113_J25 x0 (f_12090 x0 s) (f_12090 x0 s) s
  else
    gd (vi x0 30) <|
    if (mg s 49 x0) = 0 then
      f_12113_J25 x0 (f_12090 x0 s) (f_12090 x0 s) s
    else
      f_12113_J26 x0 (f_12090 x0 s) 1 (f_12090 x0 s) s
def f_12114_L22  : Nat → Int32 → Int32 → Int32 → Mx → Option (Mx × Int32)
  | 0, _, _, _, _ => none
  | n + 1, l1, l2, l3, s =>
    if l3 < 0 then
      some (s, l2)
    else
      bO (f_12111 l1 l3 s) fun s2 r2 =>
      if r2 = 0 then
        f_12114_L22 n l1 l2 (l3 + (-1)) s2
      else
        f_12114_L22 n l1 l3 (l3 + (-1)) s2
def f_12114 (x0 : Int32) (s : Mx) : Option (Mx × Int32) :=
  bT (f_12003 (f_12090 x0 s) 1 1 s) fun s5 r5 =>
  if r5 = 0 then
    some (s5, 0)
  else
    f_12114_L22 1000 x0 (-1) (x0 - 1) s5
