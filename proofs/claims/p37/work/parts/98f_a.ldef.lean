/-! the law: how it begins a draft and goes on -/
noncomputable section
def l_13033_J140 (l0 : Nat) (l1 : Nat) (l2 : Int32) (l3 : Int32) (bc bs : Nat) (S : Lx) : Option (Lx × Int32) :=
  if l3 = 0 then
    some (S, 0)
  else
    gd (tK S.1 l0 = 12) <|
    gd ((40 : Nat) ≤ bc ∧ 3700 ≤ bs) <|
    bO (h_11006 l0 S.1) fun T2 r2 => bS (lT S T2) fun S2 =>
    if r2 = 0 then
      gd (tK S2.1 l0 = 12) <|
      gd ((41 : Nat) ≤ (bc - 40) ∧ 3706 ≤ (bs - 3700)) <|
      bO (h_13005 l0 S2.1) fun T4 r4 => bS (lT S2 T4) fun S4 =>
      gd (vi 3 (S4.2 l1).length) <|
      if r4 = (xg (S4.2 l1) 3) then
        some (S4, 1)
      else
        some (S4, 0)
    else
      some (S2, 0)
def l_13033_J139 (l0 : Nat) (l1 : Nat) (l2 : Int32) (l3 : Int32) (k0 : Int32) (bc bs : Nat) (S : Lx) : Option (Lx × Int32) :=
  l_13033_J140 l0 l1 l2 k0 bc bs S
def l_13033_J138 (l0 : Nat) (l1 : Nat) (l2 : Int32) (l3 : Int32) (bc bs : Nat) (S : Lx) : Option (Lx × Int32) :=
  l_13033_J139 l0 l1 l2 l3 0 bc bs S
def l_13033_J86 (l0 : Nat) (l1 : Nat) (l2 : Int32) (l3 : Int32) (k0 : Int32) (bc bs : Nat) (S : Lx) : Option (Lx × Int32) :=
  l_13033_J140 l0 l1 l2 k0 bc bs S
def l_13033_J85 (l0 : Nat) (l1 : Nat) (l2 : Int32) (l3 : Int32) (bc bs : Nat) (S : Lx) : Option (Lx × Int32) :=
  l_13033_J86 l0 l1 l2 l3 0 bc bs S
def l_13033_J33 (l0 : Nat) (l1 : Nat) (l2 : Int32) (k0 : Int32) (bc bs : Nat) (S : Lx) : Option (Lx × Int32) :=
  bP (h_13001 l2 3 S.1) fun r6 =>
  gd (vi 3 (S.2 l1).length) <|
  bS (lSet S l1 3 r6) fun S7 =>
  gd (vi 3 (S7.2 l1).length) <|
  if (xg (S7.2 l1) 3) = 1 then
    gd (vi 3 (S7.2 l1).length) <|
    bS (lSet S7 l1 3 2) fun S17 =>
    if k0 = 0 then
      l_13033_J85 l0 l1 l2 k0 bc bs S17
    else
      gd (tK S17.1 l0 = 12) <|
      gd ((1 : Nat) ≤ bc ∧ 6 ≤ bs) <|
      bO (h_13002 l0 2988182771855680868 S17.1) fun T19 r19 => bS (lT S17 T19) fun S19 =>
      if r19 = 8 then
        gd (tK S19.1 l0 = 12) <|
        gd ((1 : Nat) ≤ (bc - 1) ∧ 6 ≤ (bs - 6)) <|
        bO (h_13002 l0 9023938359155060603 S19.1) fun T21 r21 => bS (lT S19 T21) fun S21 =>
        if r21 = 16 then
          l_13033_J86 l0 l1 l2 k0 1 ((bc - 1) - 1) ((bs - 6) - 6) S21
        else
          l_13033_J85 l0 l1 l2 k0 ((bc - 1) - 1) ((bs - 6) - 6) S21
      else
        l_13033_J85 l0 l1 l2 k0 (bc - 1) (bs - 6) S19
  else
    gd (vi 3 (S7.2 l1).length) <|
    bS (lSet S7 l1 3 3) fun S9 =>
    if k0 = 0 then
      l_13033_J138 l0 l1 l2 k0 bc bs S9
    else
      gd (tK S9.1 l0 = 12) <|
      gd ((1 : Nat) ≤ bc ∧ 6 ≤ bs) <|
      bO (h_13002 l0 2988182771855680868 S9.1) fun T11 r11 => bS (lT S9 T11) fun S11 =>
      if r11 = 8 then
        gd (tK S11.1 l0 = 12) <|
        gd ((1 : Nat) ≤ (bc - 1) ∧ 6 ≤ (bs - 6)) <|
        bO (h_13002 l0 2911149965011478907 S11.1) fun T13 r13 => bS (lT S11 T13) fun S13 =>
        if r13 = 16 then
          gd (tK S13.1 l0 = 12) <|
          gd ((1 : Nat) ≤ ((bc - 1) - 1) ∧ 6 ≤ ((bs - 6) - 6)) <|
          bO (h_13002 l0 35322065136463224 S13.1) fun T15 r15 => bS (lT S13 T15) fun S15 =>
          if r15 = 23 then
            l_13033_J139 l0 l1 l2 k0 1 (((bc - 1) - 1) - 1) (((bs - 6) - 6) - 6) S15
          else
            l_13033_J138 l0 l1 l2 k0 (((bc - 1) - 1) - 1) (((bs - 6) - 6) - 6) S15
        else
          l_13033_J138 l0 l1 l2 k0 ((bc - 1) - 1) ((bs - 6) - 6) S13
      else
        l_13033_J138 l0 l1 l2 k0 (bc - 1) (bs - 6) S11
def l_13033_J32 (l0 : Nat) (l1 : Nat) (l2 : Int32) (bc bs : Nat) (S : Lx) : Option (Lx × Int32) :=
  l_13033_J33 l0 l1 l2 0 bc bs S
def l_13033 (x0 : Nat) (x1 : Nat) (x2 : Int32) (S : Lx) : Option (Lx × Int32) :=
  gd (tK S.1 x0 = 12) <|
  bO (h_11002 x0 S.1) fun T23 r23 => bS (lT S T23) fun S23 =>
  if r23 < 0 then
    l_13033_J32 x0 x1 x2 180 15000 S23
  else
    gd (tK S23.1 x0 = 12) <|
    bP (h_11004 x0 S23.1) fun r25 =>
    if r25 = 0 then
      gd (tK S23.1 x0 = 12) <|
      bO (h_11006 x0 S23.1) fun T27 r27 => bS (lT S23 T27) fun S27 =>
      if r27 = 0 then
        gd (tK S27.1 x0 = 12) <|
        bO (h_13005 x0 S27.1) fun T29 r29 => bS (lT S27 T29) fun S29 =>
        if r29 = 0 then
          l_13033_J33 x0 x1 x2 1 99 7594 S29
        else
          l_13033_J32 x0 x1 x2 99 7594 S29
      else
        l_13033_J32 x0 x1 x2 140 11300 S27
    else
      l_13033_J32 x0 x1 x2 180 15000 S23
def l_13034_J66 (l0 : Nat) (l1 : Nat) (l2 : Int32) (l3 : Int32) (l4 : Int32) (l5 : Int32) (bc bs : Nat) (S : Lx) : Option (Lx × Int32) :=
  gd (tK S.1 l0 = 12) <|
  gd ((40 : Nat) ≤ bc ∧ 3700 ≤ bs) <|
  bO (h_11006 l0 S.1) fun T1 r1 => bS (lT S T1) fun S1 =>
  if r1 = 0 then
    gd (tK S1.1 l0 = 12) <|
    gd ((40 : Nat) ≤ (bc - 40) ∧ 3700 ≤ (bs - 3700)) <|
    bO (h_11007 l0 S1.1) fun T3 r3 => bS (lT S1 T3) fun S3 =>
    if r3 = (-1) then
      gd (tK S3.1 l0 = 12) <|
      gd ((41 : Nat) ≤ ((bc - 40) - 40) ∧ 3706 ≤ ((bs - 3700) - 3700)) <|
      bO (h_13005 l0 S3.1) fun T5 r5 => bS (lT S3 T5) fun S5 =>
      gd (vi 3 (S5.2 l1).length) <|
      if r5 = (xg (S5.2 l1) 3) then
        some (S5, 1)
      else
        some (S5, 0)
    else
      some (S3, 0)
  else
    some (S1, 0)
def l_13034_L12 : Nat → Nat → Nat → Int32 → Int32 → Int32 → Int32 → Nat → Nat → Lx → Option (Lx × Int32)
  | 0, _, _, _, _, _, _, _, _, _ => none
  | n + 1, l0, l1, l2, l3, l4, l5, bc, bs, S =>
    if l4 ≤ l5 then
      l_13034_J66 l0 l1 l2 l3 l4 l5 bc bs S
    else
      gd (tK S.1 l0 = 12) <|
      bP (h_11004 l0 S.1) fun r8 =>
      if 240 ≤ r8 then
        l_13034_J66 l0 l1 l2 l3 l4 l5 bc bs S
      else
        gd ((96 : Nat) ≤ bc ∧ 576 ≤ bs) <|
        bO (h_13032 l0 (l2 >>> ((2 + l5) &&& 31)) (l3 >>> (l5 &&& 31)) S.1) fun T10 r10 => bS (lT S T10) fun S10 =>
        gd (vi 3 (S10.2 l1).length) <|
        gd (vi 3 (S10.2 l1).length) <|
        bS (lSet S10 l1 3 ((xg (S10.2 l1) 3) + r10)) fun S11 =>
        if 0 ≤ r10 then
          l_13034_L12 n l0 l1 l2 l3 l4 (l5 + 1) (bc - 96) (bs - 576) S11
        else
          some (S11, 0)
def l_13034 (x0 : Nat) (x1 : Nat) (x2 : Int32) (x3 : Int32) (S : Lx) : Option (Lx × Int32) :=
  bP (h_13001 x2 3 S.1) fun r13 =>
  l_13034_L12 9 x0 x1 x2 x3 (1 + r13) 0 460 14000 S
end
