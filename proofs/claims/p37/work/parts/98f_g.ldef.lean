/-! the law: accusing -/
noncomputable section
def l_13040_J414 (l0 : Nat) (l1 : Nat) (l2 : Nat) (l3 : Nat) (l4 : Nat) (l5 : Int32) (l6 : Int32) (l7 : Int32) (l8 : Int32) (l9 : Int32) (l10 : Int32) (l11 : Int32) (l12 : Int32) (l13 : Int32) (l14 : Int32) (bc bs : Nat) (S : Lx) : Option (Lx × Int32) :=
  gd (vi 1 (S.2 l4).length) <|
  gd (tK S.1 l0 = 12) <|
  gd ((18 : Nat) ≤ bc ∧ 108 ≤ bs) <|
  bO (h_13025 l0 (xg (S.2 l4) 1) 0 S.1) fun T1 r1 => bS (lT S T1) fun S1 =>
  if r1 = (-1000001) then
    some (S1, 1)
  else
    some (S1, 0)
def l_13040_J397 (l0 : Nat) (l1 : Nat) (l2 : Nat) (l3 : Nat) (l4 : Nat) (l5 : Int32) (l6 : Int32) (l7 : Int32) (l8 : Int32) (l9 : Int32) (l10 : Int32) (l11 : Int32) (l12 : Int32) (l13 : Int32) (l14 : Int32) (k0 : Int32) (k1 : Int32) (bc bs : Nat) (S : Lx) : Option (Lx × Int32) :=
  if k1 = k0 then
    if l14 = 0 then
      l_13040_J414 l0 l1 l2 l3 l4 l5 l6 l7 l8 l9 l10 l11 l12 l13 l14 bc bs S
    else
      gd (tK S.1 l0 = 12) <|
      gd ((1 : Nat) ≤ bc ∧ 6 ≤ bs) <|
      bP (h_13018 l0 l6 S.1) fun r5 =>
      if r5 = 0 then
        l_13040_J414 l0 l1 l2 l3 l4 l5 l6 l7 l8 l9 l10 l11 l12 l13 l14 (bc - 1) (bs - 6) S
      else
        some (S, 0)
  else
    some (S, 0)
def l_13040_J377 (l0 : Nat) (l1 : Nat) (l2 : Nat) (l3 : Nat) (l4 : Nat) (l5 : Int32) (l6 : Int32) (l7 : Int32) (l8 : Int32) (l9 : Int32) (l10 : Int32) (l11 : Int32) (l12 : Int32) (l13 : Int32) (l14 : Int32) (bc bs : Nat) (S : Lx) : Option (Lx × Int32) :=
  gd (tK S.1 l0 = 12) <|
  gd ((18 : Nat) ≤ bc ∧ 108 ≤ bs) <|
  bO (h_13025 l0 l6 l7 S.1) fun T7 r7 => bS (lT S T7) fun S7 =>
  if l14 = 0 then
    l_13040_J397 l0 l1 l2 l3 l4 l5 l6 l7 l8 l9 l10 l11 l12 l13 l14 (-1000003) r7 (bc - 18) (bs - 108) S7
  else
    l_13040_J397 l0 l1 l2 l3 l4 l5 l6 l7 l8 l9 l10 l11 l12 l13 l14 l11 r7 (bc - 18) (bs - 108) S7
def l_13040_J340 (l0 : Nat) (l1 : Nat) (l2 : Nat) (l3 : Nat) (l4 : Nat) (l5 : Int32) (l6 : Int32) (l7 : Int32) (l8 : Int32) (l9 : Int32) (l10 : Int32) (l11 : Int32) (l12 : Int32) (l13 : Int32) (l14 : Int32) (k0 : Int32) (k1 : Int32) (k2 : Int32) (k3 : Nat) (bc bs : Nat) (S : Lx) : Option (Lx × Int32) :=
  gd (vi k2 (S.2 k3).length) <|
  bS (lSet S k3 k2 (k1 + k0)) fun S9 =>
  if l10 = 0 then
    some (S9, 0)
  else
    if l6 ≤ l12 then
      some (S9, 0)
    else
      if l12 < (-1) then
        some (S9, 0)
      else
        if l13 = 0 then
          l_13040_J377 l0 l1 l2 l3 l4 l5 l6 l7 l8 l9 l10 l11 l12 l13 l14 bc bs S9
        else
          if l12 < 0 then
            some (S9, 0)
          else
            if l7 < l12 then
              some (S9, 0)
            else
              l_13040_J377 l0 l1 l2 l3 l4 l5 l6 l7 l8 l9 l10 l11 l12 l13 l14 bc bs S9
def l_13040_J322 (l0 : Nat) (l1 : Nat) (l2 : Nat) (l3 : Nat) (l4 : Nat) (l5 : Int32) (l6 : Int32) (l7 : Int32) (l8 : Int32) (l9 : Int32) (l10 : Int32) (l11 : Int32) (l12 : Int32) (l13 : Int32) (k0 : Int32) (bc bs : Nat) (S : Lx) : Option (Lx × Int32) :=
  gd (vi l6 (S.2 l3).length) <|
  if k0 = 0 then
    l_13040_J340 l0 l1 l2 l3 l4 l5 l6 l7 l8 l9 l10 l11 l12 l13 k0 0 (xg (S.2 l3) l6) l6 l3 bc bs S
  else
    l_13040_J340 l0 l1 l2 l3 l4 l5 l6 l7 l8 l9 l10 l11 l12 l13 k0 65536 (xg (S.2 l3) l6) l6 l3 bc bs S
def l_13040_J321 (l0 : Nat) (l1 : Nat) (l2 : Nat) (l3 : Nat) (l4 : Nat) (l5 : Int32) (l6 : Int32) (l7 : Int32) (l8 : Int32) (l9 : Int32) (l10 : Int32) (l11 : Int32) (l12 : Int32) (l13 : Int32) (bc bs : Nat) (S : Lx) : Option (Lx × Int32) :=
  l_13040_J322 l0 l1 l2 l3 l4 l5 l6 l7 l8 l9 l10 l11 l12 l13 0 bc bs S
def l_13040_J301 (l0 : Nat) (l1 : Nat) (l2 : Nat) (l3 : Nat) (l4 : Nat) (l5 : Int32) (l6 : Int32) (l7 : Int32) (l8 : Int32) (l9 : Int32) (l10 : Int32) (l11 : Int32) (l12 : Int32) (k0 : Int32) (bc bs : Nat) (S : Lx) : Option (Lx × Int32) :=
  if k0 = 0 then
    l_13040_J321 l0 l1 l2 l3 l4 l5 l6 l7 l8 l9 l10 l11 l12 k0 bc bs S
  else
    gd (vi l6 (S.2 l3).length) <|
    if 65536 ≤ (xg (S.2 l3) l6) then
      l_13040_J321 l0 l1 l2 l3 l4 l5 l6 l7 l8 l9 l10 l11 l12 k0 bc bs S
    else
      l_13040_J322 l0 l1 l2 l3 l4 l5 l6 l7 l8 l9 l10 l11 l12 k0 1 bc bs S
def l_13040_J300 (l0 : Nat) (l1 : Nat) (l2 : Nat) (l3 : Nat) (l4 : Nat) (l5 : Int32) (l6 : Int32) (l7 : Int32) (l8 : Int32) (l9 : Int32) (l10 : Int32) (l11 : Int32) (l12 : Int32) (bc bs : Nat) (S : Lx) : Option (Lx × Int32) :=
  l_13040_J301 l0 l1 l2 l3 l4 l5 l6 l7 l8 l9 l10 l11 l12 0 bc bs S
def l_13040_J224 (l0 : Nat) (l1 : Nat) (l2 : Nat) (l3 : Nat) (l4 : Nat) (l5 : Int32) (l6 : Int32) (l7 : Int32) (l8 : Int32) (l9 : Int32) (l10 : Int32) (l11 : Int32) (bc bs : Nat) (S : Lx) : Option (Lx × Int32) :=
  gd (tK S.1 l0 = 12) <|
  gd ((360 : Nat) ≤ bc ∧ 2200 ≤ bs) <|
  bP (h_13027 l0 l6 S.1) fun r19 =>
  if l6 ≤ l7 then
    l_13040_J300 l0 l1 l2 l3 l4 l5 l6 l7 l8 l9 l10 l11 r19 (bc - 360) (bs - 2200) S
  else
    gd (vi l6 (S.2 l3).length) <|
    gd (¬ (8 : Int32) = 0) <|
    gd (vi l7 (S.2 l3).length) <|
    gd (¬ (8 : Int32) = 0) <|
    if ((xg (S.2 l3) l6) % 8) = ((xg (S.2 l3) l7) % 8) then
      l_13040_J300 l0 l1 l2 l3 l4 l5 l6 l7 l8 l9 l10 l11 r19 (bc - 360) (bs - 2200) S
    else
      gd (vi l6 (S.2 l3).length) <|
      gd (¬ (8 : Int32) = 0) <|
      gd (¬ (4 : Int32) = 0) <|
      gd (vi l7 (S.2 l3).length) <|
      gd (¬ (8 : Int32) = 0) <|
      gd (¬ (4 : Int32) = 0) <|
      if (((xg (S.2 l3) l6) / 8) % 4) = (((xg (S.2 l3) l7) / 8) % 4) then
        if l8 ≤ 2 then
          l_13040_J300 l0 l1 l2 l3 l4 l5 l6 l7 l8 l9 l10 l11 r19 (bc - 360) (bs - 2200) S
        else
          gd (tK S.1 l0 = 12) <|
          gd ((6 : Nat) ≤ (bc - 360) ∧ 36 ≤ (bs - 2200)) <|
          bP (h_13024 l0 l6 l7 S.1) fun r24 =>
          if r24 ≤ 79 then
            l_13040_J300 l0 l1 l2 l3 l4 l5 l6 l7 l8 l9 l10 l11 r19 ((bc - 360) - 6) ((bs - 2200) - 36) S
          else
            l_13040_J301 l0 l1 l2 l3 l4 l5 l6 l7 l8 l9 l10 l11 r19 1 ((bc - 360) - 6) ((bs - 2200) - 36) S
      else
        l_13040_J300 l0 l1 l2 l3 l4 l5 l6 l7 l8 l9 l10 l11 r19 (bc - 360) (bs - 2200) S
def l_13040_J139 (l0 : Nat) (l1 : Nat) (l2 : Nat) (l3 : Nat) (l4 : Nat) (l5 : Int32) (l6 : Int32) (l7 : Int32) (l8 : Int32) (l9 : Int32) (k0 : Int32) (bc bs : Nat) (S : Lx) : Option (Lx × Int32) :=
  gd ((18 : Nat) ≤ bc ∧ 108 ≤ bs) <|
  bP (l_13037 l0 l1 l2 l3 l6 0 S) fun r26 =>
  gd (vi l6 (S.2 l3).length) <|
  if (xg (S.2 l3) l6) ≤ 65535 then
    l_13040_J224 l0 l1 l2 l3 l4 l5 l6 l7 l8 l9 k0 r26 (bc - 18) (bs - 108) S
  else
    bP (h_13001 (l5 >>> (10 &&& 31)) 2 S.1) fun r28 =>
    if r28 = 0 then
      gd (vi l6 (S.2 l3).length) <|
      gd (vi l6 (S.2 l3).length) <|
      bS (lSet S l3 l6 ((xg (S.2 l3) l6) - 65536)) fun S30 =>
      if k0 = 0 then
        some (S30, 0)
      else
        gd (tK S30.1 l0 = 12) <|
        gd ((2 : Nat) ≤ (bc - 18) ∧ 12 ≤ (bs - 108)) <|
        bO (h_13026 l0 l6 S30.1) fun T32 r32 => bS (lT S30 T32) fun S32 =>
        gd ((18 : Nat) ≤ ((bc - 18) - 2) ∧ 108 ≤ ((bs - 108) - 12)) <|
        bP (l_13037 l0 l1 l2 l3 l6 0 S32) fun r33 =>
        if r32 = r33 then
          gd (tK S32.1 l0 = 12) <|
          gd ((2 : Nat) ≤ (((bc - 18) - 2) - 18) ∧ 12 ≤ (((bs - 108) - 12) - 108)) <|
          bO (h_13026 l0 l6 S32.1) fun T35 r35 => bS (lT S32 T35) fun S35 =>
          if r35 = (-1000003) then
            some (S35, 1)
          else
            some (S35, 0)
        else
          some (S32, 0)
    else
      l_13040_J224 l0 l1 l2 l3 l4 l5 l6 l7 l8 l9 k0 r26 (bc - 18) (bs - 108) S
def l_13040_J138 (l0 : Nat) (l1 : Nat) (l2 : Nat) (l3 : Nat) (l4 : Nat) (l5 : Int32) (l6 : Int32) (l7 : Int32) (l8 : Int32) (l9 : Int32) (bc bs : Nat) (S : Lx) : Option (Lx × Int32) :=
  l_13040_J139 l0 l1 l2 l3 l4 l5 l6 l7 l8 l9 0 bc bs S
def l_13040_J97 (l0 : Nat) (l1 : Nat) (l2 : Nat) (l3 : Nat) (l4 : Nat) (l5 : Int32) (l6 : Int32) (l7 : Int32) (l8 : Int32) (l9 : Int32) (k0 : Int32) (k1 : Int32) (bc bs : Nat) (S : Lx) : Option (Lx × Int32) :=
  if k1 = k0 then
    gd (tK S.1 l0 = 12) <|
    gd ((6 : Nat) ≤ bc ∧ 36 ≤ bs) <|
    bP (h_13024 l0 l6 l7 S.1) fun r38 =>
    gd (tK S.1 l0 = 12) <|
    gd ((6 : Nat) ≤ (bc - 6) ∧ 36 ≤ (bs - 36)) <|
    bP (h_13024 l0 l7 l6 S.1) fun r39 =>
    if r38 = r39 then
      gd (vi 1 (S.2 l4).length) <|
      gd (tK S.1 l0 = 12) <|
      gd ((3 : Nat) ≤ ((bc - 6) - 6) ∧ 18 ≤ ((bs - 36) - 36)) <|
      bP (h_13023 l0 l6 (xg (S.2 l4) 1) S.1) fun r41 =>
      if r41 = (-1000001) then
        l_13040_J139 l0 l1 l2 l3 l4 l5 l6 l7 l8 l9 1 (((bc - 6) - 6) - 3) (((bs - 36) - 36) - 18) S
      else
        l_13040_J138 l0 l1 l2 l3 l4 l5 l6 l7 l8 l9 (((bc - 6) - 6) - 3) (((bs - 36) - 36) - 18) S
    else
      l_13040_J138 l0 l1 l2 l3 l4 l5 l6 l7 l8 l9 ((bc - 6) - 6) ((bs - 36) - 36) S
  else
    l_13040_J138 l0 l1 l2 l3 l4 l5 l6 l7 l8 l9 bc bs S
def l_13040 (x0 : Nat) (x1 : Nat) (x2 : Nat) (x3 : Nat) (x4 : Nat) (x5 : Int32) (S : Lx) : Option (Lx × Int32) :=
  gd (vi 1 (S.2 x4).length) <|
  bP (h_13001 x5 (xg (S.2 x4) 1) S.1) fun r43 =>
  gd (vi 1 (S.2 x4).length) <|
  bP (h_13001 (x5 >>> (5 &&& 31)) (xg (S.2 x4) 1) S.1) fun r44 =>
  gd (tK S.1 x0 = 12) <|
  bP (h_13023 x0 r43 r44 S.1) fun r45 =>
  gd (tK S.1 x0 = 12) <|
  bP (h_13022 x0 r43 S.1) fun r46 =>
  gd (tK S.1 x0 = 12) <|
  bP (h_13022 x0 r44 S.1) fun r47 =>
  gd (tK S.1 x0 = 12) <|
  bP (h_13023 x0 r44 r43 S.1) fun r48 =>
  if r45 = r48 then
    if (r46 + r47) < (2 * r45) then
      l_13040_J138 x0 x1 x2 x3 x4 x5 r43 r44 r45 (r46 + r47) 512 3152 S
    else
      gd (tK S.1 x0 = 12) <|
      bP (h_13024 x0 r43 r44 S.1) fun r51 =>
      if (r46 + r47) = 0 then
        l_13040_J97 x0 x1 x2 x3 x4 x5 r43 r44 r45 (r46 + r47) 0 r51 506 3116 S
      else
        gd (¬ ((r46 + r47) : Int32) = 0) <|
        l_13040_J97 x0 x1 x2 x3 x4 x5 r43 r44 r45 (r46 + r47) ((200 * r45) / (r46 + r47)) r51 506 3116 S
  else
    l_13040_J138 x0 x1 x2 x3 x4 x5 r43 r44 r45 (r46 + r47) 512 3152 S
end
