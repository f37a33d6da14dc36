/-! the law: the school -/
noncomputable section
def l_13041_L576 : Nat → Nat → Nat → Nat → Nat → Nat → Nat → Nat → Int32 → Int32 → Int32 → Int32 → Int32 → Int32 → Int32 → Nat → Int32 → Int32 → Nat → Nat → Lx → Option (Lx × Int32)
  | 0, _, _, _, _, _, _, _, _, _, _, _, _, _, _, _, _, _, _, _, _ => none
  | n + 1, l0, l1, l2, l3, l4, l5, l6, l7, l8, l9, l10, l11, l12, l13, l14, l15, l16, bc, bs, S =>
    gd (vi 1 (S.2 l6).length) <|
    if (xg (S.2 l6) 1) ≤ l16 then
      if l15 = l13 then
        gd (tK S.1 l0 = 12) <|
        gd ((4 : Nat) ≤ bc ∧ 40 ≤ bs) <|
        bO (h_13012 l0 l10 l11 S.1) fun T3 r3 => bS (lT S T3) fun S3 =>
        if r3 = (-1000003) then
          some (S3, 1)
        else
          some (S3, 0)
      else
        some (S, 0)
    else
      gd ((18 : Nat) ≤ bc ∧ 108 ≤ bs) <|
      bP (l_13037 l0 l1 l4 l5 l16 0 S) fun r5 =>
      gd (vi l16 (S.2 l14).length) <|
      if r5 = (xg (S.2 l14) l16) then
        l_13041_L576 n l0 l1 l2 l3 l4 l5 l6 l7 l8 l9 l10 l11 l12 (l13 + 0) l14 l15 (l16 + 1) (bc - 18) (bs - 108) S
      else
        l_13041_L576 n l0 l1 l2 l3 l4 l5 l6 l7 l8 l9 l10 l11 l12 (l13 + 1) l14 l15 (l16 + 1) (bc - 18) (bs - 108) S
def l_13041_J555 (l0 : Nat) (l1 : Nat) (l2 : Nat) (l3 : Nat) (l4 : Nat) (l5 : Nat) (l6 : Nat) (l7 : Int32) (l8 : Int32) (l9 : Int32) (l10 : Int32) (l11 : Int32) (l12 : Int32) (l13 : Int32) (l14 : Nat) (l15 : Int32) (k0 : Int32) (k1 : Int32) (bc bs : Nat) (S : Lx) : Option (Lx × Int32) :=
  if k1 = k0 then
    some (S, 1)
  else
    some (S, 0)
def l_13041_J536 (l0 : Nat) (l1 : Nat) (l2 : Nat) (l3 : Nat) (l4 : Nat) (l5 : Nat) (l6 : Nat) (l7 : Int32) (l8 : Int32) (l9 : Int32) (l10 : Int32) (l11 : Int32) (l12 : Int32) (l13 : Int32) (l14 : Nat) (l15 : Int32) (bc bs : Nat) (S : Lx) : Option (Lx × Int32) :=
  gd (vi (4 + l10) (S.2 l4).length) <|
  if (xg (S.2 l4) (4 + l10)) = 0 then
    l_13041_J555 l0 l1 l2 l3 l4 l5 l6 l7 l8 l9 l10 l11 l12 l13 l14 l15 (-1000001) l15 bc bs S
  else
    l_13041_J555 l0 l1 l2 l3 l4 l5 l6 l7 l8 l9 l10 l11 l12 l13 l14 l15 (-1000003) l15 bc bs S
def l_13041_L475 : Nat → Nat → Nat → Nat → Nat → Nat → Nat → Nat → Int32 → Int32 → Int32 → Int32 → Int32 → Int32 → Int32 → Nat → Int32 → Nat → Nat → Lx → Option (Lx × Int32)
  | 0, _, _, _, _, _, _, _, _, _, _, _, _, _, _, _, _, _, _, _ => none
  | n + 1, l0, l1, l2, l3, l4, l5, l6, l7, l8, l9, l10, l11, l12, l13, l14, l15, bc, bs, S =>
    gd (vi 1 (S.2 l6).length) <|
    if (xg (S.2 l6) 1) ≤ l15 then
      gd (tK S.1 l0 = 12) <|
      gd ((4 : Nat) ≤ bc ∧ 40 ≤ bs) <|
      bO (h_13012 l0 l10 l11 S.1) fun T10 r10 => bS (lT S T10) fun S10 =>
      gd (vi (4 + l10) (S10.2 l4).length) <|
      if (xg (S10.2 l4) (4 + l10)) = 0 then
        l_13041_J536 l0 l1 l2 l3 l4 l5 l6 l7 l8 l9 l10 l11 l12 l13 l14 r10 (bc - 4) (bs - 40) S10
      else
        gd (vi l12 (S10.2 l1).length) <|
        if (xg (S10.2 l1) l12) ≤ 15 then
          gd (vi l12 (S10.2 l1).length) <|
          gd (vi l12 (S10.2 l1).length) <|
          bS (lSet S10 l1 l12 ((xg (S10.2 l1) l12) + 16)) fun S13 =>
          l_13041_L576 40 l0 l1 l2 l3 l4 l5 l6 l7 l8 l9 l10 l11 l12 l13 l14 r10 0 (bc - 4) (bs - 40) S13
        else
          l_13041_J536 l0 l1 l2 l3 l4 l5 l6 l7 l8 l9 l10 l11 l12 l13 l14 r10 (bc - 4) (bs - 40) S10
    else
      gd ((18 : Nat) ≤ bc ∧ 108 ≤ bs) <|
      bP (l_13037 l0 l1 l4 l5 l15 0 S) fun r14 =>
      gd (vi l15 (S.2 l14).length) <|
      bS (lSet S l14 l15 r14) fun S15 =>
      l_13041_L475 n l0 l1 l2 l3 l4 l5 l6 l7 l8 l9 l10 l11 l12 l13 l14 (l15 + 1) (bc - 18) (bs - 108) S15
def l_13041_J451 (l0 : Nat) (l1 : Nat) (l2 : Nat) (l3 : Nat) (l4 : Nat) (l5 : Nat) (l6 : Nat) (l7 : Int32) (l8 : Int32) (l9 : Int32) (l10 : Int32) (k0 : Int32) (bc bs : Nat) (S : Lx) : Option (Lx × Int32) :=
  gd ((1 : Nat) ≤ bc ∧ 30 ≤ bs) <|
  bS (lNew S 30) fun S16 =>
  l_13041_L475 40 l0 l1 l2 l3 l4 l5 l6 l7 l8 l9 l10 k0 ((8 * l10) + k0) 0 (tZ S.1) 0 (bc - 1) (bs - 30) S16
def l_13041_J122 (l0 : Nat) (l1 : Nat) (l2 : Nat) (l3 : Nat) (l4 : Nat) (l5 : Nat) (l6 : Nat) (l7 : Int32) (l8 : Int32) (l9 : Int32) (l10 : Int32) (l11 : Int32) (l12 : Int32) (l13 : Int32) (k0 : Int32) (k1 : Int32) (bc bs : Nat) (S : Lx) : Option (Lx × Int32) :=
  if k1 = k0 then
    gd (tK S.1 l0 = 12) <|
    gd ((6 : Nat) ≤ bc ∧ 80 ≤ bs) <|
    bO (h_13010 l0 0 l11 S.1) fun T18 r18 => bS (lT S T18) fun S18 =>
    if r18 = (-1000002) then
      gd (vi 2 (S18.2 l6).length) <|
      gd (tK S18.1 l0 = 12) <|
      gd ((6 : Nat) ≤ (bc - 6) ∧ 80 ≤ (bs - 80)) <|
      bO (h_13010 l0 1 ((xg (S18.2 l6) 2) - 1) S18.1) fun T20 r20 => bS (lT S18 T20) fun S20 =>
      if r20 = (-1000002) then
        some (S20, 1)
      else
        some (S20, 0)
    else
      some (S18, 0)
  else
    some (S, 0)
def l_13041_J104 (l0 : Nat) (l1 : Nat) (l2 : Nat) (l3 : Nat) (l4 : Nat) (l5 : Nat) (l6 : Nat) (l7 : Int32) (l8 : Int32) (l9 : Int32) (l10 : Int32) (l11 : Int32) (l12 : Int32) (l13 : Int32) (bc bs : Nat) (S : Lx) : Option (Lx × Int32) :=
  if l12 = 0 then
    l_13041_J122 l0 l1 l2 l3 l4 l5 l6 l7 l8 l9 l10 l11 l12 l13 (-1000003) l13 bc bs S
  else
    gd (vi 0 (S.2 l6).length) <|
    l_13041_J122 l0 l1 l2 l3 l4 l5 l6 l7 l8 l9 l10 l11 l12 l13 ((xg (S.2 l6) 0) - 1) l13 bc bs S
def l_13041_J63 (l0 : Nat) (l1 : Nat) (l2 : Nat) (l3 : Nat) (l4 : Nat) (l5 : Nat) (l6 : Nat) (l7 : Int32) (l8 : Int32) (l9 : Int32) (l10 : Int32) (l11 : Int32) (k0 : Int32) (bc bs : Nat) (S : Lx) : Option (Lx × Int32) :=
  gd (tK S.1 l0 = 12) <|
  gd ((6 : Nat) ≤ bc ∧ 80 ≤ bs) <|
  bO (h_13010 l0 l10 l11 S.1) fun T23 r23 => bS (lT S T23) fun S23 =>
  if k0 = 0 then
    l_13041_J104 l0 l1 l2 l3 l4 l5 l6 l7 l8 l9 l10 l11 k0 r23 (bc - 6) (bs - 80) S23
  else
    gd (vi 0 (S23.2 l6).length) <|
    gd (vi (xg (S23.2 l6) 0) (S23.2 l4).length) <|
    bS (lSet S23 l4 (xg (S23.2 l6) 0) (l10 + (4096 * l11))) fun S25 =>
    gd (vi 0 (S25.2 l6).length) <|
    gd (vi 0 (S25.2 l6).length) <|
    bS (lSet S25 l6 0 ((xg (S25.2 l6) 0) + 1)) fun S26 =>
    l_13041_J104 l0 l1 l2 l3 l4 l5 l6 l7 l8 l9 l10 l11 k0 r23 (bc - 6) (bs - 80) S26
def l_13041_J21 (l0 : Nat) (l1 : Nat) (l2 : Nat) (l3 : Nat) (l4 : Nat) (l5 : Nat) (l6 : Nat) (l7 : Int32) (l8 : Int32) (l9 : Int32) (bc bs : Nat) (S : Lx) : Option (Lx × Int32) :=
  bP (h_13001 l8 300 S.1) fun r27 =>
  gd (vi 2 (S.2 l6).length) <|
  bP (h_13001 (l8 >>> (9 &&& 31)) 9 S.1) fun r28 =>
  gd (vi 0 (S.2 l6).length) <|
  if 4 ≤ (xg (S.2 l6) 0) then
    l_13041_J63 l0 l1 l2 l3 l4 l5 l6 l7 l8 l9 (1 + r27) ((xg (S.2 l6) 2) + r28) 0 bc bs S
  else
    l_13041_J63 l0 l1 l2 l3 l4 l5 l6 l7 l8 l9 (1 + r27) ((xg (S.2 l6) 2) + r28) 1 bc bs S
def l_13041 (x0 : Nat) (x1 : Nat) (x2 : Nat) (x3 : Nat) (x4 : Nat) (x5 : Nat) (x6 : Nat) (x7 : Int32) (x8 : Int32) (S : Lx) : Option (Lx × Int32) :=
  bP (h_13001 x7 12 S.1) fun r30 =>
  gd (vi 0 (S.2 x6).length) <|
  if (xg (S.2 x6) 0) = 0 then
    l_13041_J21 x0 x1 x2 x3 x4 x5 x6 x7 x8 r30 1300 48600 S
  else
    if r30 = 0 then
      l_13041_J21 x0 x1 x2 x3 x4 x5 x6 x7 x8 r30 1300 48600 S
    else
      gd (vi 0 (S.2 x6).length) <|
      bP (h_13001 (x7 >>> (4 &&& 31)) (xg (S.2 x6) 0) S.1) fun r33 =>
      if 4 ≤ r30 then
        if r30 = 4 then
          gd (vi (4 + r33) (S.2 x4).length) <|
          if (xg (S.2 x4) (4 + r33)) = 0 then
            l_13041_J451 x0 x1 x2 x3 x4 x5 x6 x7 x8 r30 r33 0 1300 48600 S
          else
            gd (vi (4 + r33) (S.2 x4).length) <|
            bP (h_13001 x8 (xg (S.2 x4) (4 + r33)) S.1) fun r55 =>
            l_13041_J451 x0 x1 x2 x3 x4 x5 x6 x7 x8 r30 r33 r55 1300 48600 S
        else
          if r30 = 5 then
            bP (h_13001 x8 4 S.1) fun r46 =>
            gd (vi 2 (S.2 x6).length) <|
            gd (vi 2 (S.2 x6).length) <|
            bS (lSet S x6 2 ((xg (S.2 x6) 2) + (1 + r46))) fun S47 =>
            gd (tK S47.1 x0 = 12) <|
            bO (h_13013 x0 (1 + r46) S47.1) fun T48 r48 => bS (lT S47 T48) fun S48 =>
            gd (vi 2 (S48.2 x6).length) <|
            if r48 = (xg (S48.2 x6) 2) then
              gd (tK S48.1 x0 = 12) <|
              bO (h_13013 x0 0 S48.1) fun T50 r50 => bS (lT S48 T50) fun S50 =>
              if r50 = (-1000002) then
                gd (tK S50.1 x0 = 12) <|
                bO (h_13013 x0 101 S50.1) fun T52 r52 => bS (lT S50 T52) fun S52 =>
                if r52 = (-1000002) then
                  some (S52, 1)
                else
                  some (S52, 0)
              else
                some (S50, 0)
            else
              some (S48, 0)
          else
            if 10 ≤ r30 then
              gd (vi 4 (S.2 x6).length) <|
              gd (vi 4 (S.2 x6).length) <|
              bS (lSet S x6 4 ((xg (S.2 x6) 4) + 1)) fun S38 =>
              gd (vi 1 (S38.2 x6).length) <|
              if (xg (S38.2 x6) 1) = 0 then
                gd (tK S38.1 x0 = 12) <|
                bO (h_13025 x0 0 0 S38.1) fun T43 r43 => bS (lT S38 T43) fun S43 =>
                if r43 = (-1000001) then
                  some (S43, 1)
                else
                  some (S43, 0)
              else
                gd (vi 4 (S38.2 x6).length) <|
                if 12 < (xg (S38.2 x6) 4) then
                  some (S38, 1)
                else
                  bO (l_13040 x0 x1 x4 x5 x6 x8 S38) fun S41 r41 =>
                  if r41 = 0 then
                    some (S41, 0)
                  else
                    some (S41, 1)
            else
              bO (l_13039 x0 x2 x3 x4 x5 x6 x8 S) fun S45 r45 =>
              some (S45, r45)
      else
        gd (vi (4 + r33) (S.2 x4).length) <|
        bP (h_13001 x8 3 S.1) fun r56 =>
        bP (h_13001 (x8 >>> (2 &&& 31)) 10 S.1) fun r57 =>
        bP (h_13001 (x8 >>> (5 &&& 31)) 10 S.1) fun r58 =>
        bP (h_13001 (x8 >>> (8 &&& 31)) 12 S.1) fun r59 =>
        bP (h_13001 (x8 >>> (11 &&& 31)) 10 S.1) fun r60 =>
        gd (tK S.1 x0 = 12) <|
        bO (h_13011 x0 r33 (1 + r60) (r59 - 2) r57 r56 r57 r58 S.1) fun T61 r61 => bS (lT S T61) fun S61 =>
        if (xg (S.2 x4) (4 + r33)) = 8 then
          if r61 = (-1000003) then
            some (S61, 1)
          else
            some (S61, 0)
        else
          bP (h_13001 (x8 >>> (11 &&& 31)) 10 S61.1) fun r63 =>
          gd (vi ((8 * r33) + (xg (S.2 x4) (4 + r33))) (S61.2 x1).length) <|
          bS (lSet S61 x1 ((8 * r33) + (xg (S.2 x4) (4 + r33))) (1 + r63)) fun S64 =>
          gd (vi (2 * ((8 * r33) + (xg (S.2 x4) (4 + r33)))) (S64.2 x2).length) <|
          bS (lSet S64 x2 (2 * ((8 * r33) + (xg (S.2 x4) (4 + r33)))) (r59 - 2)) fun S65 =>
          gd (vi ((2 * ((8 * r33) + (xg (S.2 x4) (4 + r33)))) + 1) (S65.2 x2).length) <|
          bS (lSet S65 x2 ((2 * ((8 * r33) + (xg (S.2 x4) (4 + r33)))) + 1) r57) fun S66 =>
          gd (vi ((8 * r33) + (xg (S.2 x4) (4 + r33))) (S66.2 x3).length) <|
          bS (lSet S66 x3 ((8 * r33) + (xg (S.2 x4) (4 + r33))) ((r56 + (4 * r57)) + (64 * r58))) fun S67 =>
          gd (vi (4 + r33) (S67.2 x4).length) <|
          gd (vi (4 + r33) (S67.2 x4).length) <|
          bS (lSet S67 x4 (4 + r33) ((xg (S67.2 x4) (4 + r33)) + 1)) fun S68 =>
          if r61 = (xg (S.2 x4) (4 + r33)) then
            gd (tK S68.1 x0 = 12) <|
            bO (h_13011 x0 r33 0 0 0 0 0 0 S68.1) fun T70 r70 => bS (lT S68 T70) fun S70 =>
            if r70 = (-1000002) then
              gd (tK S70.1 x0 = 12) <|
              bO (h_13011 x0 r33 1 0 0 3 0 0 S70.1) fun T72 r72 => bS (lT S70 T72) fun S72 =>
              if r72 = (-1000002) then
                gd (vi 0 (S72.2 x6).length) <|
                gd (tK S72.1 x0 = 12) <|
                bO (h_13011 x0 (xg (S72.2 x6) 0) 0 0 0 0 0 0 S72.1) fun T74 r74 => bS (lT S72 T74) fun S74 =>
                if r74 = (-1000001) then
                  some (S74, 1)
                else
                  some (S74, 0)
              else
                some (S72, 0)
            else
              some (S70, 0)
          else
            some (S68, 0)
end
