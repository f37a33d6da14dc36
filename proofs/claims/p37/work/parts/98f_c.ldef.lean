/-! the law: how it spoils a draft -/
noncomputable section
def l_13036_J311 (l0 : Nat) (l1 : Nat) (l2 : Int32) (l3 : Int32) (l4 : Int32) (l5 : Int32) (l6 : Int32) (l7 : Int32) (l8 : Int32) (l9 : Int32) (l10 : Int32) (k0 : Int32) (bc bs : Nat) (S : Lx) : Option (Lx × Int32) :=
  if k0 = 0 then
    some (S, 0)
  else
    gd (tK S.1 l0 = 12) <|
    gd ((1 : Nat) ≤ bc ∧ 6 ≤ bs) <|
    bO (h_13003 l0 ((l4 + l9) + 3) S.1) fun T2 r2 => bS (lT S T2) fun S2 =>
    if r2 = (-1000002) then
      gd (tK S2.1 l0 = 12) <|
      gd ((1 : Nat) ≤ (bc - 1) ∧ 6 ≤ (bs - 6)) <|
      bO (h_13003 l0 (l9 + 2) S2.1) fun T4 r4 => bS (lT S2 T4) fun S4 =>
      if r4 = l4 then
        gd (tK S4.1 l0 = 12) <|
        gd ((40 : Nat) ≤ ((bc - 1) - 1) ∧ 3700 ≤ ((bs - 6) - 6)) <|
        bO (h_11006 l0 S4.1) fun T6 r6 => bS (lT S4 T6) fun S6 =>
        if r6 = 0 then
          gd (tK S6.1 l0 = 12) <|
          gd ((41 : Nat) ≤ (((bc - 1) - 1) - 40) ∧ 3706 ≤ (((bs - 6) - 6) - 3700)) <|
          bO (h_13005 l0 S6.1) fun T8 r8 => bS (lT S6 T8) fun S8 =>
          gd (vi 3 (S8.2 l1).length) <|
          if r8 = (xg (S8.2 l1) 3) then
            gd (tK S8.1 l0 = 12) <|
            gd ((1 : Nat) ≤ ((((bc - 1) - 1) - 40) - 41) ∧ 6 ≤ ((((bs - 6) - 6) - 3700) - 3706)) <|
            bP (h_13004 l0 l4 S8.1) fun r10 =>
            if r10 = (-1000001) then
              some (S8, 1)
            else
              some (S8, 0)
          else
            some (S8, 0)
        else
          some (S6, 0)
      else
        some (S4, 0)
    else
      some (S2, 0)
def l_13036_J310 (l0 : Nat) (l1 : Nat) (l2 : Int32) (l3 : Int32) (l4 : Int32) (l5 : Int32) (l6 : Int32) (l7 : Int32) (l8 : Int32) (l9 : Int32) (l10 : Int32) (bc bs : Nat) (S : Lx) : Option (Lx × Int32) :=
  l_13036_J311 l0 l1 l2 l3 l4 l5 l6 l7 l8 l9 l10 0 bc bs S
def l_13036_L239 : Nat → Nat → Nat → Int32 → Int32 → Int32 → Int32 → Int32 → Int32 → Int32 → Int32 → Int32 → Nat → Nat → Lx → Option (Lx × Int32)
  | 0, _, _, _, _, _, _, _, _, _, _, _, _, _, _ => none
  | n + 1, l0, l1, l2, l3, l4, l5, l6, l7, l8, l9, l10, bc, bs, S =>
    if l9 ≤ l10 then
      if l7 = 0 then
        l_13036_J310 l0 l1 l2 l3 l4 l5 l6 l7 l8 l9 l10 bc bs S
      else
        gd (tK S.1 l0 = 12) <|
        gd ((40 : Nat) ≤ bc ∧ 3700 ≤ bs) <|
        bO (h_11006 l0 S.1) fun T14 r14 => bS (lT S T14) fun S14 =>
        if r14 = l8 then
          gd (tK S14.1 l0 = 12) <|
          gd ((40 : Nat) ≤ (bc - 40) ∧ 3700 ≤ (bs - 3700)) <|
          bO (h_11007 l0 S14.1) fun T16 r16 => bS (lT S14 T16) fun S16 =>
          if r16 = l4 then
            l_13036_J311 l0 l1 l2 l3 l4 l5 l6 l7 l8 l9 l10 1 ((bc - 40) - 40) ((bs - 3700) - 3700) S16
          else
            l_13036_J310 l0 l1 l2 l3 l4 l5 l6 l7 l8 l9 l10 ((bc - 40) - 40) ((bs - 3700) - 3700) S16
        else
          l_13036_J310 l0 l1 l2 l3 l4 l5 l6 l7 l8 l9 l10 (bc - 40) (bs - 3700) S14
    else
      if l7 = 0 then
        l_13036_L239 n l0 l1 l2 l3 l4 l5 l6 0 l8 l9 (l10 + 1) bc bs S
      else
        bP (h_13001 (l3 >>> (l10 &&& 31)) 90 S.1) fun r19 =>
        gd ((2 : Nat) ≤ bc ∧ 12 ≤ bs) <|
        bO (h_13028 l0 (33 + r19) S.1) fun T20 r20 => bS (lT S T20) fun S20 =>
        if r20 = 0 then
          l_13036_L239 n l0 l1 l2 l3 l4 l5 l6 0 l8 l9 (l10 + 1) (bc - 2) (bs - 12) S20
        else
          l_13036_L239 n l0 l1 l2 l3 l4 l5 l6 1 l8 l9 (l10 + 1) (bc - 2) (bs - 12) S20
def l_13036_J199 (l0 : Nat) (l1 : Nat) (l2 : Int32) (l3 : Int32) (l4 : Int32) (l5 : Int32) (l6 : Int32) (k0 : Int32) (bc bs : Nat) (S : Lx) : Option (Lx × Int32) :=
  gd (tK S.1 l0 = 12) <|
  gd ((40 : Nat) ≤ bc ∧ 3700 ≤ bs) <|
  bO (h_11006 l0 S.1) fun T22 r22 => bS (lT S T22) fun S22 =>
  bP (h_13001 l3 9 S22.1) fun r23 =>
  if k0 = 0 then
    l_13036_L239 12 l0 l1 l2 l3 l4 l5 l6 0 r22 r23 0 (bc - 40) (bs - 3700) S22
  else
    gd ((2 : Nat) ≤ (bc - 40) ∧ 12 ≤ (bs - 3700)) <|
    bO (h_13028 l0 32 S22.1) fun T25 r25 => bS (lT S22 T25) fun S25 =>
    if r25 = 0 then
      l_13036_L239 12 l0 l1 l2 l3 l4 l5 l6 0 r22 r23 0 ((bc - 40) - 2) ((bs - 3700) - 12) S25
    else
      l_13036_L239 12 l0 l1 l2 l3 l4 l5 l6 1 r22 r23 0 ((bc - 40) - 2) ((bs - 3700) - 12) S25
def l_13036_J198 (l0 : Nat) (l1 : Nat) (l2 : Int32) (l3 : Int32) (l4 : Int32) (l5 : Int32) (l6 : Int32) (bc bs : Nat) (S : Lx) : Option (Lx × Int32) :=
  l_13036_J199 l0 l1 l2 l3 l4 l5 l6 0 bc bs S
def l_13036_J191 (l0 : Nat) (l1 : Nat) (l2 : Int32) (l3 : Int32) (l4 : Int32) (l5 : Int32) (l6 : Int32) (k0 : Int32) (k1 : Int32) (bc bs : Nat) (S : Lx) : Option (Lx × Int32) :=
  if k1 = k0 then
    l_13036_J199 l0 l1 l2 l3 l4 l5 l6 1 bc bs S
  else
    l_13036_J198 l0 l1 l2 l3 l4 l5 l6 bc bs S
def l_13036_J134 (l0 : Nat) (l1 : Nat) (l2 : Int32) (l3 : Int32) (l4 : Int32) (l5 : Int32) (l6 : Int32) (k0 : Int32) (k1 : Int32) (bc bs : Nat) (S : Lx) : Option (Lx × Int32) :=
  if k1 = k0 then
    gd (tK S.1 l0 = 12) <|
    gd ((40 : Nat) ≤ bc ∧ 3700 ≤ bs) <|
    bO (h_11007 l0 S.1) fun T29 r29 => bS (lT S T29) fun S29 =>
    if r29 = l4 then
      gd (tK S29.1 l0 = 12) <|
      gd ((41 : Nat) ≤ (bc - 40) ∧ 3706 ≤ (bs - 3700)) <|
      bO (h_13005 l0 S29.1) fun T31 r31 => bS (lT S29 T31) fun S31 =>
      if r31 = (-1000003) then
        gd (tK S31.1 l0 = 12) <|
        gd ((42 : Nat) ≤ ((bc - 40) - 41) ∧ 3712 ≤ ((bs - 3700) - 3706)) <|
        bO (h_13006 l0 9 0 0 S31.1) fun T33 r33 => bS (lT S31 T33) fun S33 =>
        if r33 = (-1000003) then
          gd (vi 0 (S33.2 l1).length) <|
          gd (tK S33.1 l0 = 12) <|
          gd ((130 : Nat) ≤ (((bc - 40) - 41) - 42) ∧ 9200 ≤ (((bs - 3700) - 3706) - 3712)) <|
          bO (h_13014 l0 0 ((xg (S33.2 l1) 0) - 1) S33.1) fun T35 r35 => bS (lT S33 T35) fun S35 =>
          gd (vi 0 (S35.2 l1).length) <|
          if (xg (S35.2 l1) 0) = 0 then
            l_13036_J191 l0 l1 l2 l3 l4 l5 l6 (-1000001) r35 ((((bc - 40) - 41) - 42) - 130) ((((bs - 3700) - 3706) - 3712) - 9200) S35
          else
            l_13036_J191 l0 l1 l2 l3 l4 l5 l6 (-1000003) r35 ((((bc - 40) - 41) - 42) - 130) ((((bs - 3700) - 3706) - 3712) - 9200) S35
        else
          l_13036_J198 l0 l1 l2 l3 l4 l5 l6 (((bc - 40) - 41) - 42) (((bs - 3700) - 3706) - 3712) S33
      else
        l_13036_J198 l0 l1 l2 l3 l4 l5 l6 ((bc - 40) - 41) ((bs - 3700) - 3706) S31
    else
      l_13036_J198 l0 l1 l2 l3 l4 l5 l6 (bc - 40) (bs - 3700) S29
  else
    l_13036_J198 l0 l1 l2 l3 l4 l5 l6 bc bs S
def l_13036_J129 (l0 : Nat) (l1 : Nat) (l2 : Int32) (l3 : Int32) (l4 : Int32) (l5 : Int32) (l6 : Int32) (k0 : Int32) (bc bs : Nat) (S : Lx) : Option (Lx × Int32) :=
  l_13036_J134 l0 l1 l2 l3 l4 l5 l6 1 k0 bc bs S
def l_13036_J102 (l0 : Nat) (l1 : Nat) (l2 : Int32) (l3 : Int32) (l4 : Int32) (l5 : Int32) (k0 : Int32) (bc bs : Nat) (S : Lx) : Option (Lx × Int32) :=
  gd ((2 : Nat) ≤ bc ∧ 12 ≤ bs) <|
  bO (h_13028 l0 k0 S.1) fun T37 r37 => bS (lT S T37) fun S37 =>
  if r37 = 0 then
    l_13036_J198 l0 l1 l2 l3 l4 l5 k0 (bc - 2) (bs - 12) S37
  else
    gd (tK S37.1 l0 = 12) <|
    gd ((40 : Nat) ≤ (bc - 2) ∧ 3700 ≤ (bs - 12)) <|
    bO (h_11006 l0 S37.1) fun T39 r39 => bS (lT S37 T39) fun S39 =>
    if l5 = 2 then
      l_13036_J129 l0 l1 l2 l3 l4 l5 k0 r39 ((bc - 2) - 40) ((bs - 12) - 3700) S39
    else
      if l5 = 3 then
        l_13036_J129 l0 l1 l2 l3 l4 l5 k0 r39 ((bc - 2) - 40) ((bs - 12) - 3700) S39
      else
        l_13036_J134 l0 l1 l2 l3 l4 l5 k0 3 r39 ((bc - 2) - 40) ((bs - 12) - 3700) S39
def l_13036 (x0 : Nat) (x1 : Nat) (x2 : Int32) (x3 : Int32) (S : Lx) : Option (Lx × Int32) :=
  gd (tK S.1 x0 = 12) <|
  bP (h_11004 x0 S.1) fun r42 =>
  if r42 ≤ 280 then
    bP (h_13001 x2 7 S.1) fun r44 =>
    if r44 = 0 then
      l_13036_J102 x0 x1 x2 x3 r42 r44 125 620 44000 S
    else
      if r44 = 1 then
        l_13036_J102 x0 x1 x2 x3 r42 r44 41 620 44000 S
      else
        if r44 = 2 then
          l_13036_J102 x0 x1 x2 x3 r42 r44 38 620 44000 S
        else
          if r44 = 3 then
            l_13036_J102 x0 x1 x2 x3 r42 r44 65 620 44000 S
          else
            if r44 = 4 then
              l_13036_J102 x0 x1 x2 x3 r42 r44 59 620 44000 S
            else
              if r44 = 5 then
                l_13036_J102 x0 x1 x2 x3 r42 r44 53 620 44000 S
              else
                l_13036_J102 x0 x1 x2 x3 r42 r44 61 620 44000 S
  else
    gd (tK S.1 x0 = 12) <|
    bO (h_11006 x0 S.1) fun T51 r51 => bS (lT S T51) fun S51 =>
    if r51 = 0 then
      some (S51, 1)
    else
      some (S51, 0)
end
