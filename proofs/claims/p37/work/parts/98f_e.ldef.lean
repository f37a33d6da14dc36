/-! the law: all marks -/
noncomputable section
def l_13038_J237 (k166 : Nat → Nat → Nat → Nat → Nat → Int32 → Int32 → Int32 → Int32 → Int32 → Nat → Nat → Lx → Option (Lx × Int32)) (k183 : Nat → Nat → Nat → Nat → Nat → Int32 → Int32 → Int32 → Int32 → Int32 → Int32 → Int32 → Nat → Nat → Lx → Option (Lx × Int32)) (l0 : Nat) (l1 : Nat) (l2 : Nat) (l3 : Nat) (l4 : Nat) (l5 : Int32) (l6 : Int32) (l7 : Int32) (l8 : Int32) (l9 : Int32) (l10 : Int32) (l11 : Int32) (l12 : Int32) (k0 : Int32) (k1 : Int32) (bc bs : Nat) (S : Lx) : Option (Lx × Int32) :=
  if l12 = 0 then
    k183 l0 l1 l2 l3 l4 l5 l6 l7 l8 l9 (k1 + k0) (l11 + 1) bc bs S
  else
    gd (tK S.1 l0 = 12) <|
    gd ((2 : Nat) ≤ bc ∧ 12 ≤ bs) <|
    bP (h_13015 l0 l11 l9 S.1) fun r2 =>
    if r2 = 1 then
      gd (tK S.1 l0 = 12) <|
      gd ((2 : Nat) ≤ (bc - 2) ∧ 12 ≤ (bs - 12)) <|
      bP (h_13016 l0 l11 l9 S.1) fun r4 =>
      if r4 = 0 then
        k183 l0 l1 l2 l3 l4 l5 l6 l7 l8 l9 (k1 + k0) (l11 + 1) ((bc - 2) - 2) ((bs - 12) - 12) S
      else
        some (S, 0)
    else
      k183 l0 l1 l2 l3 l4 l5 l6 l7 l8 l9 (k1 + k0) (l11 + 1) (bc - 2) (bs - 12) S
def l_13038_J236 (k166 : Nat → Nat → Nat → Nat → Nat → Int32 → Int32 → Int32 → Int32 → Int32 → Nat → Nat → Lx → Option (Lx × Int32)) (k183 : Nat → Nat → Nat → Nat → Nat → Int32 → Int32 → Int32 → Int32 → Int32 → Int32 → Int32 → Nat → Nat → Lx → Option (Lx × Int32)) (l0 : Nat) (l1 : Nat) (l2 : Nat) (l3 : Nat) (l4 : Nat) (l5 : Int32) (l6 : Int32) (l7 : Int32) (l8 : Int32) (l9 : Int32) (l10 : Int32) (l11 : Int32) (l12 : Int32) (k0 : Int32) (bc bs : Nat) (S : Lx) : Option (Lx × Int32) :=
  l_13038_J237 k166 k183 l0 l1 l2 l3 l4 l5 l6 l7 l8 l9 l10 l11 l12 0 k0 bc bs S
def l_13038_J211 (k166 : Nat → Nat → Nat → Nat → Nat → Int32 → Int32 → Int32 → Int32 → Int32 → Nat → Nat → Lx → Option (Lx × Int32)) (k183 : Nat → Nat → Nat → Nat → Nat → Int32 → Int32 → Int32 → Int32 → Int32 → Int32 → Int32 → Nat → Nat → Lx → Option (Lx × Int32)) (l0 : Nat) (l1 : Nat) (l2 : Nat) (l3 : Nat) (l4 : Nat) (l5 : Int32) (l6 : Int32) (l7 : Int32) (l8 : Int32) (l9 : Int32) (l10 : Int32) (l11 : Int32) (k0 : Int32) (bc bs : Nat) (S : Lx) : Option (Lx × Int32) :=
  if k0 = 0 then
    l_13038_J236 k166 k183 l0 l1 l2 l3 l4 l5 l6 l7 l8 l9 l10 l11 k0 l10 bc bs S
  else
    gd (tK S.1 l0 = 12) <|
    gd ((2 : Nat) ≤ bc ∧ 12 ≤ bs) <|
    bP (h_13015 l0 l11 l9 S.1) fun r7 =>
    if r7 = 1 then
      l_13038_J237 k166 k183 l0 l1 l2 l3 l4 l5 l6 l7 l8 l9 l10 l11 k0 1 l10 (bc - 2) (bs - 12) S
    else
      l_13038_J236 k166 k183 l0 l1 l2 l3 l4 l5 l6 l7 l8 l9 l10 l11 k0 l10 (bc - 2) (bs - 12) S
def l_13038_L183 (k166 : Nat → Nat → Nat → Nat → Nat → Int32 → Int32 → Int32 → Int32 → Int32 → Nat → Nat → Lx → Option (Lx × Int32)) : Nat → Nat → Nat → Nat → Nat → Nat → Int32 → Int32 → Int32 → Int32 → Int32 → Int32 → Int32 → Nat → Nat → Lx → Option (Lx × Int32)
  | 0, _, _, _, _, _, _, _, _, _, _, _, _, _, _, _ => none
  | n + 1, l0, l1, l2, l3, l4, l5, l6, l7, l8, l9, l10, l11, bc, bs, S =>
    gd (vi 1 (S.2 l4).length) <|
    if (xg (S.2 l4) 1) ≤ l11 then
      gd (tK S.1 l0 = 12) <|
      gd ((2 : Nat) ≤ bc ∧ 12 ≤ bs) <|
      bP (h_13021 l0 l7 l9 S.1) fun r10 =>
      if r10 = l10 then
        k166 l0 l1 l2 l3 l4 l5 l6 l7 l8 (l9 + 1) (bc - 2) (bs - 12) S
      else
        some (S, 0)
    else
      gd (vi l11 (S.2 l3).length) <|
      gd (¬ (8 : Int32) = 0) <|
      gd (¬ (4 : Int32) = 0) <|
      if (((xg (S.2 l3) l11) / 8) % 4) = l7 then
        l_13038_J211 k166 (l_13038_L183 k166 n) l0 l1 l2 l3 l4 l5 l6 l7 l8 l9 l10 l11 1 bc bs S
      else
        l_13038_J211 k166 (l_13038_L183 k166 n) l0 l1 l2 l3 l4 l5 l6 l7 l8 l9 l10 l11 0 bc bs S
def l_13038_L166 : Nat → Nat → Nat → Nat → Nat → Nat → Int32 → Int32 → Int32 → Int32 → Int32 → Nat → Nat → Lx → Option (Lx × Int32)
  | 0, _, _, _, _, _, _, _, _, _, _, _, _, _ => none
  | n + 1, l0, l1, l2, l3, l4, l5, l6, l7, l8, l9, bc, bs, S =>
    gd (vi (4 + l7) (S.2 l2).length) <|
    if (xg (S.2 l2) (4 + l7)) ≤ l9 then
      gd (tK S.1 l0 = 12) <|
      gd ((2 : Nat) ≤ bc ∧ 12 ≤ bs) <|
      bP (h_13020 l0 l6 l7 S.1) fun r14 =>
      if r14 = l8 then
        gd (tK S.1 l0 = 12) <|
        bP (h_11021 l0 S.1) fun r16 =>
        gd (vi 1 (S.2 l4).length) <|
        if r16 = (xg (S.2 l4) 1) then
          gd (tK S.1 l0 = 12) <|
          bP (h_11019 l0 S.1) fun r18 =>
          gd (vi 2 (S.2 l4).length) <|
          if r18 = (xg (S.2 l4) 2) then
            gd (vi 1 (S.2 l4).length) <|
            gd (tK S.1 l0 = 12) <|
            gd ((1 : Nat) ≤ (bc - 2) ∧ 6 ≤ (bs - 12)) <|
            bP (h_13018 l0 (xg (S.2 l4) 1) S.1) fun r20 =>
            if r20 = (-1000001) then
              gd (vi (4 + l7) (S.2 l2).length) <|
              gd (tK S.1 l0 = 12) <|
              gd ((2 : Nat) ≤ ((bc - 2) - 1) ∧ 12 ≤ ((bs - 12) - 6)) <|
              bP (h_13021 l0 l7 (xg (S.2 l2) (4 + l7)) S.1) fun r22 =>
              if r22 = (-1000001) then
                gd (tK S.1 l0 = 12) <|
                gd ((2 : Nat) ≤ (((bc - 2) - 1) - 2) ∧ 12 ≤ (((bs - 12) - 6) - 12)) <|
                bP (h_13020 l0 6 0 S.1) fun r24 =>
                if r24 = (-1000001) then
                  some (S, 1)
                else
                  some (S, 0)
              else
                some (S, 0)
            else
              some (S, 0)
          else
            some (S, 0)
        else
          some (S, 0)
      else
        some (S, 0)
    else
      l_13038_L183 (l_13038_L166 n) 40 l0 l1 l2 l3 l4 l5 l6 l7 l8 l9 0 0 bc bs S
def l_13038_J115 (k28 : Nat → Nat → Nat → Nat → Nat → Int32 → Int32 → Int32 → Int32 → Int32 → Nat → Nat → Lx → Option (Lx × Int32)) (l0 : Nat) (l1 : Nat) (l2 : Nat) (l3 : Nat) (l4 : Nat) (l5 : Int32) (l6 : Int32) (l7 : Int32) (l8 : Int32) (l9 : Int32) (l10 : Int32) (l11 : Int32) (bc bs : Nat) (S : Lx) : Option (Lx × Int32) :=
  gd (vi l9 (S.2 l3).length) <|
  gd (¬ (8 : Int32) = 0) <|
  if ((xg (S.2 l3) l9) % 8) = l6 then
    gd (vi l9 (S.2 l3).length) <|
    gd (¬ (8 : Int32) = 0) <|
    gd (¬ (4 : Int32) = 0) <|
    if (((xg (S.2 l3) l9) / 8) % 4) = l7 then
      if l10 ≤ l8 then
        k28 l0 l1 l2 l3 l4 l5 l6 l7 l8 (l9 + 1) bc bs S
      else
        k28 l0 l1 l2 l3 l4 l5 l6 l7 l10 (l9 + 1) bc bs S
    else
      k28 l0 l1 l2 l3 l4 l5 l6 l7 l8 (l9 + 1) bc bs S
  else
    k28 l0 l1 l2 l3 l4 l5 l6 l7 l8 (l9 + 1) bc bs S
def l_13038_J84 (k28 : Nat → Nat → Nat → Nat → Nat → Int32 → Int32 → Int32 → Int32 → Int32 → Nat → Nat → Lx → Option (Lx × Int32)) (l0 : Nat) (l1 : Nat) (l2 : Nat) (l3 : Nat) (l4 : Nat) (l5 : Int32) (l6 : Int32) (l7 : Int32) (l8 : Int32) (l9 : Int32) (l10 : Int32) (k0 : Int32) (bc bs : Nat) (S : Lx) : Option (Lx × Int32) :=
  if k0 = 0 then
    some (S, 0)
  else
    gd (¬ (7 : Int32) = 0) <|
    if ((l9 + l5) % 7) = 0 then
      gd (tK S.1 l0 = 12) <|
      gd ((9 : Nat) ≤ bc ∧ 54 ≤ bs) <|
      bO (h_13019 l0 l9 S.1) fun T31 r31 => bS (lT S T31) fun S31 =>
      if r31 = l10 then
        l_13038_J115 k28 l0 l1 l2 l3 l4 l5 l6 l7 l8 l9 l10 k0 (bc - 9) (bs - 54) S31
      else
        some (S31, 0)
    else
      l_13038_J115 k28 l0 l1 l2 l3 l4 l5 l6 l7 l8 l9 l10 k0 bc bs S
def l_13038_J83 (k28 : Nat → Nat → Nat → Nat → Nat → Int32 → Int32 → Int32 → Int32 → Int32 → Nat → Nat → Lx → Option (Lx × Int32)) (l0 : Nat) (l1 : Nat) (l2 : Nat) (l3 : Nat) (l4 : Nat) (l5 : Int32) (l6 : Int32) (l7 : Int32) (l8 : Int32) (l9 : Int32) (l10 : Int32) (bc bs : Nat) (S : Lx) : Option (Lx × Int32) :=
  l_13038_J84 k28 l0 l1 l2 l3 l4 l5 l6 l7 l8 l9 l10 0 bc bs S
def l_13038_L28 : Nat → Nat → Nat → Nat → Nat → Nat → Int32 → Int32 → Int32 → Int32 → Int32 → Nat → Nat → Lx → Option (Lx × Int32)
  | 0, _, _, _, _, _, _, _, _, _, _, _, _, _ => none
  | n + 1, l0, l1, l2, l3, l4, l5, l6, l7, l8, l9, bc, bs, S =>
    gd (vi 1 (S.2 l4).length) <|
    if (xg (S.2 l4) 1) ≤ l9 then
      l_13038_L166 40 l0 l1 l2 l3 l4 l5 l6 l7 l8 0 bc bs S
    else
      gd ((18 : Nat) ≤ bc ∧ 108 ≤ bs) <|
      bP (l_13037 l0 l1 l2 l3 l9 0 S) fun r34 =>
      gd (tK S.1 l0 = 12) <|
      gd ((1 : Nat) ≤ (bc - 18) ∧ 6 ≤ (bs - 108)) <|
      bP (h_13018 l0 l9 S.1) fun r35 =>
      if r35 = r34 then
        gd (tK S.1 l0 = 12) <|
        gd ((1 : Nat) ≤ ((bc - 18) - 1) ∧ 6 ≤ ((bs - 108) - 6)) <|
        bP (h_13017 l0 l9 S.1) fun r37 =>
        gd ((18 : Nat) ≤ (((bc - 18) - 1) - 1) ∧ 108 ≤ (((bs - 108) - 6) - 6)) <|
        bP (l_13037 l0 l1 l2 l3 l9 1 S) fun r38 =>
        if r37 = r38 then
          l_13038_J84 (l_13038_L28 n) l0 l1 l2 l3 l4 l5 l6 l7 l8 l9 r34 1 ((((bc - 18) - 1) - 1) - 18) ((((bs - 108) - 6) - 6) - 108) S
        else
          l_13038_J83 (l_13038_L28 n) l0 l1 l2 l3 l4 l5 l6 l7 l8 l9 r34 ((((bc - 18) - 1) - 1) - 18) ((((bs - 108) - 6) - 6) - 108) S
      else
        l_13038_J83 (l_13038_L28 n) l0 l1 l2 l3 l4 l5 l6 l7 l8 l9 r34 ((bc - 18) - 1) ((bs - 108) - 6) S
def l_13038 (x0 : Nat) (x1 : Nat) (x2 : Nat) (x3 : Nat) (x4 : Nat) (x5 : Int32) (S : Lx) : Option (Lx × Int32) :=
  bP (h_13001 x5 6 S.1) fun r40 =>
  gd (vi 0 (S.2 x4).length) <|
  bP (h_13001 (x5 >>> (3 &&& 31)) (xg (S.2 x4) 0) S.1) fun r41 =>
  l_13038_L28 40 x0 x1 x2 x3 x4 x5 r40 r41 (-1) 0 3000 18000 S
end
