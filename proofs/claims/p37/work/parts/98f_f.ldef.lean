/-! the law: handing in -/
noncomputable section
def l_13039_J333 (l0 : Nat) (l1 : Nat) (l2 : Nat) (l3 : Nat) (l4 : Nat) (l5 : Nat) (l6 : Int32) (l7 : Int32) (l8 : Int32) (l9 : Int32) (l10 : Int32) (l11 : Int32) (bc bs : Nat) (S : Lx) : Option (Lx × Int32) :=
  if l10 = 0 then
    some (S, 0)
  else
    gd (vi (4 + l8) (S.2 l3).length) <|
    gd (tK S.1 l0 = 12) <|
    gd ((2 : Nat) ≤ bc ∧ 12 ≤ bs) <|
    bP (h_13016 l0 l9 (xg (S.2 l3) (4 + l8)) S.1) fun r2 =>
    if r2 = (-1000001) then
      gd (tK S.1 l0 = 12) <|
      gd ((2 : Nat) ≤ (bc - 2) ∧ 12 ≤ (bs - 12)) <|
      bP (h_13015 l0 l9 (-1) S.1) fun r4 =>
      if r4 = (-1000001) then
        some (S, 1)
      else
        some (S, 0)
    else
      some (S, 0)
def l_13039_J317 (k159 : Nat → Nat → Nat → Nat → Nat → Nat → Int32 → Int32 → Int32 → Int32 → Int32 → Int32 → Nat → Nat → Lx → Option (Lx × Int32)) (l0 : Nat) (l1 : Nat) (l2 : Nat) (l3 : Nat) (l4 : Nat) (l5 : Nat) (l6 : Int32) (l7 : Int32) (l8 : Int32) (l9 : Int32) (l10 : Int32) (l11 : Int32) (l12 : Int32) (l13 : Int32) (l14 : Int32) (l15 : Int32) (k0 : Int32) (k1 : Int32) (bc bs : Nat) (S : Lx) : Option (Lx × Int32) :=
  if k1 = k0 then
    k159 l0 l1 l2 l3 l4 l5 l6 l7 l8 l9 1 (l11 + 1) bc bs S
  else
    k159 l0 l1 l2 l3 l4 l5 l6 l7 l8 l9 0 (l11 + 1) bc bs S
def l_13039_J284 (k159 : Nat → Nat → Nat → Nat → Nat → Nat → Int32 → Int32 → Int32 → Int32 → Int32 → Int32 → Nat → Nat → Lx → Option (Lx × Int32)) (l0 : Nat) (l1 : Nat) (l2 : Nat) (l3 : Nat) (l4 : Nat) (l5 : Nat) (l6 : Int32) (l7 : Int32) (l8 : Int32) (l9 : Int32) (l10 : Int32) (l11 : Int32) (l12 : Int32) (l13 : Int32) (l14 : Int32) (k0 : Int32) (bc bs : Nat) (S : Lx) : Option (Lx × Int32) :=
  gd (tK S.1 l0 = 12) <|
  gd ((2 : Nat) ≤ bc ∧ 12 ≤ bs) <|
  bP (h_13016 l0 l9 l11 S.1) fun r7 =>
  if r7 = l13 then
    gd (tK S.1 l0 = 12) <|
    gd ((2 : Nat) ≤ (bc - 2) ∧ 12 ≤ (bs - 12)) <|
    bP (h_13015 l0 l9 l11 S.1) fun r9 =>
    if k0 = 0 then
      l_13039_J317 k159 l0 l1 l2 l3 l4 l5 l6 l7 l8 l9 l10 l11 l12 l13 l14 k0 0 r9 ((bc - 2) - 2) ((bs - 12) - 12) S
    else
      l_13039_J317 k159 l0 l1 l2 l3 l4 l5 l6 l7 l8 l9 l10 l11 l12 l13 l14 k0 1 r9 ((bc - 2) - 2) ((bs - 12) - 12) S
  else
    k159 l0 l1 l2 l3 l4 l5 l6 l7 l8 l9 0 (l11 + 1) (bc - 2) (bs - 12) S
def l_13039_J283 (k159 : Nat → Nat → Nat → Nat → Nat → Nat → Int32 → Int32 → Int32 → Int32 → Int32 → Int32 → Nat → Nat → Lx → Option (Lx × Int32)) (l0 : Nat) (l1 : Nat) (l2 : Nat) (l3 : Nat) (l4 : Nat) (l5 : Nat) (l6 : Int32) (l7 : Int32) (l8 : Int32) (l9 : Int32) (l10 : Int32) (l11 : Int32) (l12 : Int32) (l13 : Int32) (l14 : Int32) (bc bs : Nat) (S : Lx) : Option (Lx × Int32) :=
  l_13039_J284 k159 l0 l1 l2 l3 l4 l5 l6 l7 l8 l9 l10 l11 l12 l13 l14 0 bc bs S
def l_13039_J279 (k159 : Nat → Nat → Nat → Nat → Nat → Nat → Int32 → Int32 → Int32 → Int32 → Int32 → Int32 → Nat → Nat → Lx → Option (Lx × Int32)) (l0 : Nat) (l1 : Nat) (l2 : Nat) (l3 : Nat) (l4 : Nat) (l5 : Nat) (l6 : Int32) (l7 : Int32) (l8 : Int32) (l9 : Int32) (l10 : Int32) (l11 : Int32) (l12 : Int32) (l13 : Int32) (l14 : Int32) (bc bs : Nat) (S : Lx) : Option (Lx × Int32) :=
  l_13039_J284 k159 l0 l1 l2 l3 l4 l5 l6 l7 l8 l9 l10 l11 l12 l13 l14 1 bc bs S
def l_13039_J258 (k159 : Nat → Nat → Nat → Nat → Nat → Nat → Int32 → Int32 → Int32 → Int32 → Int32 → Int32 → Nat → Nat → Lx → Option (Lx × Int32)) (l0 : Nat) (l1 : Nat) (l2 : Nat) (l3 : Nat) (l4 : Nat) (l5 : Nat) (l6 : Int32) (l7 : Int32) (l8 : Int32) (l9 : Int32) (l10 : Int32) (l11 : Int32) (l12 : Int32) (l13 : Int32) (l14 : Int32) (bc bs : Nat) (S : Lx) : Option (Lx × Int32) :=
  if l14 < 2 then
    l_13039_J279 k159 l0 l1 l2 l3 l4 l5 l6 l7 l8 l9 l10 l11 l12 l13 l14 bc bs S
  else
    gd (tK S.1 l0 = 12) <|
    gd ((1 : Nat) ≤ bc ∧ 6 ≤ bs) <|
    bP (h_13008 l0 1 S.1) fun r12 =>
    gd (vi l12 (S.2 l2).length) <|
    gd (¬ (64 : Int32) = 0) <|
    if r12 = ((xg (S.2 l2) l12) / 64) then
      l_13039_J279 k159 l0 l1 l2 l3 l4 l5 l6 l7 l8 l9 l10 l11 l12 l13 l14 (bc - 1) (bs - 6) S
    else
      l_13039_J283 k159 l0 l1 l2 l3 l4 l5 l6 l7 l8 l9 l10 l11 l12 l13 l14 (bc - 1) (bs - 6) S
def l_13039_L159 : Nat → Nat → Nat → Nat → Nat → Nat → Nat → Int32 → Int32 → Int32 → Int32 → Int32 → Int32 → Nat → Nat → Lx → Option (Lx × Int32)
  | 0, _, _, _, _, _, _, _, _, _, _, _, _, _, _, _ => none
  | n + 1, l0, l1, l2, l3, l4, l5, l6, l7, l8, l9, l10, l11, bc, bs, S =>
    gd (vi (4 + l8) (S.2 l3).length) <|
    if (xg (S.2 l3) (4 + l8)) ≤ l11 then
      l_13039_J333 l0 l1 l2 l3 l4 l5 l6 l7 l8 l9 l10 l11 bc bs S
    else
      if l10 = 0 then
        l_13039_J333 l0 l1 l2 l3 l4 l5 l6 l7 l8 l9 l10 l11 bc bs S
      else
        gd (vi l8 (S.2 l3).length) <|
        gd (¬ (4096 : Int32) = 0) <|
        gd (vi (2 * ((8 * l8) + l11)) (S.2 l1).length) <|
        gd (vi ((2 * ((8 * l8) + l11)) + 1) (S.2 l1).length) <|
        gd (tK S.1 l0 = 12) <|
        gd ((42 : Nat) ≤ bc ∧ 3712 ≤ bs) <|
        bO (h_13006 l0 ((xg (S.2 l3) l8) % 4096) (xg (S.2 l1) (2 * ((8 * l8) + l11))) (xg (S.2 l1) ((2 * ((8 * l8) + l11)) + 1)) S.1) fun T16 r16 => bS (lT S T16) fun S16 =>
        gd (vi ((8 * l8) + l11) (S16.2 l2).length) <|
        gd (¬ (4 : Int32) = 0) <|
        if r16 = 0 then
          gd (tK S16.1 l0 = 12) <|
          bP (h_11011 l0 S16.1) fun r18 =>
          if r18 = ((xg (S16.2 l2) ((8 * l8) + l11)) % 4) then
            if ((xg (S16.2 l2) ((8 * l8) + l11)) % 4) < 1 then
              l_13039_J258 (l_13039_L159 n) l0 l1 l2 l3 l4 l5 l6 l7 l8 l9 l10 l11 ((8 * l8) + l11) r16 ((xg (S16.2 l2) ((8 * l8) + l11)) % 4) (bc - 42) (bs - 3712) S16
            else
              gd (tK S16.1 l0 = 12) <|
              gd ((1 : Nat) ≤ (bc - 42) ∧ 6 ≤ (bs - 3712)) <|
              bP (h_13008 l0 0 S16.1) fun r21 =>
              gd (vi ((8 * l8) + l11) (S16.2 l2).length) <|
              gd (¬ (4 : Int32) = 0) <|
              gd (¬ (16 : Int32) = 0) <|
              if r21 = (((xg (S16.2 l2) ((8 * l8) + l11)) / 4) % 16) then
                l_13039_J258 (l_13039_L159 n) l0 l1 l2 l3 l4 l5 l6 l7 l8 l9 l10 l11 ((8 * l8) + l11) r16 ((xg (S16.2 l2) ((8 * l8) + l11)) % 4) ((bc - 42) - 1) ((bs - 3712) - 6) S16
              else
                l_13039_J283 (l_13039_L159 n) l0 l1 l2 l3 l4 l5 l6 l7 l8 l9 l10 l11 ((8 * l8) + l11) r16 ((xg (S16.2 l2) ((8 * l8) + l11)) % 4) ((bc - 42) - 1) ((bs - 3712) - 6) S16
          else
            l_13039_J283 (l_13039_L159 n) l0 l1 l2 l3 l4 l5 l6 l7 l8 l9 l10 l11 ((8 * l8) + l11) r16 ((xg (S16.2 l2) ((8 * l8) + l11)) % 4) (bc - 42) (bs - 3712) S16
        else
          l_13039_J283 (l_13039_L159 n) l0 l1 l2 l3 l4 l5 l6 l7 l8 l9 l10 l11 ((8 * l8) + l11) r16 ((xg (S16.2 l2) ((8 * l8) + l11)) % 4) (bc - 42) (bs - 3712) S16
def l_13039 (x0 : Nat) (x1 : Nat) (x2 : Nat) (x3 : Nat) (x4 : Nat) (x5 : Nat) (x6 : Int32) (S : Lx) : Option (Lx × Int32) :=
  bP (h_13001 x6 6 S.1) fun r23 =>
  gd (vi 0 (S.2 x5).length) <|
  bP (h_13001 (x6 >>> (3 &&& 31)) (xg (S.2 x5) 0) S.1) fun r24 =>
  gd (tK S.1 x0 = 12) <|
  bO (h_13014 x0 r23 r24 S.1) fun T25 r25 => bS (lT S T25) fun S25 =>
  gd (vi 1 (S25.2 x5).length) <|
  if (xg (S25.2 x5) 1) = 30 then
    if r25 = (-1000003) then
      some (S25, 1)
    else
      some (S25, 0)
  else
    gd (vi 1 (S25.2 x5).length) <|
    gd (vi 2 (S25.2 x5).length) <|
    gd (vi (xg (S25.2 x5) 1) (S25.2 x4).length) <|
    bS (lSet S25 x4 (xg (S25.2 x5) 1) ((r23 + (8 * r24)) + (32 * (xg (S25.2 x5) 2)))) fun S27 =>
    gd (vi 1 (S27.2 x5).length) <|
    gd (vi 1 (S27.2 x5).length) <|
    bS (lSet S27 x5 1 ((xg (S27.2 x5) 1) + 1)) fun S28 =>
    gd (vi 1 (S28.2 x5).length) <|
    if r25 = ((xg (S28.2 x5) 1) - 1) then
      gd (tK S28.1 x0 = 12) <|
      bP (h_13022 x0 r25 S28.1) fun r30 =>
      gd (vi 3 (S28.2 x5).length) <|
      if r30 = (xg (S28.2 x5) 3) then
        gd (tK S28.1 x0 = 12) <|
        bP (h_13023 x0 r25 r25 S28.1) fun r32 =>
        gd (vi 3 (S28.2 x5).length) <|
        if r32 = (xg (S28.2 x5) 3) then
          gd (tK S28.1 x0 = 12) <|
          bP (h_13024 x0 r25 r25 S28.1) fun r34 =>
          if r34 = 100 then
            gd (tK S28.1 x0 = 12) <|
            bO (h_13014 x0 6 0 S28.1) fun T36 r36 => bS (lT S28 T36) fun S36 =>
            if r36 = (-1000001) then
              l_13039_L159 12 x0 x1 x2 x3 x4 x5 x6 r23 r24 r25 1 0 430 30040 S36
            else
              l_13039_L159 12 x0 x1 x2 x3 x4 x5 x6 r23 r24 r25 0 0 430 30040 S36
          else
            l_13039_L159 12 x0 x1 x2 x3 x4 x5 x6 r23 r24 r25 0 0 560 39240 S28
        else
          l_13039_L159 12 x0 x1 x2 x3 x4 x5 x6 r23 r24 r25 0 0 566 39276 S28
      else
        l_13039_L159 12 x0 x1 x2 x3 x4 x5 x6 r23 r24 r25 0 0 569 39294 S28
    else
      l_13039_L159 12 x0 x1 x2 x3 x4 x5 x6 r23 r24 r25 0 0 570 39300 S28
end
