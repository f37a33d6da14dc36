/-! the law: how it tries a draft -/
noncomputable section
def l_13035_L404 : Nat → Nat → Int32 → Int32 → Int32 → Int32 → Int32 → Int32 → Nat → Nat → Int32 → Int32 → Nat → Nat → Lx → Option (Lx × Int32)
  | 0, _, _, _, _, _, _, _, _, _, _, _, _, _, _ => none
  | n + 1, l0, l1, l2, l3, l4, l5, l6, l7, l8, l9, l10, bc, bs, S =>
    gd (tK S.1 l0 = 12) <|
    bP (h_11011 l0 S.1) fun r1 =>
    if r1 ≤ l10 then
      gd (l9 = 0 ∨ l9 = 1) <|
      some (S, l9)
    else
      if l9 = 0 then
        l_13035_L404 n l0 l1 l2 l3 l4 l5 l6 l7 l8 0 (l10 + 1) bc bs S
      else
        gd (tK S.1 l0 = 12) <|
        gd ((1 : Nat) ≤ bc ∧ 6 ≤ bs) <|
        bP (h_13008 l0 l10 S.1) fun r4 =>
        gd (vi l10 (S.2 l7).length) <|
        if r4 = (xg (S.2 l7) l10) then
          l_13035_L404 n l0 l1 l2 l3 l4 l5 l6 l7 l8 1 (l10 + 1) (bc - 1) (bs - 6) S
        else
          l_13035_L404 n l0 l1 l2 l3 l4 l5 l6 l7 l8 0 (l10 + 1) (bc - 1) (bs - 6) S
def l_13035_J351 (l0 : Nat) (l1 : Int32) (l2 : Int32) (l3 : Int32) (l4 : Int32) (l5 : Int32) (l6 : Int32) (l7 : Nat) (l8 : Nat) (l9 : Int32) (l10 : Int32) (bc bs : Nat) (S : Lx) : Option (Lx × Int32) :=
  if l9 = 0 then
    gd (l9 = 0 ∨ l9 = 1) <|
    some (S, l9)
  else
    if l1 ≤ l5 then
      gd (l9 = 0 ∨ l9 = 1) <|
      some (S, l9)
    else
      gd (tK S.1 l0 = 12) <|
      gd ((42 : Nat) ≤ bc ∧ 3712 ≤ bs) <|
      bO (h_13006 l0 ((l1 - l5) - 1) l2 l3 S.1) fun T8 r8 => bS (lT S T8) fun S8 =>
      if r8 = 1 then
        gd (tK S8.1 l0 = 12) <|
        bP (h_11013 l0 S8.1) fun r10 =>
        if r10 = 0 then
          gd (tK S8.1 l0 = 12) <|
          bP (h_11011 l0 S8.1) fun r12 =>
          if l6 < r12 then
            l_13035_L404 40 l0 l1 l2 l3 l4 l5 l6 l7 l8 0 0 (bc - 42) (bs - 3712) S8
          else
            l_13035_L404 40 l0 l1 l2 l3 l4 l5 l6 l7 l8 1 0 (bc - 42) (bs - 3712) S8
        else
          l_13035_L404 40 l0 l1 l2 l3 l4 l5 l6 l7 l8 0 0 (bc - 42) (bs - 3712) S8
      else
        l_13035_L404 40 l0 l1 l2 l3 l4 l5 l6 l7 l8 0 0 (bc - 42) (bs - 3712) S8
def l_13035_L306 (k175 : Nat → Int32 → Int32 → Int32 → Int32 → Int32 → Int32 → Nat → Nat → Int32 → Int32 → Nat → Nat → Lx → Option (Lx × Int32)) : Nat → Nat → Int32 → Int32 → Int32 → Int32 → Int32 → Int32 → Nat → Nat → Int32 → Int32 → Int32 → Int32 → Nat → Nat → Lx → Option (Lx × Int32)
  | 0, _, _, _, _, _, _, _, _, _, _, _, _, _, _, _, _ => none
  | n + 1, l0, l1, l2, l3, l4, l5, l6, l7, l8, l9, l10, l11, l12, bc, bs, S =>
    if 32 ≤ l12 then
      k175 l0 l1 l2 l3 l4 l5 l6 l7 l8 l9 (l10 + 1) bc bs S
    else
      if l9 = 0 then
        l_13035_L306 k175 n l0 l1 l2 l3 l4 l5 l6 l7 l8 0 l10 l11 (l12 + 1) bc bs S
      else
        gd (tK S.1 l0 = 12) <|
        gd ((1 : Nat) ≤ bc ∧ 6 ≤ bs) <|
        bP (h_13009 l0 l12 S.1) fun r16 =>
        gd (vi l12 (S.2 l8).length) <|
        if r16 = (xg (S.2 l8) l12) then
          l_13035_L306 k175 n l0 l1 l2 l3 l4 l5 l6 l7 l8 1 l10 l11 (l12 + 1) (bc - 1) (bs - 6) S
        else
          l_13035_L306 k175 n l0 l1 l2 l3 l4 l5 l6 l7 l8 0 l10 l11 (l12 + 1) (bc - 1) (bs - 6) S
def l_13035_L264 (k175 : Nat → Int32 → Int32 → Int32 → Int32 → Int32 → Int32 → Nat → Nat → Int32 → Int32 → Nat → Nat → Lx → Option (Lx × Int32)) : Nat → Nat → Int32 → Int32 → Int32 → Int32 → Int32 → Int32 → Nat → Nat → Int32 → Int32 → Int32 → Int32 → Nat → Nat → Lx → Option (Lx × Int32)
  | 0, _, _, _, _, _, _, _, _, _, _, _, _, _, _, _, _ => none
  | n + 1, l0, l1, l2, l3, l4, l5, l6, l7, l8, l9, l10, l11, l12, bc, bs, S =>
    if l6 ≤ l12 then
      l_13035_L306 k175 40 l0 l1 l2 l3 l4 l5 l6 l7 l8 l9 l10 l11 0 bc bs S
    else
      if l9 = 0 then
        l_13035_L264 k175 n l0 l1 l2 l3 l4 l5 l6 l7 l8 0 l10 l11 (l12 + 1) bc bs S
      else
        gd (tK S.1 l0 = 12) <|
        gd ((1 : Nat) ≤ bc ∧ 6 ≤ bs) <|
        bP (h_13008 l0 l12 S.1) fun r20 =>
        gd (vi l12 (S.2 l7).length) <|
        if r20 = (xg (S.2 l7) l12) then
          l_13035_L264 k175 n l0 l1 l2 l3 l4 l5 l6 l7 l8 1 l10 l11 (l12 + 1) (bc - 1) (bs - 6) S
        else
          l_13035_L264 k175 n l0 l1 l2 l3 l4 l5 l6 l7 l8 0 l10 l11 (l12 + 1) (bc - 1) (bs - 6) S
def l_13035_J226 (k175 : Nat → Int32 → Int32 → Int32 → Int32 → Int32 → Int32 → Nat → Nat → Int32 → Int32 → Nat → Nat → Lx → Option (Lx × Int32)) (l0 : Nat) (l1 : Int32) (l2 : Int32) (l3 : Int32) (l4 : Int32) (l5 : Int32) (l6 : Int32) (l7 : Nat) (l8 : Nat) (l9 : Int32) (l10 : Int32) (l11 : Int32) (k0 : Int32) (bc bs : Nat) (S : Lx) : Option (Lx × Int32) :=
  if k0 = l4 then
    gd (tK S.1 l0 = 12) <|
    bP (h_11013 l0 S.1) fun r23 =>
    if r23 = ((l11 - l1) + l5) then
      gd (tK S.1 l0 = 12) <|
      bP (h_11011 l0 S.1) fun r25 =>
      if r25 = l6 then
        l_13035_L264 k175 40 l0 l1 l2 l3 l4 l5 l6 l7 l8 1 l10 l11 0 bc bs S
      else
        l_13035_L264 k175 40 l0 l1 l2 l3 l4 l5 l6 l7 l8 0 l10 l11 0 bc bs S
    else
      l_13035_L264 k175 40 l0 l1 l2 l3 l4 l5 l6 l7 l8 0 l10 l11 0 bc bs S
  else
    l_13035_L264 k175 40 l0 l1 l2 l3 l4 l5 l6 l7 l8 0 l10 l11 0 bc bs S
def l_13035_J199 (k175 : Nat → Int32 → Int32 → Int32 → Int32 → Int32 → Int32 → Nat → Nat → Int32 → Int32 → Nat → Nat → Lx → Option (Lx × Int32)) (l0 : Nat) (l1 : Int32) (l2 : Int32) (l3 : Int32) (l4 : Int32) (l5 : Int32) (l6 : Int32) (l7 : Nat) (l8 : Nat) (l9 : Int32) (l10 : Int32) (k0 : Int32) (bc bs : Nat) (S : Lx) : Option (Lx × Int32) :=
  if l10 = 1 then
    gd (tK S.1 l0 = 12) <|
    gd ((42 : Nat) ≤ bc ∧ 3712 ≤ bs) <|
    bO (h_13006 l0 k0 l2 l3 S.1) fun T29 r29 => bS (lT S T29) fun S29 =>
    l_13035_J226 k175 l0 l1 l2 l3 l4 l5 l6 l7 l8 l9 l10 k0 r29 (bc - 42) (bs - 3712) S29
  else
    gd (tK S.1 l0 = 12) <|
    gd ((42 : Nat) ≤ bc ∧ 3712 ≤ bs) <|
    bO (h_13007 l0 k0 l2 l3 S.1) fun T28 r28 => bS (lT S T28) fun S28 =>
    l_13035_J226 k175 l0 l1 l2 l3 l4 l5 l6 l7 l8 l9 l10 k0 r28 (bc - 42) (bs - 3712) S28
def l_13035_L175 : Nat → Nat → Int32 → Int32 → Int32 → Int32 → Int32 → Int32 → Nat → Nat → Int32 → Int32 → Nat → Nat → Lx → Option (Lx × Int32)
  | 0, _, _, _, _, _, _, _, _, _, _, _, _, _, _ => none
  | n + 1, l0, l1, l2, l3, l4, l5, l6, l7, l8, l9, l10, bc, bs, S =>
    if 3 ≤ l10 then
      l_13035_J351 l0 l1 l2 l3 l4 l5 l6 l7 l8 l9 l10 bc bs S
    else
      if l9 = 0 then
        l_13035_J351 l0 l1 l2 l3 l4 l5 l6 l7 l8 l9 l10 bc bs S
      else
        if l10 = 0 then
          l_13035_J199 (l_13035_L175 n) l0 l1 l2 l3 l4 l5 l6 l7 l8 l9 l10 l1 bc bs S
        else
          l_13035_J199 (l_13035_L175 n) l0 l1 l2 l3 l4 l5 l6 l7 l8 l9 l10 (l1 - l5) bc bs S
def l_13035_L148 : Nat → Nat → Int32 → Int32 → Int32 → Int32 → Int32 → Int32 → Nat → Nat → Int32 → Int32 → Nat → Nat → Lx → Option (Lx × Int32)
  | 0, _, _, _, _, _, _, _, _, _, _, _, _, _, _ => none
  | n + 1, l0, l1, l2, l3, l4, l5, l6, l7, l8, l9, l10, bc, bs, S =>
    if 32 ≤ l10 then
      l_13035_L175 40 l0 l1 l2 l3 l4 l5 l6 l7 l8 l9 0 bc bs S
    else
      gd (tK S.1 l0 = 12) <|
      gd ((1 : Nat) ≤ bc ∧ 6 ≤ bs) <|
      bP (h_13009 l0 l10 S.1) fun r34 =>
      gd (vi l10 (S.2 l8).length) <|
      bS (lSet S l8 l10 r34) fun S35 =>
      l_13035_L148 n l0 l1 l2 l3 l4 l5 l6 l7 l8 l9 (l10 + 1) (bc - 1) (bs - 6) S35
def l_13035_L121 : Nat → Nat → Int32 → Int32 → Int32 → Int32 → Int32 → Int32 → Nat → Nat → Int32 → Int32 → Nat → Nat → Lx → Option (Lx × Int32)
  | 0, _, _, _, _, _, _, _, _, _, _, _, _, _, _ => none
  | n + 1, l0, l1, l2, l3, l4, l5, l6, l7, l8, l9, l10, bc, bs, S =>
    if l6 ≤ l10 then
      l_13035_L148 40 l0 l1 l2 l3 l4 l5 l6 l7 l8 l9 0 bc bs S
    else
      gd (tK S.1 l0 = 12) <|
      gd ((1 : Nat) ≤ bc ∧ 6 ≤ bs) <|
      bP (h_13008 l0 l10 S.1) fun r37 =>
      gd (vi l10 (S.2 l7).length) <|
      bS (lSet S l7 l10 r37) fun S38 =>
      l_13035_L121 n l0 l1 l2 l3 l4 l5 l6 l7 l8 l9 (l10 + 1) (bc - 1) (bs - 6) S38
def l_13035_J79 (l0 : Nat) (l1 : Int32) (l2 : Int32) (l3 : Int32) (l4 : Int32) (l5 : Int32) (l6 : Int32) (l7 : Nat) (l8 : Nat) (bc bs : Nat) (S : Lx) : Option (Lx × Int32) :=
  gd (tK S.1 l0 = 12) <|
  gd ((1 : Nat) ≤ bc ∧ 6 ≤ bs) <|
  bP (h_13008 l0 l6 S.1) fun r39 =>
  if r39 = (-1000001) then
    gd (tK S.1 l0 = 12) <|
    gd ((1 : Nat) ≤ (bc - 1) ∧ 6 ≤ (bs - 6)) <|
    bP (h_13008 l0 (-1) S.1) fun r41 =>
    if r41 = (-1000001) then
      gd (tK S.1 l0 = 12) <|
      gd ((1 : Nat) ≤ ((bc - 1) - 1) ∧ 6 ≤ ((bs - 6) - 6)) <|
      bP (h_13009 l0 32 S.1) fun r43 =>
      if r43 = (-1000001) then
        l_13035_L121 40 l0 l1 l2 l3 l4 l5 l6 l7 l8 1 0 (((bc - 1) - 1) - 1) (((bs - 6) - 6) - 6) S
      else
        l_13035_L121 40 l0 l1 l2 l3 l4 l5 l6 l7 l8 0 0 (((bc - 1) - 1) - 1) (((bs - 6) - 6) - 6) S
    else
      l_13035_L121 40 l0 l1 l2 l3 l4 l5 l6 l7 l8 0 0 ((bc - 1) - 1) ((bs - 6) - 6) S
  else
    l_13035_L121 40 l0 l1 l2 l3 l4 l5 l6 l7 l8 0 0 (bc - 1) (bs - 6) S
def l_13035 (x0 : Nat) (x1 : Int32) (x2 : Int32) (x3 : Int32) (S : Lx) : Option (Lx × Int32) :=
  gd (tK S.1 x0 = 12) <|
  bO (h_13006 x0 x1 x2 x3 S.1) fun T45 r45 => bS (lT S T45) fun S45 =>
  gd (tK S45.1 x0 = 12) <|
  bP (h_11013 x0 S45.1) fun r46 =>
  gd (tK S45.1 x0 = 12) <|
  bP (h_11011 x0 S45.1) fun r47 =>
  bS (lNew S45 8) fun S48 =>
  bS (lNew S48 32) fun S49 =>
  if r45 < 0 then
    l_13035_L121 40 x0 x1 x2 x3 r45 r46 r47 (tZ S45.1) (tZ S48.1) 0 0 416 16248 S49
  else
    if 8 ≤ r45 then
      l_13035_L121 40 x0 x1 x2 x3 r45 r46 r47 (tZ S45.1) (tZ S48.1) 0 0 416 16248 S49
    else
      if r46 < 0 then
        l_13035_L121 40 x0 x1 x2 x3 r45 r46 r47 (tZ S45.1) (tZ S48.1) 0 0 416 16248 S49
      else
        if x1 < r46 then
          l_13035_L121 40 x0 x1 x2 x3 r45 r46 r47 (tZ S45.1) (tZ S48.1) 0 0 416 16248 S49
        else
          if r47 < 0 then
            l_13035_L121 40 x0 x1 x2 x3 r45 r46 r47 (tZ S45.1) (tZ S48.1) 0 0 416 16248 S49
          else
            if 9 ≤ r47 then
              l_13035_L121 40 x0 x1 x2 x3 r45 r46 r47 (tZ S45.1) (tZ S48.1) 0 0 416 16248 S49
            else
              if r45 = 1 then
                if r46 = 0 then
                  l_13035_J79 x0 x1 x2 x3 r45 r46 r47 (tZ S45.1) (tZ S48.1) 416 16248 S49
                else
                  l_13035_L121 40 x0 x1 x2 x3 r45 r46 r47 (tZ S45.1) (tZ S48.1) 0 0 416 16248 S49
              else
                l_13035_J79 x0 x1 x2 x3 r45 r46 r47 (tZ S45.1) (tZ S48.1) 416 16248 S49
end
