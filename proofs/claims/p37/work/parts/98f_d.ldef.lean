/-! the law: marks -/
noncomputable section
def l_13037_J164 (l0 : Nat) (l1 : Nat) (l2 : Nat) (l3 : Nat) (l4 : Int32) (l5 : Int32) (l6 : Int32) (l7 : Int32) (l8 : Int32) (l9 : Int32) (l10 : Int32) (k0 : Int32) (bc bs : Nat) (S : Lx) : Option Int32 :=
  if l5 = 0 then
    gd (vi l4 (S.2 l3).length) <|
    if (xg (S.2 l3) l4) ≤ 65535 then
      gd (¬ (100 : Int32) = 0) <|
      some ((k0 * (100 - l10)) / 100)
    else
      some 0
  else
    some k0
def l_13037_J145 (l0 : Nat) (l1 : Nat) (l2 : Nat) (l3 : Nat) (l4 : Int32) (l5 : Int32) (l6 : Int32) (l7 : Int32) (l8 : Int32) (l9 : Int32) (k0 : Int32) (bc bs : Nat) (S : Lx) : Option Int32 :=
  if l7 = 0 then
    l_13037_J164 l0 l1 l2 l3 l4 l5 l6 l7 l8 l9 k0 0 bc bs S
  else
    gd (¬ (l7 : Int32) = 0) <|
    l_13037_J164 l0 l1 l2 l3 l4 l5 l6 l7 l8 l9 k0 ((100 * l8) / l7) bc bs S
def l_13037_J60 (k20 : Nat → Nat → Nat → Nat → Int32 → Int32 → Int32 → Int32 → Int32 → Int32 → Nat → Nat → Lx → Option Int32) (l0 : Nat) (l1 : Nat) (l2 : Nat) (l3 : Nat) (l4 : Int32) (l5 : Int32) (l6 : Int32) (l7 : Int32) (l8 : Int32) (l9 : Int32) (k0 : Int32) (bc bs : Nat) (S : Lx) : Option Int32 :=
  gd (tK S.1 l0 = 12) <|
  gd ((2 : Nat) ≤ bc ∧ 12 ≤ bs) <|
  bP (h_13015 l0 l4 l9 S.1) fun r4 =>
  if r4 = 1 then
    k20 l0 l1 l2 l3 l4 l5 l6 (l7 + k0) (l8 + k0) (l9 + 1) (bc - 2) (bs - 12) S
  else
    k20 l0 l1 l2 l3 l4 l5 l6 (l7 + k0) (l8 + 0) (l9 + 1) (bc - 2) (bs - 12) S
def l_13037_L20 : Nat → Nat → Nat → Nat → Nat → Int32 → Int32 → Int32 → Int32 → Int32 → Int32 → Nat → Nat → Lx → Option Int32
  | 0, _, _, _, _, _, _, _, _, _, _, _, _, _ => none
  | n + 1, l0, l1, l2, l3, l4, l5, l6, l7, l8, l9, bc, bs, S =>
    gd (vi (4 + l6) (S.2 l2).length) <|
    if (xg (S.2 l2) (4 + l6)) ≤ l9 then
      gd (vi l4 (S.2 l3).length) <|
      gd (¬ (32 : Int32) = 0) <|
      gd (¬ (2048 : Int32) = 0) <|
      gd (vi l6 (S.2 l2).length) <|
      gd (¬ (4096 : Int32) = 0) <|
      if 0 ≤ ((((xg (S.2 l3) l4) / 32) % 2048) - ((xg (S.2 l2) l6) / 4096)) then
        if ((((xg (S.2 l3) l4) / 32) % 2048) - ((xg (S.2 l2) l6) / 4096)) ≤ 5 then
          l_13037_J145 l0 l1 l2 l3 l4 l5 l6 l7 l8 ((((xg (S.2 l3) l4) / 32) % 2048) - ((xg (S.2 l2) l6) / 4096)) (10 * ((((xg (S.2 l3) l4) / 32) % 2048) - ((xg (S.2 l2) l6) / 4096))) bc bs S
        else
          l_13037_J145 l0 l1 l2 l3 l4 l5 l6 l7 l8 ((((xg (S.2 l3) l4) / 32) % 2048) - ((xg (S.2 l2) l6) / 4096)) 50 bc bs S
      else
        l_13037_J145 l0 l1 l2 l3 l4 l5 l6 l7 l8 ((((xg (S.2 l3) l4) / 32) % 2048) - ((xg (S.2 l2) l6) / 4096)) 0 bc bs S
    else
      gd (vi ((8 * l6) + l9) (S.2 l1).length) <|
      if (xg (S.2 l1) ((8 * l6) + l9)) ≤ 15 then
        gd (vi ((8 * l6) + l9) (S.2 l1).length) <|
        l_13037_J60 (l_13037_L20 n) l0 l1 l2 l3 l4 l5 l6 l7 l8 l9 (xg (S.2 l1) ((8 * l6) + l9)) bc bs S
      else
        l_13037_J60 (l_13037_L20 n) l0 l1 l2 l3 l4 l5 l6 l7 l8 l9 0 bc bs S
def l_13037 (x0 : Nat) (x1 : Nat) (x2 : Nat) (x3 : Nat) (x4 : Int32) (x5 : Int32) (S : Lx) : Option Int32 :=
  gd (vi x4 (S.2 x3).length) <|
  gd (¬ (8 : Int32) = 0) <|
  gd (¬ (4 : Int32) = 0) <|
  l_13037_L20 12 x0 x1 x2 x3 x4 x5 (((xg (S.2 x3) x4) / 8) % 4) 0 0 0 18 108 S
end
