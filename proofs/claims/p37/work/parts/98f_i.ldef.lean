/-! the law: an act -/
noncomputable section
def l_13042_J100 (l0 : Nat) (l1 : Nat) (l2 : Nat) (l3 : Nat) (l4 : Nat) (l5 : Nat) (l6 : Nat) (l7 : Int32) (l8 : Int32) (l9 : Int32) (k0 : Int32) (k1 : Nat) (bc bs : Nat) (S : Lx) : Option (Lx × Int32) :=
  bP (h_13001 (l8 >>> (8 &&& 31)) 12 S.1) fun r1 =>
  bP (h_13001 (l7 >>> (6 &&& 31)) 9 S.1) fun r2 =>
  gd ((460 : Nat) ≤ bc ∧ 20000 ≤ bs) <|
  bO (l_13035 k1 k0 (r1 - 2) r2 S) fun S3 r3 =>
  if r3 = 0 then
    some (S3, 0)
  else
    some (S3, 1)
def l_13042_J22 (l0 : Nat) (l1 : Nat) (l2 : Nat) (l3 : Nat) (l4 : Nat) (l5 : Nat) (l6 : Nat) (l7 : Int32) (l8 : Int32) (l9 : Int32) (bc bs : Nat) (S : Lx) : Option (Lx × Int32) :=
  gd ((180 : Nat) ≤ bc ∧ 15000 ≤ bs) <|
  bO (l_13033 l0 l6 l8 S) fun S5 r5 =>
  some (S5, r5)
def l_13042 (x0 : Nat) (x1 : Nat) (x2 : Nat) (x3 : Nat) (x4 : Nat) (x5 : Nat) (x6 : Nat) (x7 : Int32) (x8 : Int32) (S : Lx) : Option (Lx × Int32) :=
  bP (h_13001 x7 20 S.1) fun r6 =>
  gd (tK S.1 x0 = 12) <|
  bP (h_11004 x0 S.1) fun r7 =>
  if r7 = 0 then
    l_13042_J22 x0 x1 x2 x3 x4 x5 x6 x7 x8 r6 1310 48700 S
  else
    if 2 ≤ r6 then
      if 7 ≤ r6 then
        if 10 ≤ r6 then
          if r6 = 10 then
            bO (l_13036 x0 x6 (x7 >>> (5 &&& 31)) x8 S) fun S14 r14 =>
            some (S14, r14)
          else
            bO (l_13041 x0 x1 x2 x3 x4 x5 x6 (x7 >>> (5 &&& 31)) x8 S) fun S13 r13 =>
            some (S13, r13)
        else
          gd (vi 5 (S.2 x6).length) <|
          gd (vi 5 (S.2 x6).length) <|
          bS (lSet S x6 5 ((xg (S.2 x6) 5) + 1)) fun S15 =>
          gd (vi 5 (S15.2 x6).length) <|
          if 30 < (xg (S15.2 x6) 5) then
            some (S15, 1)
          else
            bP (h_13001 x8 3 S15.1) fun r17 =>
            if r17 = 0 then
              l_13042_J100 x0 x1 x2 x3 x4 x5 x6 x7 x8 r6 200 x0 1310 48700 S15
            else
              bP (h_13001 (x8 >>> (2 &&& 31)) 60 S15.1) fun r19 =>
              l_13042_J100 x0 x1 x2 x3 x4 x5 x6 x7 x8 r6 r19 x0 1310 48700 S15
      else
        bO (l_13034 x0 x6 (x7 >>> (5 &&& 31)) x8 S) fun S20 r20 =>
        some (S20, r20)
    else
      l_13042_J22 x0 x1 x2 x3 x4 x5 x6 x7 x8 r6 1310 48700 S
end
