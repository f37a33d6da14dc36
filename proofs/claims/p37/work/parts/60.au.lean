/-! an automaton over the reader's state: the reference's way through the tokens, in the class's own words -/
abbrev Ae := Int32 × Int32 × Int32 × Int32 × Int32 × Int32
abbrev Au := Sx × Int32 × List Ae × List Ae
abbrev Ar := Au ⊕ (Int32 × Int32)
def lvK (k : Int32) : Int32 := f_9003 k (fun _ => [], fun _ => 0)
theorem lvK_eq (k : Int32) (s : Sx) : f_9003 k s = lvK k := by
  unfold lvK f_9003
  rfl
def au_nx (s : Sx) : Sx := sV s 2 (s.2 2 + 1)
def au_ko (s : Sx) : Int32 := xg (s.1 0) (s.2 2)
def au_cd (c x : Int32) (s : Sx) : Sx := (f_4005 c x s).1
def au_cn (s : Sx) : Int32 := nI (s.1 7).length - 1
def au_pt (x : Int32) (s : Sx) : Sx := f_4009 x (f_4006 s) s
def au_sv (t x : Int32) (s : Sx) : Sx := sB s 1 (xset (s.1 1) t x)
def au_pop (e : Ae) (s : Sx) : Sx :=
  if e.1 = 23 ∨ e.1 = 24 then au_sv e.2.1 (s.2 2) (au_pt e.2.2.1 (au_cd 10 0 s)) else au_cd 9 e.1 s
def au_fl (lv : Int32) : List Ae → Sx → List Ae × Sx
  | [], s => ([], s)
  | e :: r, s => if lv ≤ lvK e.1 then au_fl lv r (au_pop e s) else (e :: r, s)
def au_dn (s : Sx) : Sx := sV s 4 (s.2 4 - 1)
def au_en (bl : List Ae) : List Ae → Sx → Au
  | [], s => (s, 4, [], bl)
  | e :: r, s =>
    if e.1 = 40 then au_en bl r (au_cd 8 e.2.1 (au_dn s))
    else if e.1 = 48 then (au_dn s, 6, (49, e.2) :: r, bl)
    else if e.1 = 50 then (au_cd 7 0 s, 14, (54, e.2) :: r, bl)
    else (s, 4, e :: r, bl)
def au_up (s : Sx) : Sx := au_nx (sV s 4 (s.2 4 + 1))
def au_lv (s : Sx) (k : Sx → Ar) : Ar := if s.2 4 < 8 then k (au_up s) else .inr (4, s.2 2)
def au_var (x : Nat) (s : Sx) (k : Sx → Int32 → Ar) : Ar :=
  if xpos (s.1 x) (xg (s.1 1) (s.2 2)) = -1 ∧ ¬ nI (s.1 x).length < 8 then .inr (5, s.2 2)
  else k (f_5022 x s).1 (f_5022 x s).2
def au_sk (x : Int32) (s : Sx) : Sx := sB s 0 (xset (s.1 0) (s.2 2) x)
def au_ca (k : Nat) (x : Int32) (s : Sx) : Sx := sB s k (xadd (ev_cap k) (s.1 k) x)
def au_call (s : Sx) (op bl : List Ae) : Ar :=
  .inl (au_nx (au_sk 35 (au_ca 17 0 (au_ca 16 0 (au_ca 15 (s.2 2) s)))), 13, (42, nI (s.1 15).length, 0, s.2 2 + 1, 0, 0) :: op, bl)
def au_rs (k : Nat) (i x : Int32) (s : Sx) : Sx := sB s k (xset (s.1 k) i x)
/-- the ) of a call -/
def au_clz (c n : Int32) (s : Sx) : Sx :=
  au_rs 17 c (au_cn (au_cd 15 0 (au_rs 16 c n (au_dn (au_nx s))))) (au_cd 15 0 (au_rs 16 c n (au_dn (au_nx s))))
def au_ep (p : Int32) (s : Sx) : Sx := f_4003 p (s.2 2) s
def au_bp (s : Sx) : Sx := (f_4002 (s.2 2) s).1
def au_pn (s : Sx) : Int32 := nI (s.1 5).length - 1
def au_st (s : Sx) (bl : List Ae) : Ar :=
  if au_ko s = 4 then
    if xg (s.1 0) (s.2 2 + 1) = 28 then au_call (au_cd 0 0 (au_bp s)) [(50, au_pn (au_bp s), s.2 2, 0, 0, 0)] bl
    else au_var (f_5004 s) (au_cd 0 0 (au_bp s)) fun s2 v => .inl (s2, 5, [(43, au_pn (au_bp s), s.2 2, v, 0, 0)], bl)
  else if au_ko s = 26 then au_lv (au_sk 37 (au_cd 0 0 (au_bp s))) fun s2 => .inl (s2, 2, [(48, au_pn (au_bp s), s.2 2, 0, 0, 0)], bl)
  else if au_ko s = 8 then .inl (au_nx (au_cd 0 0 (au_bp s)), 2, [(44, au_pn (au_bp s), s.2 2, 0, 0, 0)], bl)
  else if au_ko s = 5 then .inl (au_nx (au_cd 0 0 (au_bp s)), 2, [(46, au_pn (au_bp s), s.2 2, 0, 0, 0)], bl)
  else if au_ko s = 7 then .inl (au_cd 0 0 (au_nx (au_bp s)), 2, [(47, au_pn (au_bp s), s.2 2, au_cn (au_cd 0 0 (au_nx (au_bp s))), 0, 0)], bl)
  else if au_ko s = 11 then
    if s.2 5 = 0 then .inr (3, s.2 2) else .inl (au_nx (au_cd 0 0 (au_bp s)), 2, [(45, au_pn (au_bp s), s.2 2, 0, 0, 0)], bl)
  else if au_ko s = 10 then
    if s.2 4 ≤ 0 then .inl (au_nx (au_bp s), 8, [(53, au_pn (au_bp s), s.2 2, 0, 0, 0)], bl) else .inr (3, s.2 2)
  else .inr (if au_ko s = 0 ∧ bl.isEmpty = true then 99 else 3, s.2 2)
/-- blocks: (kind of its statement, part, where its codes wait to be told, the codes that ask, owner, start) -/
def au_clb (b : Ae) (s : Sx) : Sx := au_dn (au_nx (au_sv (s.2 2) b.2.2.2.2.1 (au_sv b.2.2.2.2.2 (s.2 2 + 1) s)))
def au_cls (s : Sx) (b : Ae) (bl : List Ae) : Au :=
  if b.1 = 5 then (au_clb b s, 1, [(51, b.2.1, b.2.2.1, 0, 0, 0)], bl)
  else if b.1 = 6 then (au_ep b.2.1 (au_pt b.2.2.1 (au_clb b s)), 0, [], bl)
  else if b.1 = 7 then (au_ep b.2.1 (au_pt b.2.2.1 (au_cd 13 b.2.2.2.1 (au_clb b s))), 0, [], bl)
  else (au_ep b.2.1 (au_sv b.2.2.2.2.1 (s.2 2 + 1) (au_pt b.2.2.1 (au_cd 16 0 (au_cd 1 0 (sV (au_clb b s) 5 0))))), 0, [], bl)
/-- a statement, or the end of a block -/
def au_s0 (s : Sx) (bl : List Ae) : Ar :=
  if au_ko s = 31 then
    match bl with
    | [] => .inr (3, s.2 2)
    | b :: r => .inl (au_cls s b r)
  else au_st s bl
def au_opd (s : Sx) (st : Int32) (op bl : List Ae) : Ar :=
  if au_ko s = 3 then .inl (au_en bl op (au_nx (au_cd 1 (xg (s.1 1) (s.2 2)) s)))
  else if au_ko s = 9 then .inl (au_en bl op (au_nx (au_cd 5 0 s)))
  else if au_ko s = 28 then au_lv s fun s2 => .inl (s2, 2, (41, s.2 2, 0, 0, 0, 0) :: op, bl)
  else if au_ko s = 13 then au_lv (au_sk 36 s) fun s2 => .inl (s2, 2, (40, 36, s.2 2, 0, 0, 0) :: op, bl)
  else if au_ko s = 25 ∨ au_ko s = 26 then au_lv s fun s2 => .inl (s2, 2, (40, au_ko s, s.2 2, 0, 0, 0) :: op, bl)
  else if au_ko s = 4 then
    if xg (s.1 0) (s.2 2 + 1) = 28 then au_call s op bl
    else au_var (f_5004 s) s fun s2 v => .inl (au_en bl op (au_cd 2 v s2))
  else if au_ko s = 29 ∧ st = 3 then
    match op with
    | [] => .inr (3, s.2 2)
    | e :: r => .inl (au_en bl r (au_clz e.2.1 e.2.2.1 s))
  else .inr (3, s.2 2)
def au_opr (s : Sx) (op bl : List Ae) : Ar :=
  if 0 < lvK (au_ko s) ∧ lvK (au_ko s) < 7 then
    if au_ko s = 23 ∨ au_ko s = 24 then
      .inl (au_cd (if au_ko s = 23 then 11 else 12) 0 (au_nx (au_fl (lvK (au_ko s)) op s).2), 2,
        (au_ko s, s.2 2, au_cn (au_cd (if au_ko s = 23 then 11 else 12) 0 (au_nx (au_fl (lvK (au_ko s)) op s).2)), 0, 0, 0) :: (au_fl (lvK (au_ko s)) op s).1, bl)
    else .inl (au_nx (au_fl (lvK (au_ko s)) op s).2, 2, (au_ko s, s.2 2, 0, 0, 0, 0) :: (au_fl (lvK (au_ko s)) op s).1, bl)
  else
    match (au_fl 1 op s).1 with
    | [] => .inr (3, s.2 2)
    | e :: r =>
      if au_ko s = 29 ∧ e.1 = 41 then .inl (au_en bl r (au_dn (au_nx (au_fl 1 op s).2)))
      else if au_ko s = 29 ∧ e.1 = 42 then .inl (au_en bl r (au_clz e.2.1 (e.2.2.1 + 1) (au_fl 1 op s).2))
      else if au_ko s = 32 ∧ e.1 = 42 then .inl (au_nx (au_fl 1 op s).2, 2, (42, e.2.1, e.2.2.1 + 1, e.2.2.2) :: r, bl)
      else if au_ko s = 33 ∧ e.1 = 43 then .inl (au_ep e.2.1 (au_nx (au_cd 3 e.2.2.2.1 (au_fl 1 op s).2)), 0, r, bl)
      else if au_ko s = 33 ∧ e.1 = 44 then .inl (au_ep e.2.1 (au_nx (au_cd 6 0 (au_fl 1 op s).2)), 0, r, bl)
      else if au_ko s = 33 ∧ e.1 = 45 then .inl (au_ep e.2.1 (au_nx (au_cd 16 0 (au_fl 1 op s).2)), 0, r, bl)
      else if au_ko s = 33 ∧ e.1 = 49 then .inl (au_ep e.2.1 (au_nx (au_cd 4 0 (au_fl 1 op s).2)), 0, r, bl)
      else if au_ko s = 30 ∧ e.1 = 46 then
        au_lv (au_cd 14 0 (au_fl 1 op s).2) fun s2 => .inl (s2, 0, r, (5, e.2.1, au_cn (au_cd 14 0 (au_fl 1 op s).2), 0, e.2.2.1, s.2 2) :: bl)
      else if au_ko s = 30 ∧ e.1 = 47 then
        au_lv (au_cd 14 0 (au_fl 1 op s).2) fun s2 => .inl (s2, 0, r, (7, e.2.1, au_cn (au_cd 14 0 (au_fl 1 op s).2), e.2.2.2.1, e.2.2.1, s.2 2) :: bl)
      else .inr (3, s.2 2)
/-- the ) behind parameters -/
def au_pz (d : Int32) (s : Sx) : Sx :=
  sV (f_4011 d (nI (s.1 14).length) (s.2 2 + 1) (f_4006 s) (au_dn (au_nx s))) 5 1
def au_prm (s : Sx) (op bl : List Ae) : Ar :=
  if au_ko s = 4 then
    if xpos (s.1 14) (xg (s.1 1) (s.2 2)) = -1 then au_var 14 s fun s2 _ => .inl (s2, 12, op, bl)
    else .inr (6, s.2 2)
  else .inr (3, s.2 2)
def au_pcl (s : Sx) (op bl : List Ae) : Ar :=
  match op with
  | [] => .inr (3, s.2 2)
  | e :: r => .inl (au_pz e.2.2.2.2.1 s, 7, e :: r, bl)
def au_dfw (s : Sx) (op bl : List Ae) : Ar :=
  if au_ko s = 4 then
    if f_4012 (xg (s.1 1) (s.2 2)) s = -1 then
      match op with
      | [] => .inr (3, s.2 2)
      | e :: r => .inl (sB (au_cd 13 0 (au_nx (au_sk 35 (f_4010 (xg (s.1 1) (s.2 2)) s).1))) 14 [], 9,
          (53, e.2.1, e.2.2.1, au_cn (au_cd 13 0 (au_nx (au_sk 35 (f_4010 (xg (s.1 1) (s.2 2)) s).1))), (f_4010 (xg (s.1 1) (s.2 2)) s).2, 0) :: r, bl)
    else .inr (6, s.2 2)
  else .inr (3, s.2 2)
/-- what is settled behind the block of an if without else -/
def au_set : Au → Au
  | (s, st, op, bl) =>
    if st = 1 ∧ au_ko s ≠ 6 then
      match op with
      | [] => (s, 0, [], bl)
      | e :: r => (au_ep e.2.1 (au_pt e.2.2.1 s), 0, r, bl)
    else (s, st, op, bl)
def au_acc0 (s : Sx) (st : Int32) (op bl : List Ae) : Ar :=
  if st = 0 then au_s0 s bl
  else if st = 1 then
    match op with
    | [] => .inr (3, s.2 2)
    | e :: r => .inl (au_pt e.2.2.1 (au_cd 13 0 (au_nx s)), 7, (52, e.2.1, s.2 2, au_cn (au_cd 13 0 (au_nx s)), 0, 0) :: r, bl)
  else if st = 2 ∨ st = 3 then au_opd s st op bl
  else if st = 4 then au_opr s op bl
  else if st = 5 ∨ st = 6 then if au_ko s = 27 then .inl (au_nx s, 2, op, bl) else .inr (3, s.2 2)
  else if st = 7 then
    match op with
    | [] => .inr (3, s.2 2)
    | e :: r =>
      if au_ko s = 30 then
        au_lv s fun s2 => .inl (s2, 0, r, (if e.1 = 52 then 6 else 10, e.2.1, e.2.2.2.1, 0, e.2.2.1, s.2 2) :: bl)
      else .inr (3, s.2 2)
  else if st = 8 then au_dfw s op bl
  else if st = 9 then if au_ko s = 28 then au_lv s fun s2 => .inl (s2, 10, op, bl) else .inr (3, s.2 2)
  else if st = 10 then if au_ko s = 29 then au_pcl s op bl else au_prm s op bl
  else if st = 11 then au_prm s op bl
  else if st = 12 then
    if au_ko s = 32 then .inl (au_nx s, 11, op, bl)
    else if au_ko s = 29 then au_pcl s op bl
    else .inr (3, s.2 2)
  else if st = 13 then au_lv (au_sk 38 s) fun s2 => .inl (s2, 3, op, bl)
  else
    match op with
    | [] => .inr (3, s.2 2)
    | e :: r => if au_ko s = 33 then .inl (au_ep e.2.1 (au_nx s), 0, r, bl) else .inr (3, s.2 2)
def au_acc (A : Au) : Ar := au_acc0 (au_set A).1 (au_set A).2.1 (au_set A).2.2.1 (au_set A).2.2.2
def au_it : Nat → Au → Ar
  | 0, A => .inl A
  | k + 1, A => match au_acc A with
    | .inl B => au_it k B
    | .inr f => .inr f
