/-! the names of a def that were left by an earlier text are nothing -/
section VST
variable {tx : List Int32} {s : Sx} {op bl : List Ae} {a L : Nat} {m : Mx}
def Vs (s : Sx) : Sx := sB s 14 []
theorem V_r {j : Nat} (h : j ≠ 14) : (Vs s).1 j = s.1 j := if_neg h
theorem V_2 : (Vs s).2 = s.2 := rfl
theorem V_sB {k : Nat} {xs : List Int32} (h : k ≠ 14) : sB (Vs s) k xs = Vs (sB s k xs) := by
  have e : (fun j => if j = k then xs else if j = 14 then [] else s.1 j) = (fun j => if j = 14 then [] else if j = k then xs else s.1 j) := by
    funext j
    by_cases e1 : j = k
    · rw [if_pos e1, if_neg (by omega), if_pos e1]
    · rw [if_neg e1]
      by_cases e2 : j = 14
      · rw [if_pos e2, if_pos e2]
      · rw [if_neg e2, if_neg e2, if_neg e1]
  show (_, s.2) = _
  exact congrArg (fun f => (f, s.2)) e
theorem V_14 : sB (Vs s) 14 [] = Vs (sB s 14 []) := rfl
theorem V_i : Vs (sB s 14 []) = sB s 14 [] := by
  have e : (fun j => if j = 14 then ([] : List Int32) else if j = 14 then [] else s.1 j) = (fun j => if j = 14 then [] else s.1 j) := by
    funext j
    by_cases e2 : j = 14
    · rw [if_pos e2, if_pos e2]
    · rw [if_neg e2, if_neg e2]
  show (_, s.2) = _
  exact congrArg (fun f => (f, s.2)) e
theorem V_sV {k : Nat} {x : Int32} : sV (Vs s) k x = Vs (sV s k x) := rfl
theorem V_nx : au_nx (Vs s) = Vs (au_nx s) := rfl
theorem V_dn : au_dn (Vs s) = Vs (au_dn s) := rfl
theorem V_up : au_up (Vs s) = Vs (au_up s) := rfl
theorem V_ko : au_ko (Vs s) = au_ko s := rfl
theorem V_0 : (Vs s).1 0 = s.1 0 := rfl
theorem V_1 : (Vs s).1 1 = s.1 1 := rfl
theorem V_13 : (Vs s).1 13 = s.1 13 := rfl
theorem V_15 : (Vs s).1 15 = s.1 15 := rfl
theorem cd_e {c x : Int32} (s : Sx) : au_cd c x s = sB (sB s 7 (xadd (ev_cap 7) (s.1 7) c)) 8 (xadd (ev_cap 8) (s.1 8) x) := rfl
theorem V_cd {c x : Int32} : au_cd c x (Vs s) = Vs (au_cd c x s) := by
  rw [cd_e, cd_e, ← V_sB (by decide), ← V_sB (by decide), V_r (by decide), V_r (by decide)]
theorem V_pt {x : Int32} : au_pt x (Vs s) = Vs (au_pt x s) := by
  have e : ∀ s : Sx, au_pt x s = sB s 8 (xset (s.1 8) x (nI (s.1 7).length)) := fun _ => rfl
  rw [e, e, ← V_sB (by decide), V_r (by decide), V_r (by decide)]
theorem V_sv {t x : Int32} : au_sv t x (Vs s) = Vs (au_sv t x s) := by
  have e : ∀ s : Sx, au_sv t x s = sB s 1 (xset (s.1 1) t x) := fun _ => rfl
  rw [e, e, ← V_sB (by decide), V_r (by decide)]
theorem V_ep {x : Int32} : au_ep x (Vs s) = Vs (au_ep x s) := by
  have e : ∀ s : Sx, au_ep x s = sB s 6 (xset (s.1 6) x (s.2 2)) := fun _ => rfl
  rw [e, e, ← V_sB (by decide), V_r (by decide), V_2]
theorem V_bp : au_bp (Vs s) = Vs (au_bp s) := by
  have e : ∀ s : Sx, au_bp s = sB (sB s 5 (xadd (ev_cap 5) (s.1 5) (s.2 2))) 6 (xadd (ev_cap 6) (s.1 6) (s.2 2)) := fun _ => rfl
  rw [e, e, ← V_sB (by decide), ← V_sB (by decide), V_r (by decide), V_r (by decide), V_2]
theorem V_sk {x : Int32} : au_sk x (Vs s) = Vs (au_sk x s) := by
  have e : ∀ s : Sx, au_sk x s = sB s 0 (xset (s.1 0) (s.2 2) x) := fun _ => rfl
  rw [e, e, ← V_sB (by decide), V_r (by decide), V_2]
theorem V_ca {k : Nat} {x : Int32} (h : k ≠ 14) : au_ca k x (Vs s) = Vs (au_ca k x s) := by
  unfold au_ca
  rw [← V_sB h, V_r h]
theorem V_rs {k : Nat} {i x : Int32} (h : k ≠ 14) : au_rs k i x (Vs s) = Vs (au_rs k i x s) := by
  unfold au_rs
  rw [← V_sB h, V_r h]
theorem V_cn : au_cn (Vs s) = au_cn s := rfl
theorem V_pn : au_pn (Vs s) = au_pn s := rfl
theorem V_clz {c n : Int32} : au_clz c n (Vs s) = Vs (au_clz c n s) := by
  rw [clz_def, clz_def, V_nx, V_dn, V_rs (by decide), V_cd, V_cn, V_rs (by decide)]
theorem V_clb {b : Ae} : au_clb b (Vs s) = Vs (au_clb b s) := by
  unfold au_clb
  rw [V_2, V_sv, V_sv, V_nx, V_dn]
theorem V_pop {e : Ae} : au_pop e (Vs s) = Vs (au_pop e s) := by
  unfold au_pop
  split
  · rw [V_cd, V_pt, V_2, V_sv]
  · rw [V_cd]
theorem V_fl {lv : Int32} : ∀ (op : List Ae) (s : Sx), au_fl lv op (Vs s) = ((au_fl lv op s).1, Vs (au_fl lv op s).2) := by
  intro op
  induction op with
  | nil => intro s; rfl
  | cons e r ih =>
    intro s
    have hdef : ∀ s, au_fl lv (e :: r) s = if lv ≤ lvK e.1 then au_fl lv r (au_pop e s) else (e :: r, s) := fun _ => rfl
    rw [hdef, hdef]
    split
    · rw [V_pop, ih]
    · rfl
theorem V_en : ∀ (op : List Ae) (s : Sx), au_en bl op (Vs s) = (Vs (au_en bl op s).1, (au_en bl op s).2) := by
  intro op
  induction op with
  | nil => intro s; rfl
  | cons e r ih =>
    intro s
    have hdef : ∀ s, au_en bl (e :: r) s = if e.1 = 40 then au_en bl r (au_cd 8 e.2.1 (au_dn s)) else if e.1 = 48 then (au_dn s, 6, (49, e.2) :: r, bl) else if e.1 = 50 then (au_cd 7 0 s, 14, (54, e.2) :: r, bl) else (s, 4, e :: r, bl) := fun _ => rfl
    rw [hdef, hdef]
    split
    · rw [V_dn, V_cd, ih]
    · split
      · rw [V_dn]
      · split
        · rw [V_cd]
        · rfl
theorem V_J67 {x : Nat} {v : Int32} : f_5022_J67 x v (Vs s) = (Vs (f_5022_J67 x v s).1, (f_5022_J67 x v s).2) := by
  have e : ∀ s : Sx, f_5022_J67 x v s = (au_nx (au_sv (s.2 2) v (au_sk 34 s)), v) := fun _ => rfl
  rw [e, e, V_sk, V_2, V_sv, V_nx]
theorem V_ref {f t : Int32} : f_5005 f t (Vs s) = Vs (f_5005 f t s) := by
  unfold f_5005
  rw [V_2]
  split <;> rfl
theorem V_var : f_5022 13 (Vs s) = (Vs (f_5022 13 s).1, (f_5022 13 s).2) := by
  unfold f_5022
  rw [V_13, V_1, V_2]
  split
  · split
    · rw [V_sB (by decide), bS_eq, bS_eq, V_J67]
    · rw [V_ref]
      rfl
  · rw [V_J67]
theorem V_4010 {x : Int32} : f_4010 x (Vs s) = (Vs (f_4010 x s).1, (f_4010 x s).2) := by
  have e : ∀ s : Sx, f_4010 x s = (sB (sB (sB (sB s 9 (xadd (ev_cap 9) (s.1 9) x)) 10 (xadd (ev_cap 10) (s.1 10) 0)) 11 (xadd (ev_cap 11) (s.1 11) 0)) 12 (xadd (ev_cap 12) (s.1 12) 0), nI (xadd (ev_cap 9) (s.1 9) x).length - 1) := fun _ => rfl
  rw [e, e, ← V_sB (by decide), ← V_sB (by decide), ← V_sB (by decide), ← V_sB (by decide), V_r (by decide), V_r (by decide), V_r (by decide), V_r (by decide)]
abbrev NDf (B : Au) : Prop := B.1.2 5 = 0 ∧ B.2.1 ≠ 9 ∧ B.2.1 ≠ 10 ∧ B.2.1 ≠ 11 ∧ B.2.1 ≠ 12
/-- two outcomes that differ in those names alone -/
def VR (r r' : Ar) : Prop := (∃ f, r = .inr f ∧ r' = .inr f) ∨ ∃ B, r = .inl B ∧ r' = .inl (Vs B.1, B.2) ∧ (NDf B ∨ Vs B.1 = B.1)
theorem VR.r {f : Int32 × Int32} : VR (.inr f) (.inr f) := Or.inl ⟨f, rfl, rfl⟩
theorem VR.l {s : Sx} {st : Int32} {op bl : List Ae} (h : s.2 5 = 0) (h2 : st ≠ 9 ∧ st ≠ 10 ∧ st ≠ 11 ∧ st ≠ 12) : VR (.inl (s, st, op, bl)) (.inl (Vs s, st, op, bl)) := Or.inr ⟨_, rfl, rfl, Or.inl ⟨h, h2⟩⟩
theorem VR.l2 {B : Au} (h : B.1.2 5 = 0) (h2 : B.2.1 ≠ 9 ∧ B.2.1 ≠ 10 ∧ B.2.1 ≠ 11 ∧ B.2.1 ≠ 12) : VR (.inl B) (.inl (Vs B.1, B.2)) := Or.inr ⟨_, rfl, rfl, Or.inl ⟨h, h2⟩⟩
theorem VR.ite {c : Prop} [Decidable c] {x y x' y' : Ar} (h1 : c → VR x x') (h2 : ¬ c → VR y y') : VR (if c then x else y) (if c then x' else y') := by
  by_cases q : c
  · rw [if_pos q, if_pos q]; exact h1 q
  · rw [if_neg q, if_neg q]; exact h2 q
theorem VR.lv {s : Sx} {k k' : Sx → Ar} (h : VR (k (au_up s)) (k' (Vs (au_up s)))) : VR (au_lv s k) (au_lv (Vs s) k') := by
  unfold au_lv
  rw [V_2, V_up]
  exact VR.ite (fun _ => h) (fun _ => VR.r)
theorem VR.var {s : Sx} {k k' : Sx → Int32 → Ar} (h : VR (k (f_5022 13 s).1 (f_5022 13 s).2) (k' (Vs (f_5022 13 s).1) (f_5022 13 s).2)) : VR (au_var 13 s k) (au_var 13 (Vs s) k') := by
  unfold au_var
  rw [V_2, V_13, V_1, V_var]
  exact VR.ite (fun _ => VR.r) (fun _ => h)
theorem fl5 {lv : Int32} : (au_fl lv op s).2.2 5 = s.2 5 := (Co_fl (lv := lv) (op := op) (s := s)).2 5 (by decide)
theorem en5 : ∀ (op : List Ae) (s : Sx), (au_en bl op s).1.2 5 = s.2 5 ∧ ((au_en bl op s).2.1 = 4 ∨ (au_en bl op s).2.1 = 6 ∨ (au_en bl op s).2.1 = 14) := by
  intro op
  induction op with
  | nil => intro s; exact ⟨rfl, Or.inl rfl⟩
  | cons e r ih =>
    intro s
    have hdef : au_en bl (e :: r) s = if e.1 = 40 then au_en bl r (au_cd 8 e.2.1 (au_dn s)) else if e.1 = 48 then (au_dn s, 6, (49, e.2) :: r, bl) else if e.1 = 50 then (au_cd 7 0 s, 14, (54, e.2) :: r, bl) else (s, 4, e :: r, bl) := rfl
    rw [hdef]
    split
    · exact ih _
    · split
      · exact ⟨rfl, Or.inr (Or.inl rfl)⟩
      · split
        · exact ⟨rfl, Or.inr (Or.inr rfl)⟩
        · exact ⟨rfl, Or.inl rfl⟩
theorem VR.en {op : List Ae} {s : Sx} (h : s.2 5 = 0) : VR (.inl (au_en bl op s)) (.inl (au_en bl op (Vs s))) := by
  rw [V_en]
  refine VR.l2 ((en5 op s).1.trans h) ?_
  rcases (en5 (bl := bl) op s).2 with e | e | e <;> rw [e] <;> decide
theorem clz5 {c n : Int32} : (au_clz c n s).2 = (au_dn (au_nx s)).2 := rfl
theorem var5 : (f_5022 13 s).1.2 5 = s.2 5 := by
  unfold f_5022
  split
  · split
    · rfl
    · unfold f_5005
      rw [bS_eq]
      split <;> rfl
  · rfl
theorem V_call (h : s.2 5 = 0) : VR (au_call s op bl) (au_call (Vs s) op bl) := by
  unfold au_call
  rw [V_2, V_ca (by decide), V_ca (by decide), V_ca (by decide), V_sk, V_nx, V_15]
  exact VR.l h (by decide)
theorem V_s0 (h : s.2 5 = 0) : VR (au_s0 s bl) (au_s0 (Vs s) bl) := by
  unfold au_s0
  rw [V_ko]
  refine VR.ite (fun _ => ?_) (fun _ => ?_)
  · cases bl with
    | nil => exact VR.r
    | cons b r =>
      show VR (.inl (au_cls s b r)) (.inl (au_cls (Vs s) b r))
      unfold au_cls
      by_cases e5 : b.1 = 5
      · rw [if_pos e5, if_pos e5]
        exact (by (try simp only [V_bp, V_cd, V_nx, V_sk, V_pn, V_cn, V_pt, V_sv, V_ep, V_clb, V_sV, V_2, V_dn, V_clz, V_15, V_1, V_0]); exact VR.l h (by decide))
      · rw [if_neg e5, if_neg e5]
        by_cases e6 : b.1 = 6
        · rw [if_pos e6, if_pos e6]
          exact (by (try simp only [V_bp, V_cd, V_nx, V_sk, V_pn, V_cn, V_pt, V_sv, V_ep, V_clb, V_sV, V_2, V_dn, V_clz, V_15, V_1, V_0]); exact VR.l h (by decide))
        · rw [if_neg e6, if_neg e6]
          by_cases e7 : b.1 = 7
          · rw [if_pos e7, if_pos e7]
            exact (by (try simp only [V_bp, V_cd, V_nx, V_sk, V_pn, V_cn, V_pt, V_sv, V_ep, V_clb, V_sV, V_2, V_dn, V_clz, V_15, V_1, V_0]); exact VR.l h (by decide))
          · rw [if_neg e7, if_neg e7]
            exact (by (try simp only [V_bp, V_cd, V_nx, V_sk, V_pn, V_cn, V_pt, V_sv, V_ep, V_clb, V_sV, V_2, V_dn, V_clz, V_15, V_1, V_0]); exact VR.l rfl (by decide))
  · have e4 : f_5004 s = 13 := by unfold f_5004; rw [if_pos h]
    have e4' : f_5004 (Vs s) = 13 := e4
    unfold au_st
    rw [V_ko, V_2, V_0, e4, e4']
    refine VR.ite (fun _ => VR.ite (fun _ => (by rw [V_bp, V_cd, V_pn]; exact V_call h)) (fun _ => (by rw [V_bp, V_cd]; exact VR.var (VR.l (var5.trans h) (by decide))))) (fun _ => ?_)
    refine VR.ite (fun _ => (by (try simp only [V_bp, V_cd, V_nx, V_sk, V_pn, V_cn, V_pt, V_sv, V_ep, V_clb, V_sV, V_2, V_dn, V_clz, V_15, V_1, V_0]); exact VR.lv (VR.l h (by decide)))) (fun _ => ?_)
    refine VR.ite (fun _ => (by (try simp only [V_bp, V_cd, V_nx, V_sk, V_pn, V_cn, V_pt, V_sv, V_ep, V_clb, V_sV, V_2, V_dn, V_clz, V_15, V_1, V_0]); exact VR.l h (by decide))) (fun _ => ?_)
    refine VR.ite (fun _ => (by (try simp only [V_bp, V_cd, V_nx, V_sk, V_pn, V_cn, V_pt, V_sv, V_ep, V_clb, V_sV, V_2, V_dn, V_clz, V_15, V_1, V_0]); exact VR.l h (by decide))) (fun _ => ?_)
    refine VR.ite (fun _ => (by (try simp only [V_bp, V_cd, V_nx, V_sk, V_pn, V_cn, V_pt, V_sv, V_ep, V_clb, V_sV, V_2, V_dn, V_clz, V_15, V_1, V_0]); exact VR.l h (by decide))) (fun _ => ?_)
    refine VR.ite (fun _ => VR.ite (fun _ => VR.r) (fun _ => (by (try simp only [V_bp, V_cd, V_nx, V_sk, V_pn, V_cn, V_pt, V_sv, V_ep, V_clb, V_sV, V_2, V_dn, V_clz, V_15, V_1, V_0]); exact VR.l h (by decide)))) (fun _ => ?_)
    exact VR.ite (fun _ => VR.ite (fun _ => (by (try simp only [V_bp, V_cd, V_nx, V_sk, V_pn, V_cn, V_pt, V_sv, V_ep, V_clb, V_sV, V_2, V_dn, V_clz, V_15, V_1, V_0]); exact VR.l h (by decide))) (fun _ => VR.r)) (fun _ => VR.r)
theorem V_opd {st : Int32} (h : s.2 5 = 0) : VR (au_opd s st op bl) (au_opd (Vs s) st op bl) := by
  have e4 : f_5004 s = 13 := by unfold f_5004; rw [if_pos h]
  have e4' : f_5004 (Vs s) = 13 := e4
  unfold au_opd
  rw [V_ko, V_2, V_0, V_1, e4, e4']
  refine VR.ite (fun _ => (by (try simp only [V_bp, V_cd, V_nx, V_sk, V_pn, V_cn, V_pt, V_sv, V_ep, V_clb, V_sV, V_2, V_dn, V_clz, V_15, V_1, V_0]); exact VR.en h)) (fun _ => ?_)
  refine VR.ite (fun _ => (by (try simp only [V_bp, V_cd, V_nx, V_sk, V_pn, V_cn, V_pt, V_sv, V_ep, V_clb, V_sV, V_2, V_dn, V_clz, V_15, V_1, V_0]); exact VR.en h)) (fun _ => ?_)
  refine VR.ite (fun _ => (by (try simp only [V_bp, V_cd, V_nx, V_sk, V_pn, V_cn, V_pt, V_sv, V_ep, V_clb, V_sV, V_2, V_dn, V_clz, V_15, V_1, V_0]); exact VR.lv (VR.l h (by decide)))) (fun _ => ?_)
  refine VR.ite (fun _ => (by (try simp only [V_bp, V_cd, V_nx, V_sk, V_pn, V_cn, V_pt, V_sv, V_ep, V_clb, V_sV, V_2, V_dn, V_clz, V_15, V_1, V_0]); exact VR.lv (VR.l h (by decide)))) (fun _ => ?_)
  refine VR.ite (fun _ => (by (try simp only [V_bp, V_cd, V_nx, V_sk, V_pn, V_cn, V_pt, V_sv, V_ep, V_clb, V_sV, V_2, V_dn, V_clz, V_15, V_1, V_0]); exact VR.lv (VR.l h (by decide)))) (fun _ => ?_)
  refine VR.ite (fun _ => VR.ite (fun _ => V_call h) (fun _ => VR.var ?_)) (fun _ => ?_)
  · rw [V_cd]
    exact VR.en (var5.trans h)
  · refine VR.ite (fun _ => ?_) (fun _ => VR.r)
    cases op with
    | nil => exact VR.r
    | cons e r =>
      show VR (.inl (au_en bl r (au_clz e.2.1 e.2.2.1 s))) (.inl (au_en bl r (au_clz e.2.1 e.2.2.1 (Vs s))))
      rw [V_clz]
      exact VR.en h
theorem V_opr (h : s.2 5 = 0) : VR (au_opr s op bl) (au_opr (Vs s) op bl) := by
  unfold au_opr
  rw [V_ko, V_2, V_fl, V_fl]
  dsimp only
  refine VR.ite (fun _ => ?_) (fun _ => ?_)
  · have h5 : (au_fl (lvK (au_ko s)) op s).2.2 5 = 0 := fl5.trans h
    generalize (au_fl (lvK (au_ko s)) op s).2 = s' at *
    exact VR.ite (fun _ => (by (try simp only [V_bp, V_cd, V_nx, V_sk, V_pn, V_cn, V_pt, V_sv, V_ep, V_clb, V_sV, V_2, V_dn, V_clz, V_15, V_1, V_0]); exact VR.l h5 (by decide))) (fun _ => (by (try simp only [V_bp, V_cd, V_nx, V_sk, V_pn, V_cn, V_pt, V_sv, V_ep, V_clb, V_sV, V_2, V_dn, V_clz, V_15, V_1, V_0]); exact VR.l h5 (by decide)))
  · have h5 : (au_fl 1 op s).2.2 5 = 0 := fl5.trans h
    generalize (au_fl 1 op s).2 = s' at *
    cases (au_fl 1 op s).1 with
    | nil => exact VR.r
    | cons e r =>
      show VR (if au_ko s = 29 ∧ e.1 = 41 then _ else _) (if au_ko s = 29 ∧ e.1 = 41 then _ else _)
      refine VR.ite (fun _ => (by (try simp only [V_bp, V_cd, V_nx, V_sk, V_pn, V_cn, V_pt, V_sv, V_ep, V_clb, V_sV, V_2, V_dn, V_clz, V_15, V_1, V_0]); exact VR.en h5)) (fun _ => ?_)
      refine VR.ite (fun _ => (by (try simp only [V_bp, V_cd, V_nx, V_sk, V_pn, V_cn, V_pt, V_sv, V_ep, V_clb, V_sV, V_2, V_dn, V_clz, V_15, V_1, V_0]); exact VR.en h5)) (fun _ => ?_)
      refine VR.ite (fun _ => (by (try simp only [V_bp, V_cd, V_nx, V_sk, V_pn, V_cn, V_pt, V_sv, V_ep, V_clb, V_sV, V_2, V_dn, V_clz, V_15, V_1, V_0]); exact VR.l h5 (by decide))) (fun _ => ?_)
      refine VR.ite (fun _ => (by (try simp only [V_bp, V_cd, V_nx, V_sk, V_pn, V_cn, V_pt, V_sv, V_ep, V_clb, V_sV, V_2, V_dn, V_clz, V_15, V_1, V_0]); exact VR.l h5 (by decide))) (fun _ => ?_)
      refine VR.ite (fun _ => (by (try simp only [V_bp, V_cd, V_nx, V_sk, V_pn, V_cn, V_pt, V_sv, V_ep, V_clb, V_sV, V_2, V_dn, V_clz, V_15, V_1, V_0]); exact VR.l h5 (by decide))) (fun _ => ?_)
      refine VR.ite (fun _ => (by (try simp only [V_bp, V_cd, V_nx, V_sk, V_pn, V_cn, V_pt, V_sv, V_ep, V_clb, V_sV, V_2, V_dn, V_clz, V_15, V_1, V_0]); exact VR.l h5 (by decide))) (fun _ => ?_)
      refine VR.ite (fun _ => (by (try simp only [V_bp, V_cd, V_nx, V_sk, V_pn, V_cn, V_pt, V_sv, V_ep, V_clb, V_sV, V_2, V_dn, V_clz, V_15, V_1, V_0]); exact VR.l h5 (by decide))) (fun _ => ?_)
      refine VR.ite (fun _ => (by (try simp only [V_bp, V_cd, V_nx, V_sk, V_pn, V_cn, V_pt, V_sv, V_ep, V_clb, V_sV, V_2, V_dn, V_clz, V_15, V_1, V_0]); exact VR.lv (VR.l h5 (by decide)))) (fun _ => ?_)
      exact VR.ite (fun _ => (by (try simp only [V_bp, V_cd, V_nx, V_sk, V_pn, V_cn, V_pt, V_sv, V_ep, V_clb, V_sV, V_2, V_dn, V_clz, V_15, V_1, V_0]); exact VR.lv (VR.l h5 (by decide)))) (fun _ => VR.r)
theorem V_dfw (h : s.2 5 = 0) : VR (au_dfw s op bl) (au_dfw (Vs s) op bl) := by
  have e12 : ∀ x, f_4012 x (Vs s) = f_4012 x s := fun _ => rfl
  unfold au_dfw
  rw [V_ko, V_2, V_1, e12]
  refine VR.ite (fun _ => VR.ite (fun _ => ?_) (fun _ => VR.r)) (fun _ => VR.r)
  cases op with
  | nil => exact VR.r
  | cons e r =>
    show VR (.inl (sB (au_cd 13 0 (au_nx (au_sk 35 (f_4010 (xg (s.1 1) (s.2 2)) s).1))) 14 [], 9, (53, e.2.1, e.2.2.1, au_cn (au_cd 13 0 (au_nx (au_sk 35 (f_4010 (xg (s.1 1) (s.2 2)) s).1))), (f_4010 (xg (s.1 1) (s.2 2)) s).2, 0) :: r, bl)) (.inl (sB (au_cd 13 0 (au_nx (au_sk 35 (f_4010 (xg (s.1 1) (s.2 2)) (Vs s)).1))) 14 [], 9, (53, e.2.1, e.2.2.1, au_cn (au_cd 13 0 (au_nx (au_sk 35 (f_4010 (xg (s.1 1) (s.2 2)) (Vs s)).1))), (f_4010 (xg (s.1 1) (s.2 2)) (Vs s)).2, 0) :: r, bl))
    rw [V_4010, V_sk, V_nx, V_cd, V_cn, V_14]
    exact Or.inr ⟨_, rfl, rfl, Or.inr V_i⟩
theorem V_acc0 {st : Int32} (h : s.2 5 = 0) (hst : st ≠ 9 ∧ st ≠ 10 ∧ st ≠ 11 ∧ st ≠ 12) : VR (au_acc0 s st op bl) (au_acc0 (Vs s) st op bl) := by
  unfold au_acc0
  rw [V_2, V_ko]
  refine VR.ite (fun _ => V_s0 h) (fun _ => ?_)
  refine VR.ite (fun _ => ?_) (fun _ => ?_)
  · cases op with
    | nil => exact VR.r
    | cons e r => exact (by (try simp only [V_bp, V_cd, V_nx, V_sk, V_pn, V_cn, V_pt, V_sv, V_ep, V_clb, V_sV, V_2, V_dn, V_clz, V_15, V_1, V_0]); exact VR.l h (by decide))
  refine VR.ite (fun _ => V_opd h) (fun _ => ?_)
  refine VR.ite (fun _ => V_opr h) (fun _ => ?_)
  refine VR.ite (fun _ => VR.ite (fun _ => (by (try simp only [V_bp, V_cd, V_nx, V_sk, V_pn, V_cn, V_pt, V_sv, V_ep, V_clb, V_sV, V_2, V_dn, V_clz, V_15, V_1, V_0]); exact VR.l h (by decide))) (fun _ => VR.r)) (fun _ => ?_)
  refine VR.ite (fun _ => ?_) (fun _ => ?_)
  · cases op with
    | nil => exact VR.r
    | cons e r => exact VR.ite (fun _ => (by (try simp only [V_bp, V_cd, V_nx, V_sk, V_pn, V_cn, V_pt, V_sv, V_ep, V_clb, V_sV, V_2, V_dn, V_clz, V_15, V_1, V_0]); exact VR.lv (VR.l h (by decide)))) (fun _ => VR.r)
  refine VR.ite (fun _ => V_dfw h) (fun _ => ?_)
  refine VR.ite (fun q => absurd q hst.1) (fun _ => ?_)
  refine VR.ite (fun q => absurd q hst.2.1) (fun _ => ?_)
  refine VR.ite (fun q => absurd q hst.2.2.1) (fun _ => ?_)
  refine VR.ite (fun q => absurd q hst.2.2.2) (fun _ => ?_)
  refine VR.ite (fun _ => (by (try simp only [V_bp, V_cd, V_nx, V_sk, V_pn, V_cn, V_pt, V_sv, V_ep, V_clb, V_sV, V_2, V_dn, V_clz, V_15, V_1, V_0]); exact VR.lv (VR.l h (by decide)))) (fun _ => ?_)
  cases op with
  | nil => exact VR.r
  | cons e r => exact VR.ite (fun _ => (by (try simp only [V_bp, V_cd, V_nx, V_sk, V_pn, V_cn, V_pt, V_sv, V_ep, V_clb, V_sV, V_2, V_dn, V_clz, V_15, V_1, V_0]); exact VR.l h (by decide))) (fun _ => VR.r)
theorem V_set {A : Au} (h : NDf A) : au_set (Vs A.1, A.2) = (Vs (au_set A).1, (au_set A).2) ∧ NDf (au_set A) := by
  obtain ⟨s, st, op, bl⟩ := A
  have h' : s.2 5 = 0 ∧ st ≠ 9 ∧ st ≠ 10 ∧ st ≠ 11 ∧ st ≠ 12 := h
  by_cases c : st = 1 ∧ au_ko s ≠ 6
  · have c' : st = 1 ∧ au_ko (Vs s) ≠ 6 := c
    cases op with
    | nil =>
      have e1 : au_set (s, st, [], bl) = (s, 0, [], bl) := if_pos c
      have e2 : au_set (Vs s, st, [], bl) = (Vs s, 0, [], bl) := if_pos c'
      rw [e1]
      exact ⟨e2, h'.1, (by show (0 : Int32) ≠ 9 ∧ (0 : Int32) ≠ 10 ∧ (0 : Int32) ≠ 11 ∧ (0 : Int32) ≠ 12; decide)⟩
    | cons e r =>
      have e1 : au_set (s, st, e :: r, bl) = (au_ep e.2.1 (au_pt e.2.2.1 s), 0, r, bl) := if_pos c
      have e2 : au_set (Vs s, st, e :: r, bl) = (au_ep e.2.1 (au_pt e.2.2.1 (Vs s)), 0, r, bl) := if_pos c'
      rw [e1]
      refine ⟨?_, h'.1, (by show (0 : Int32) ≠ 9 ∧ (0 : Int32) ≠ 10 ∧ (0 : Int32) ≠ 11 ∧ (0 : Int32) ≠ 12; decide)⟩
      rw [e2, V_pt, V_ep]
  · have c' : ¬ (st = 1 ∧ au_ko (Vs s) ≠ 6) := c
    have e1 : au_set (s, st, op, bl) = (s, st, op, bl) := if_neg c
    have e2 : au_set (Vs s, st, op, bl) = (Vs s, st, op, bl) := if_neg c'
    rw [e1]
    exact ⟨e2, h'⟩
theorem V_acc {A : Au} (h : NDf A) : VR (au_acc A) (au_acc (Vs A.1, A.2)) := by
  obtain ⟨e1, e2⟩ := V_set h
  unfold au_acc
  rw [e1]
  exact V_acc0 e2.1 e2.2
/-- the ways of two texts' states that differ in those names alone -/
theorem V_it : ∀ (k : Nat) (A A' : Au), (A' = A ∨ NDf A ∧ A' = (Vs A.1, A.2)) → (∃ f, au_it k A = .inr f ∧ au_it k A' = .inr f) ∨ ∃ B B', au_it k A = .inl B ∧ au_it k A' = .inl B' ∧ (B' = B ∨ NDf B ∧ B' = (Vs B.1, B.2)) := by
  intro k
  induction k with
  | zero => intro A A' h; exact Or.inr ⟨A, A', rfl, rfl, h⟩
  | succ k ih =>
    intro A A' h
    rcases h with e | ⟨hn, e⟩
    · subst e
      cases q : au_it (k + 1) A' with
      | inl B => exact Or.inr ⟨B, B, rfl, rfl, Or.inl rfl⟩
      | inr f => exact Or.inl ⟨f, rfl, rfl⟩
    · subst e
      rcases V_acc hn with ⟨f, e1, e2⟩ | ⟨B, e1, e2, e3⟩
      · exact Or.inl ⟨f, au_it_f e1, au_it_f e2⟩
      · rw [au_it_s e1, au_it_s e2]
        refine ih B _ ?_
        rcases e3 with e3 | e3
        · exact Or.inr ⟨e3, rfl⟩
        · left
          rw [e3]
end VST
