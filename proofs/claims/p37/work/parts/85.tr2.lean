/-! acts: levels; ( of a call; ; behind a call; parameters -/
section TR2
variable {tx : List Int32} {s : Sx} {op bl : List Ae} {a L : Nat} {m : Mx}
theorem sk_s {e : Nat} {x : Int32} (h : Lv a e L s) (ha : a < e) : ((au_sk x s).1 0).getD a 0 = x := by
  have h3 := h.2.2.2.2.1
  have e0 : (au_sk x s).1 0 = (s.1 0).set a x := by
    show xset (s.1 0) (s.2 2) x = _
    rw [h.2.1, xset_n (by omega)]
  rw [e0, gD_set_s (by rw [h.2.2.2.2.2.1]; omega)]
theorem sk_n {e : Nat} {x : Int32} (h : Lv a e L s) {i : Nat} (hi : i ≠ a) : ((au_sk x s).1 0).getD i 0 = (s.1 0).getD i 0 := by
  have h3 := h.2.2.2.2.1
  have h4 := h.2.2.2.1
  have e0 : (au_sk x s).1 0 = (s.1 0).set a x := by
    show xset (s.1 0) (s.2 2) x = _
    rw [h.2.1, xset_n (by omega)]
  rw [e0, gD_set_n (fun e => hi e.symm)]
theorem lv_12026 (h : mf m 33 = nI L) (hl : L < 8) : f_12026 m = (mp m 33 (nI (L + 1)), 1) := by
  unfold f_12026
  rw [h, if_neg (by rw [show (8 : Int32) = nI 8 from rfl, nI_eq (by omega) (by omega)]; omega), bS_eq, nI_1]
theorem lv_12026b (h : mf m 33 = nI 8) : f_12026 m = (mp (mp m 9 4) 10 (mf m 6), 0) := by
  unfold f_12026
  rw [h, if_pos (by decide)]
  rfl
theorem Rel.q33 {A : Au} {r : Nat} (h : Rel tx A a L m r) : mf m 33 = nI L := h.2.2.2.2.1.2.1.trans h.1.2.2.2.2.2.2.1
theorem Lv.L8 {e : Nat} (h : Lv a e L s) : L ≤ 8 := h.2.2.2.2.2.2.2.1
/-- what is open stays so -/
theorem Nm.any {st st' : Int32} (h1 : st ≠ 8 ∧ st ≠ 9 ∧ sPr st = 0) (h2 : st' ≠ 8 ∧ st' ≠ 9 ∧ sPr st' = 0) : dsB st op bl = dsB st' op bl := by
  have e1 : ¬ sPr st = 1 := by rw [h1.2.2]; decide
  have e2 : ¬ sPr st' = 1 := by rw [h2.2.2]; decide
  unfold dsB
  rw [if_neg h1.1, if_neg h1.2.1, if_neg e1, if_neg h2.1, if_neg h2.2.1, if_neg e2]
theorem IvO.nil : IvO s [] := ⟨(fun x hx => by cases hx), trivial, trivial⟩
theorem dsB_n {st : Int32} (h1 : st ≠ 8 ∧ st ≠ 9 ∧ sPr st = 0) (h2 : ∀ x, x ∈ op → x.1 ≠ 53) : dsB st op bl = if (bl.any fun b => b.1 == 10) = true then 1 else 0 := by
  have e1 : ¬ sPr st = 1 := by rw [h1.2.2]; decide
  have e2 : ¬ (op.any fun x => x.1 == 53) = true := by
    intro q
    obtain ⟨x, hx, hq⟩ := List.any_eq_true.1 q
    exact h2 x hx (by simpa using hq)
  unfold dsB
  rw [if_neg h1.1, if_neg h1.2.1, if_neg e1, if_neg e2]
theorem Inv.mk {st : Int32} (h1 : IvO s (mop st op)) (h2 : ∀ b, b ∈ bl → BlV s b) (h3 : Sh tx s st op bl a) (h4 : Nm tx s st op bl a L) : Inv tx (s, st, op, bl) a L := ⟨h1, h2, h3, h4⟩
theorem Rel.mk {st : Int32} (h1 : Lv a ((tks tx).length - 1) L s) (h2 : Raw tx s a) (h3 : RR (tks tx) tx s a (mop st op) bl (oeP op bl) (ocP op) (pdN st) m) (h4 : m 0 7 = nI (bend (tks tx) a)) (h5 : m 0 32 = st) (h6 : m 0 33 = s.2 4) (h7 : m 0 34 = scN st (s.2 5)) (h8 : Ex st op bl a s m) : Rel tx (s, st, op, bl) a L m 0 := ⟨h1, h2, h3, h4, ⟨h5, h6, h7⟩, h8⟩
theorem Sh.mkE {st : Int32} {xs : List Ae} {f : Ae} {d : Nat} (hst : st = 2 ∨ st = 3 ∨ st = 4 ∨ st = 13) (e1 : ∀ x, x ∈ xs → isEx x.1) (e2 : stF f.1) (e3 : FV s f a d) (hd : d = if st = 4 then 2 else 1) (e4 : st = 3 ∨ st = 13 → ∃ y r, xs ++ [f] = y :: r ∧ y.1 = 42) (e5 : st = 13 → tkd (tks tx) a = 28) : Sh tx s st (xs ++ [f]) bl a :=
  Or.inr (Or.inr (Or.inl ⟨hst, xs, f, rfl, e1, e2, hd ▸ e3, e4, e5⟩))
/-- ( of a call -/
theorem go13 (h : Rel tx (s, 13, op, bl) a L m 1) (hI : Inv tx (s, 13, op, bl) a L) (ha : a + 1 < (tks tx).length) (hl : L < 8) : Good tx 13 (au_up (au_sk 38 s), 3, op, bl) a m := by
  obtain ⟨hO, hB, hS, hN⟩ := hI
  have hS2 : Sh tx s 13 op bl a := hS
  obtain ⟨xs, f, rfl, e1, e2, e3, e4, e5⟩ := Sh.sE hS2 (by decide)
  have h14 := h.q14
  have h33 := h.q33
  have ha3 := h.a3 ha
  obtain ⟨hL, hR, hM, h7, ⟨_, _, h34⟩, hE⟩ := h
  have hL' : Lv a ((tks tx).length - 1) L s := hL
  have hE' : Ex 13 (xs ++ [f]) bl a s m := hE
  have hae : a < (tks tx).length - 1 := by omega
  have h51 : f.1 ≠ 51 ∧ f.1 ≠ 52 := by rcases e2 with e | e | e | e | e | e | e | e <;> rw [e] <;> decide
  refine ⟨MK 26 3 (mp m 33 (nI (L + 1))), L + 1, ?_, ?_, ?_⟩
  · unfold mAcc
    rw [if_neg (by decide), if_neg (by decide), if_neg (by decide), if_neg (by decide), if_neg (by decide), if_neg (by decide), if_neg (by decide), if_neg (by decide), if_neg (by decide), if_neg (by decide), if_neg (by decide), if_neg (by decide), if_neg (by decide), if_pos rfl, lv_12026 h33 hl, bT_eq, if_neg (by decide),
      MK_e (m := mp m 33 (nI (L + 1))) h14 (by omega), bO_some, if_neg (by decide)]
  · refine Rel.mk ((hL'.sk hae (by decide)).up hae hl) ?_ ?_ h7 ?_ ?_ ?_ ?_
    · exact hR.nx (fun i hi => sk_n hL' (by omega)) (fun _ _ => rfl) rfl
    · have hM' : RR (tks tx) tx s a (xs ++ [f]) bl (oeP (xs ++ [f]) bl) (ocP (xs ++ [f])) 0 m := hM
      have := (((hM'.sk (x := 38) hL'.2.1 (by omega)).f (f := 33) (x := nI (L + 1)) (by decide)).i (s' := sV (au_sk 38 s) 4 ((au_sk 38 s).2 4 + 1)) rfl).nx (w := 26) (st := 3) (by omega) (by
        show (26 : Int32) = wm (((au_sk 38 s).1 0).getD a 0)
        rw [sk_s hL' hae]
        rfl)
      exact this
    · unfold MK; rw [mp_s]
    · unfold MK
      rw [mp_n (by decide)]
      show mp m 33 (nI (L + 1)) 0 33 = s.2 4 + 1
      rw [mp_s, hL'.2.2.2.2.2.2.1, nI_1]
    · exact h34
    · exact Ex.mkE (Or.inl e2) (hE'.f43 h51.1 h51.2) (fun q => hE'.f47 q) rfl
  · have hr : RwS s (au_up (au_sk 38 s)) := (RwS.sk (x := 38) hL'.2.1 (by omega) (by decide)).tr (RwS.of rfl rfl rfl)
    have hO' : IvO s (xs ++ [f]) := hO
    have hN' : Nm tx s 13 (xs ++ [f]) bl a L := hN
    have e3' : FV s f a 1 := e3
    refine Inv.mk (hO'.up hr (Nat.le_refl _)) (fun b hb => (hB b hb).up hr) (Sh.mkE (Or.inr (Or.inl rfl)) e1 e2 (e3'.up hr (d' := 1) (by omega)) rfl (fun _ => e4 (by decide)) (fun q => absurd q (by decide))) ?_
    obtain ⟨q1, q2, q3, q4, q5⟩ := hN'
    have hb := (bend_s ha).1
    have hB : dsB 13 (xs ++ [f]) bl = dsB 3 (xs ++ [f]) bl := Nm.any (by decide) (by decide)
    rw [show s13 13 = 1 from rfl] at q1 q3 q4
    rw [show sPr 13 = 0 from rfl] at q4
    rw [show dsA 13 = 0 from rfl, hB] at q5
    refine ⟨?_, fun e => absurd e (by decide), ?_, ?_, ?_⟩
    · show (s.1 7).length + (xs ++ [f]).length + 2 * bl.length ≤ 2 * (a + 1) + 0
      omega
    · show 3 * (s.1 15).length ≤ a + 1 + cc (xs ++ [f]) + 0
      omega
    · show L + 1 + 0 = bl.length + lc (xs ++ [f]) + 0
      omega
    · show 8 * (s.1 9).length + 0 ≤ bend (tks tx) (a + 1) + dsB 3 (xs ++ [f]) bl
      omega
theorem Bad.at {st f : Int32} {m2 : Mx} (ht : Tok tx a m) (hk : ¬ (tkd (tks tx) a = 1 ∨ tkd (tks tx) a = 2)) (hs : mf m 32 = st) (e : mAcc st m = some (mp (mp m2 9 f) 10 (mf m2 6), 0)) (h6 : mf m2 6 = mf m 6) : Bad tx a f m := by
  refine ⟨_, (acc_12054 ht hk hs).trans e, ?_, ?_⟩
  · rw [(fails_9 f m2).1, flt_n (fun q => hk q.2)]
  · rw [(fails_9 f m2).2]
    exact h6.trans ht.2.1
theorem mAcc_13 : mAcc 13 m = bT (f_12026 m) fun s24 r24 => if r24 = 0 then some (s24, 0) else bO (f_12022 26 3 s24) fun s26 r26 => if r26 = 0 then some (s26, 0) else some (s26, 1) := by
  unfold mAcc
  rw [if_neg (by decide), if_neg (by decide), if_neg (by decide), if_neg (by decide), if_neg (by decide), if_neg (by decide), if_neg (by decide), if_neg (by decide), if_neg (by decide), if_neg (by decide), if_neg (by decide), if_neg (by decide), if_neg (by decide), if_pos rfl]
theorem bad13 (h : Rel tx (s, 13, op, bl) a L m 1) (ht : Tok tx a m) (hk : ¬ (tkd (tks tx) a = 1 ∨ tkd (tks tx) a = 2)) (hl : L = 8) : Bad tx a 4 m := by
  have h33 := h.q33
  rw [hl] at h33
  refine Bad.at (m2 := m) (st := 13) ht hk h.2.2.2.2.1.1 ?_ rfl
  rw [mAcc_13, lv_12026b h33, bT_eq, if_pos rfl]
theorem mAcc_14 : mAcc 14 m = gd (vi (mf m 43) 100) (bS (ms m 8 (mf m 43) (mf m 14)) fun s3 => f_12053 31 0 s3) := by
  unfold mAcc
  rw [if_neg (by decide), if_neg (by decide), if_neg (by decide), if_neg (by decide), if_neg (by decide), if_neg (by decide), if_neg (by decide), if_neg (by decide), if_neg (by decide), if_neg (by decide), if_neg (by decide), if_neg (by decide), if_neg (by decide), if_neg (by decide)]
/-- the bounds of a statement's end: nothing is open then but blocks -/
theorem Nm.to0 {st : Int32} {s' : Sx} {c : Nat} (h : Nm tx s st op bl a L) (ha : a + 1 < (tks tx).length) (e1 : s13 st = 0) (e2 : sPr st = 0) (hc : (s'.1 7).length ≤ (s.1 7).length + c) (hop : c ≤ op.length) (hcc : cc op = 0) (hlc : lc op = 0)
    (h15 : (s'.1 15).length = (s.1 15).length) (h9 : (s'.1 9).length = (s.1 9).length) (hB : dsB st op bl ≤ dsB 0 [] bl + 1) : Nm tx s' 0 [] bl (a + 1) L := by
  obtain ⟨q1, q2, q3, q4, q5⟩ := h
  have hb := (bend_s ha).1
  rw [e1] at q1 q3 q4
  rw [e2] at q4
  have z0 : cc [] = 0 := rfl
  have z1 : lc [] = 0 := rfl
  have z2 : s13 0 = 0 := rfl
  have z3 : sPr 0 = 0 := rfl
  have z4 : dsA 0 = 0 := rfl
  have z5 : ([] : List Ae).length = 0 := rfl
  refine ⟨by omega, fun _ hbl => Or.inr ?_, by omega, by omega, by omega⟩
  rw [hbl] at q1
  omega
/-- the part of a statement that ends here -/
theorem Rel.end0 {s1 : Sx} {f : Ae} {m1 : Mx} {p : Nat} (hp : f.2.1 = nI p) (hp2 : p < 1000) (hL : Lv (a + 1) ((tks tx).length - 1) L s1) (hR : Raw tx s1 (a + 1)) (hM : RR (tks tx) tx s1 (a + 1) [] bl (oeP [f] bl) (fun _ => False) 0 m1) (h7 : m1 0 7 = nI (bend (tks tx) (a + 1))) (h32 : m1 0 32 = 0) (h33 : m1 0 33 = s1.2 4) (h34 : m1 0 34 = s1.2 5) (h8 : m1 8 p = nI a) :
    Rel tx (au_ep f.2.1 s1, 0, [], bl) (a + 1) L m1 0 := by
  refine Rel.mk (hL.co Co_ep) hR ?_ h7 h32 h33 h34 ?_
  · have hE : m1 8 p = s1.2 2 - 1 := by rw [h8, hL.2.1, nI_pred]
    have := hM.ep (k := p) (p := f.2.1) hp hp2 (oe' := oeP [] bl) hE (fun j hj => ?_)
    · exact this.ocw (fun k q => q.elim)
    · by_cases e : j = p
      · exact Or.inl e
      · right
        rintro ⟨hjl, ⟨x, hx, _, hx2⟩ | q⟩
        · rw [List.mem_singleton.1 hx, hp] at hx2
          exact e ((nI_eq (by omega) (by omega)).1 hx2).symm
        · exact hj ⟨hjl, Or.inr q⟩
  · refine ⟨fun q g e => ?_, fun q g e => ?_, fun x e => ?_, fun x e => ?_, fun x e => ?_, fun e => absurd e (by decide)⟩
    all_goals (first | cases e | (have := congrArg List.length e; simp at this))
/-- ; behind a call -/
theorem go14 (h : Rel tx (s, 14, op, bl) a L m 1) (hI : Inv tx (s, 14, op, bl) a L) (ht : Tok tx a m) (ha : a + 1 < (tks tx).length) (hk : tkd (tks tx) a = 33) : ∃ f, op = [f] ∧ Good tx 14 (au_ep f.2.1 (au_nx s), 0, [], bl) a m := by
  obtain ⟨hO, hB, hS, hN⟩ := hI
  have hS2 : Sh tx s 14 op bl a := hS
  obtain ⟨f, rfl, e1, e2⟩ := Sh.s14 hS2
  refine ⟨f, rfl, ?_⟩
  have h5 := ht.k hk
  have h14 := h.q14
  have ha3 := h.a3 ha
  have hr0 := h.r0 ha
  obtain ⟨hL, hR, hM, h7, ⟨_, h33, h34⟩, hE⟩ := h
  have hL' : Lv a ((tks tx).length - 1) L s := hL
  have hE' : Ex 14 ([] ++ [f]) bl a s m := hE
  have hM' : RR (tks tx) tx s a [] bl (oeP [f] bl) (ocP [f]) 0 m := hM
  have hN' : Nm tx s 14 [f] bl a L := hN
  have hae : a < (tks tx).length - 1 := by omega
  obtain ⟨⟨p, hp, hp2⟩, t, ht1, ht2, ht3⟩ := e2
  have hp1 : p < 1000 := by omega
  have h43 : mf m 43 = nI p := by
    have := hE'.f43 (by rw [e1]; decide) (by rw [e1]; decide)
    rw [hp] at this
    exact this
  have hoc : ∀ k, ocP [f] k → False := by
    rintro k ⟨_, x, hx, q, _⟩
    rw [List.mem_singleton.1 hx, e1] at q
    exact absurd q (by decide)
  have ho8 : oeP [f] bl p := ⟨by omega, Or.inl ⟨f, by simp, by rw [e1]; decide, hp⟩⟩
  have hM2 := ((hM'.ocw (oc' := fun _ => False) (fun k q => (hoc k q).elim)).m8 (k := p) (x := nI a) hp1 ho8).nx (w := 31) (st := 0) (by omega) (by
    rw [show (s.1 0).getD a 0 = _ from hr0, hk]
    rfl)
  refine ⟨MK 31 0 (ms m 8 (nI p) (nI a)), L, ?_, ?_, ?_⟩
  · rw [mAcc_14, h43, gd_e (vi_n (by omega) (by omega)), bS_eq, h14]
    exact set_12053 (m := ms m 8 (nI p) (nI a)) h14 (by omega) h5
  · refine Rel.end0 hp hp1 (hL'.nx hae) (hR.nx (fun _ _ => rfl) (fun _ _ => rfl) rfl) hM2 h7 (by unfold MK; rw [mp_s]) ?_ ?_ ?_
    · unfold MK
      rw [mp_n (by decide)]
      exact h33
    · exact h34
    · show ms m 8 (nI p) (nI a) 8 p = nI a
      rw [ms_s (by omega)]
      exact if_pos rfl
  · have hr : RwS s (au_ep f.2.1 (au_nx s)) := RwS.of rfl rfl rfl
    refine Inv.mk IvO.nil (fun b hb => (hB b hb).up hr) (Or.inl ⟨rfl, rfl, ?_⟩) ?_
    · show 3 * (s.1 5).length ≤ a + 1
      omega
    · refine hN'.to0 (s' := au_ep f.2.1 (au_nx s)) (c := 0) ha rfl rfl (Nat.le_refl _) (Nat.zero_le _) ?_ ?_ rfl rfl ?_
      · unfold cc ccF
        rw [List.countP_singleton, e1]
        rfl
      · unfold lc lcF
        rw [List.countP_singleton, e1]
        rfl
      · have : dsB 14 [f] bl = dsB 0 [] bl := by
          rw [dsB_n (by decide) (fun x hx => by rw [List.mem_singleton.1 hx, e1]; decide), dsB_n (by decide) (fun x hx => by cases hx)]
        rw [this]
        exact Nat.le_succ _
end TR2
