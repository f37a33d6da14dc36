/-! a token: what goes on, what is a fault -/
section STP
variable {tx : List Int32} {s : Sx} {op bl : List Ae} {a L : Nat} {m : Mx}
theorem S0F.of0 (h : RelF tx (s, 0, op, bl) a L m) (hI : Inv tx (s, 0, op, bl) a L) : op = [] ∧ S0F tx s bl a L m := by
  obtain ⟨hO, hB, hS, hN⟩ := hI
  obtain ⟨hop, h3⟩ := Sh.s0 (s := s) (op := op) (bl := bl) (a := a) (tx := tx) hS
  subst hop
  obtain ⟨hL, hR, hM, ⟨h32, h33, h34⟩, hE⟩ := h
  have hM' : RR (tks tx) tx s a [] bl (oeP [] bl) (ocP []) 0 m := hM
  have hN' : Nm tx s 0 [] bl a L := hN
  obtain ⟨q1, q2, q3, q4, q5⟩ := hN'
  have q1' : (s.1 7).length + 0 + 2 * bl.length ≤ 2 * a + 0 := q1
  have q3' : 3 * (s.1 15).length ≤ a + 0 + 0 := q3
  have q4' : L + 0 = bl.length + 0 + 0 := q4
  rw [dsB_n (by decide) (fun x hx => by cases hx)] at q5
  have q5' : 8 * (s.1 9).length + 0 ≤ _ := q5
  refine ⟨rfl, ⟨hL, hR, hM'.ocw (fun k hk => ?_)⟩, ⟨h33, h34⟩, hB, h3, by omega, fun hbl => ?_, by omega, by omega, by omega⟩
  · obtain ⟨_, x, hx, _⟩ := hk
    cases hx
  · have : a = 0 ∨ (s.1 7).length + 0 + 2 ≤ 2 * a := q2 (Or.inl rfl) hbl
    omega
theorem OutS.out {st : Int32} {r : Ar} {x : Option (Mx × Int32)} {m' : Mx} (h : OutS tx r a x m') (hx : mAcc st m = x) (ht : Tok tx a m) (hs : mf m 32 = st) (h6 : mf m' 6 = mf m 6) : Out tx st r a m := by
  refine ⟨fun B e => ?_, fun f t e => ?_⟩
  · obtain ⟨m2, L', e1, e2, e3⟩ := h.1 B e
    exact ⟨m2, L', hx.trans e1, e2, e3⟩
  · obtain ⟨e1, ⟨m2, w1, w2⟩, e3⟩ := h.2 f t e
    refine ⟨e1, ?_⟩
    by_cases q : tkd (tks tx) a = 1 ∨ tkd (tks tx) a = 2
    · rw [e3 q]
      exact bad_tok ht q
    · exact Fb.bad (st := st) ⟨m2, hx.trans w1, w2.trans h6⟩ ht q hs
theorem out0 (h : RelF tx (s, 0, op, bl) a L m) (hg : a + 1 < (tks tx).length → Rel tx (s, 0, op, bl) a L m 1) (hI : Inv tx (s, 0, op, bl) a L) (hT : Tb op bl a) (ht : Tok tx a m) (ha : a < (tks tx).length) (hend : tkd (tks tx) a = 0 → bl ≠ []) : Out tx 0 (au_acc (s, 0, op, bl)) a m := by
  obtain ⟨hop, hS⟩ := S0F.of0 h hI
  subst hop
  rw [ac0]
  exact (outS hS (fun hl => hS.to (hg hl).2.2.2.1) hT ht ha hend).out mAcc_0 ht h.2.2.2.1.1 rfl
/-- behind a block of an if: what there is without else, perhaps at the end -/
theorem S1.setF (h : RelF tx (s, 1, op, bl) a L m) (hI : Inv tx (s, 1, op, bl) a L) (hk : mf m 5 ≠ 5) : ∃ p k m', op = [(51, p, k, 0, 0, 0)] ∧ S0F tx (au_ep p (au_pt k s)) bl a L m' ∧ f_12039 m = f_12042 m' ∧ (∀ f, f ≠ 32 → m' 0 f = m 0 f) := by
  obtain ⟨hO, hB, hS, hN⟩ := hI
  have hS2 : Sh tx s 1 op bl a := hS
  obtain ⟨⟨p, k, rfl, ⟨pn, hp1, hp2⟩, ⟨kn, hk1, hk2, hk3⟩⟩, h3a⟩ := Sh.s1 hS2
  obtain ⟨hL, hR, hM, ⟨h32, h33, h34⟩, hE⟩ := h
  have hL' : Lv a ((tks tx).length - 1) L s := hL
  have hM' : RR (tks tx) tx s a [] bl (oeP [(51, p, k, 0, 0, 0)] bl) (ocP [(51, p, k, 0, 0, 0)]) 0 m := hM
  have hN' : Nm tx s 1 [(51, p, k, 0, 0, 0)] bl a L := hN
  obtain ⟨q1, q2, q3, q4, q5⟩ := hN'
  obtain ⟨y1, y2, y3⟩ := hE.2.2.1 _ rfl rfl
  have q1' : (s.1 7).length + 1 + 2 * bl.length ≤ 2 * a + 0 := q1
  have q4' : L + 0 = bl.length + 0 + 0 := q4
  have hL8 := hL'.L8
  have h300 := hL'.2.2.2.2.1
  have h301 := hL'.2.2.2.1
  have f38 : mf m 38 = nI bl.length := hM'.2.2.2.2.2.2.2.2.1
  have hocF : ∀ j, ocP [((51 : Int32), p, k, (0 : Int32), (0 : Int32), (0 : Int32))] j → False := by
    rintro j ⟨_, x, hx, q, _⟩
    rw [List.mem_singleton.1 hx] at q
    exact absurd (show (51 : Int32) = 42 from q) (by decide)
  refine ⟨p, k, mp (ms m 5 (nI kn) (mf m 11)) 32 0, rfl, ?_, ?_, fun f hf => ?_⟩
  · refine ⟨⟨hL'.co (Co_pt.tr Co_ep), hR, ?_⟩, ⟨h33, h34⟩, fun b hb => (hB b hb).up (RwS.of rfl rfl rfl), h3a, ?_, ?_, ?_, ?_, ?_⟩
    · have z := ((hM'.ocw (oc' := fun _ => False) (fun j q => (hocF j q).elim)).pt hk1 hk2 (by omega) hk3).f (f := 32) (x := 0) (by decide)
      refine z.ep (k := pn) hp1 (by omega) ?_ (fun j hj => ?_)
      · show m 8 pn = s.2 2 - 1
        rw [y3 pn hp1 (by omega), hL'.2.1]
      · by_cases e : j = pn
        · exact Or.inl e
        · right
          rintro ⟨hjl, ⟨x, hx, _, hx2⟩ | q⟩
          · rw [List.mem_singleton.1 hx] at hx2
            have hx3 : p = nI j := hx2
            rw [hp1] at hx3
            exact e ((nI_eq (by omega) (by omega)).1 hx3).symm
          · exact hj ⟨hjl, Or.inr q⟩
    · show (s.1 7).length + 2 * bl.length ≤ 2 * a
      omega
    · intro hbl
      have : a = 0 ∨ (s.1 7).length + 1 + 2 ≤ 2 * a := q2 (Or.inr rfl) hbl
      show a = 0 ∨ (s.1 7).length + 2 ≤ 2 * a
      omega
    · show 3 * (s.1 15).length ≤ a
      have q3' : 3 * (s.1 15).length ≤ a + 0 + 0 := q3
      omega
    · omega
    · rw [dsB_n (by decide) (fun x hx => by rw [List.mem_singleton.1 hx]; show (51 : Int32) ≠ 53; decide)] at q5
      show 8 * (s.1 9).length ≤ _
      have q5' : 8 * (s.1 9).length + 0 ≤ _ := q5
      omega
  · unfold f_12039
    have hnb : bl.length < 10 := by omega
    have y2' : m 24 bl.length = k := y2
    rw [if_neg hk, f38, gd_e (vi_n hnb (by omega)), mg_n (by omega), y2', hk1, gd_e (vi_n (by omega) (by omega)), bS_eq, bS_eq, bO_id]
  · rw [mp_n hf, ms_j (by decide)]
theorem au_set1 {p k : Int32} (h : au_ko s ≠ 6) : au_set (s, 1, [(51, p, k, 0, 0, 0)], bl) = (au_ep p (au_pt k s), 0, [], bl) := if_pos ⟨rfl, h⟩
theorem out1 (h : RelF tx (s, 1, op, bl) a L m) (hg : a + 1 < (tks tx).length → Rel tx (s, 1, op, bl) a L m 1) (hI : Inv tx (s, 1, op, bl) a L) (hT : Tb op bl a) (ht : Tok tx a m) (ha : a < (tks tx).length) (hend : tkd (tks tx) a = 0 → bl ≠ []) : Out tx 1 (au_acc (s, 1, op, bl)) a m := by
  have hko : au_ko s = tkd (tks tx) a := h.ko ha
  by_cases e : tkd (tks tx) a = 6
  · have hl := tk_lt ha (by rw [e]; decide)
    obtain ⟨f, hf, hG⟩ := go1e (hg hl) hI ht hl e
    subst hf
    rw [ac1 (hko.trans e)]
    exact Out.g hG
  · obtain ⟨p, k, m', hop, hS, hacc, h0⟩ := S1.setF h hI (ht.nk ha 6 5 (by decide) rfl e)
    subst hop
    have hset : au_acc (s, 1, [(51, p, k, 0, 0, 0)], bl) = au_s0 (au_ep p (au_pt k s)) bl := by
      rw [← au_acc_set, au_set1 (by rw [hko]; exact e), ac0]
    have ht' : Tok tx a m' := by
      unfold Tok
      rw [h0 5 (by decide), h0 6 (by decide), h0 8 (by decide)]
      exact ht
    rw [hset]
    exact (outS hS (fun hl => hS.to ((h0 7 (by decide)).trans (hg hl).2.2.2.1)) ⟨(fun x hx => by cases hx), hT.2⟩ ht' ha hend).out (mAcc_1.trans hacc) ht h.2.2.2.1.1 (h0 6 (by decide))
theorem Sh.st {st : Int32} (h : Sh tx s st op bl a) : st = 0 ∨ st = 1 ∨ st = 2 ∨ st = 3 ∨ st = 4 ∨ st = 5 ∨ st = 6 ∨ st = 7 ∨ st = 8 ∨ st = 9 ∨ st = 10 ∨ st = 11 ∨ st = 12 ∨ st = 13 ∨ st = 14 := by
  rcases h with ⟨q, _⟩ | ⟨q, _⟩ | ⟨q, _⟩ | ⟨q, _⟩ | ⟨q, _⟩ | ⟨q, _⟩ | ⟨q, _⟩ | ⟨q, _⟩
  · exact Or.inl q
  · exact Or.inr (Or.inl q)
  · rcases q with q | q | q | q <;> subst q <;> decide
  · subst q; decide
  · subst q; decide
  · subst q; decide
  · rcases q with q | q | q | q | q | q <;> subst q <;> decide
  · subst q; decide
/-- every act -/
theorem outA {st : Int32} (h : RelF tx (s, st, op, bl) a L m) (hg : a + 1 < (tks tx).length → Rel tx (s, st, op, bl) a L m 1) (hI : Inv tx (s, st, op, bl) a L) (hT : Tb op bl a) (ht : Tok tx a m) (ha : a < (tks tx).length) (hend : tkd (tks tx) a = 0 → (st = 0 ∨ st = 1) → bl ≠ []) : Out tx st (au_acc (s, st, op, bl)) a m := by
  have hS : Sh tx s st op bl a := hI.2.2.1
  rcases hS.st with e | e | e | e | e | e | e | e | e | e | e | e | e | e | e <;> subst e
  · exact out0 h hg hI hT ht ha (fun q => hend q (Or.inl rfl))
  · exact out1 h hg hI hT ht ha (fun q => hend q (Or.inr rfl))
  · exact out23 (Or.inl rfl) h hg hI ht ha
  · exact out23 (Or.inr rfl) h hg hI ht ha
  · exact out4 h hg hI hT ht ha
  · exact out5 h hg hI ht ha
  · exact out6 h hg hI ht ha
  · exact out7 h hg hI ht ha
  · exact out8 h hg hI ht ha
  · exact out9 h hg hI ht ha
  · exact out10 h hg hI ht ha
  · exact out11 h hg hI ht ha
  · exact out12 h hg hI ht ha
  · exact out13 h hg hI ht ha
  · exact out14 h hg hI ht ha
def ArP (P : Au → Prop) (r : Ar) : Prop := ∀ B, r = .inl B → P B
theorem ArP.l {P : Au → Prop} {B : Au} (h : P B) : ArP P (.inl B) := fun B' e => by cases e; exact h
theorem ArP.r {P : Au → Prop} {f : Int32 × Int32} : ArP P (.inr f) := fun B' e => by cases e
theorem ArP.ite {P : Au → Prop} {c : Prop} [Decidable c] {x y : Ar} (h1 : c → ArP P x) (h2 : ¬ c → ArP P y) : ArP P (if c then x else y) := by
  by_cases q : c
  · rw [if_pos q]; exact h1 q
  · rw [if_neg q]; exact h2 q
theorem ArP.lv {P : Au → Prop} {s : Sx} {k : Sx → Ar} (h : ∀ s2, ArP P (k s2)) : ArP P (au_lv s k) := by
  unfold au_lv
  exact ArP.ite (fun _ => h _) (fun _ => ArP.r)
theorem ArP.var {P : Au → Prop} {x : Nat} {s : Sx} {k : Sx → Int32 → Ar} (h : ∀ s2 v, ArP P (k s2 v)) : ArP P (au_var x s k) := by
  unfold au_var
  exact ArP.ite (fun _ => ArP.r) (fun _ => h _ _)
theorem TB.mono {x : Int32} {a a' : Nat} (h : TB x a) (ha : a ≤ a') : TB x a' := by
  obtain ⟨i, h1, h2⟩ := h
  exact ⟨i, h1, by omega⟩
theorem Tb.mono {a a' : Nat} (h : Tb op bl a) (ha : a ≤ a') : Tb op bl a' := ⟨fun x hx => ⟨fun q => ((h.1 x hx).1 q).mono ha, fun q => ((h.1 x hx).2 q).mono ha⟩, fun b hb => ⟨(h.2 b hb).1.mono ha, fun q => ((h.2 b hb).2 q).mono ha⟩⟩
theorem Tb.cons {x : Ae} (h : Tb op bl a) (h1 : x.1 = 23 ∨ x.1 = 24 → TB x.2.1 a) (h2 : x.1 = 53 → TB x.2.2.1 a) : Tb (x :: op) bl a := by
  refine ⟨fun z hz => ?_, h.2⟩
  rcases List.mem_cons.1 hz with e | e
  · rw [e]; exact ⟨h1, h2⟩
  · exact h.1 z e
theorem Tb.tl {x : Ae} (h : Tb (x :: op) bl a) : Tb op bl a := ⟨fun z hz => h.1 z (List.mem_cons_of_mem _ hz), h.2⟩
theorem Tb.nil (h : Tb op bl a) : Tb [] bl a := ⟨(fun z hz => by cases hz), h.2⟩
theorem Tb.bcons {b : Ae} (h : Tb op bl a) (h1 : TB b.2.2.2.2.2 a) (h2 : b.1 = 10 → TB b.2.2.2.2.1 a) : Tb op (b :: bl) a := by
  refine ⟨h.1, fun z hz => ?_⟩
  rcases List.mem_cons.1 hz with e | e
  · rw [e]; exact ⟨h1, h2⟩
  · exact h.2 z e
theorem Tb.btl {b : Ae} (h : Tb op (b :: bl) a) : Tb op bl a := ⟨h.1, fun z hz => h.2 z (List.mem_cons_of_mem _ hz)⟩
theorem Tb.fl {lv : Int32} : ∀ (op : List Ae) (s : Sx), Tb op bl a → Tb (au_fl lv op s).1 bl a := by
  intro op
  induction op with
  | nil => intro s h; exact h
  | cons e r ih =>
    intro s h
    have hdef : au_fl lv (e :: r) s = if lv ≤ lvK e.1 then au_fl lv r (au_pop e s) else (e :: r, s) := rfl
    rw [hdef]
    split
    · exact ih _ h.tl
    · exact h
theorem Tb.en : ∀ (op : List Ae) (s : Sx), Tb op bl a → Tb (au_en bl op s).2.2.1 (au_en bl op s).2.2.2 a := by
  intro op
  induction op with
  | nil => intro s h; exact h
  | cons e r ih =>
    intro s h
    have hdef : au_en bl (e :: r) s = if e.1 = 40 then au_en bl r (au_cd 8 e.2.1 (au_dn s)) else if e.1 = 48 then (au_dn s, 6, (49, e.2) :: r, bl) else if e.1 = 50 then (au_cd 7 0 s, 14, (54, e.2) :: r, bl) else (s, 4, e :: r, bl) := rfl
    rw [hdef]
    split
    · exact ih _ h.tl
    · split
      · exact h.tl.cons (fun q => absurd q (by show ¬ ((49 : Int32) = 23 ∨ (49 : Int32) = 24); decide)) (fun q => absurd q (by show ¬ (49 : Int32) = 53; decide))
      · split
        · exact h.tl.cons (fun q => absurd q (by show ¬ ((54 : Int32) = 23 ∨ (54 : Int32) = 24); decide)) (fun q => absurd q (by show ¬ (54 : Int32) = 53; decide))
        · exact h
def TbP (a : Nat) (B : Au) : Prop := Tb B.2.2.1 B.2.2.2 a
theorem tbc {x0 : Int32} {xr : Int32 × Int32 × Int32 × Int32 × Int32} (h : Tb op bl a) (h1 : x0 ≠ 23 ∧ x0 ≠ 24 ∧ x0 ≠ 53) : Tb ((x0, xr) :: op) bl a := h.cons (fun q => by rcases q with q | q; exact absurd q h1.1; exact absurd q h1.2.1) (fun q => absurd q h1.2.2)
theorem tb_call (h : Tb op bl a) : ArP (TbP a) (au_call s op bl) := ArP.l (tbc h (by decide))
theorem tb_s0 (h22 : s.2 2 = nI a) (h : Tb [] bl a) : ArP (TbP (a + 1)) (au_s0 s bl) := by
  have hm := h.mono (Nat.le_succ a)
  have h1 : TB (s.2 2) (a + 1) := ⟨a, h22, Nat.lt_succ_self a⟩
  unfold au_s0
  refine ArP.ite (fun _ => ?_) (fun _ => ?_)
  · cases bl with
    | nil => exact ArP.r
    | cons b r =>
      refine ArP.l ?_
      show TbP (a + 1) (au_cls s b r)
      unfold au_cls
      split
      · exact tbc hm.btl (by decide)
      · split
        · exact hm.btl
        · split
          · exact hm.btl
          · exact hm.btl
  · unfold au_st
    refine ArP.ite (fun _ => ArP.ite (fun _ => tb_call (tbc hm (by decide))) (fun _ => ArP.var fun s2 v => ArP.l (tbc hm (by decide)))) (fun _ => ?_)
    refine ArP.ite (fun _ => ArP.lv fun s2 => ArP.l (tbc hm (by decide))) (fun _ => ?_)
    refine ArP.ite (fun _ => ArP.l (tbc hm (by decide))) (fun _ => ?_)
    refine ArP.ite (fun _ => ArP.l (tbc hm (by decide))) (fun _ => ?_)
    refine ArP.ite (fun _ => ArP.l (tbc hm (by decide))) (fun _ => ?_)
    refine ArP.ite (fun _ => ArP.ite (fun _ => ArP.r) (fun _ => ArP.l (tbc hm (by decide)))) (fun _ => ?_)
    refine ArP.ite (fun _ => ArP.ite (fun _ => ArP.l (hm.cons (fun q => absurd q (by show ¬ ((53 : Int32) = 23 ∨ (53 : Int32) = 24); decide)) (fun _ => h1))) (fun _ => ArP.r)) (fun _ => ArP.r)
theorem tb_opd {st : Int32} (h : Tb op bl a) : ArP (TbP a) (au_opd s st op bl) := by
  unfold au_opd
  refine ArP.ite (fun _ => ArP.l (Tb.en op _ h)) (fun _ => ?_)
  refine ArP.ite (fun _ => ArP.l (Tb.en op _ h)) (fun _ => ?_)
  refine ArP.ite (fun _ => ArP.lv fun s2 => ArP.l (tbc h (by decide))) (fun _ => ?_)
  refine ArP.ite (fun _ => ArP.lv fun s2 => ArP.l (tbc h (by decide))) (fun _ => ?_)
  refine ArP.ite (fun _ => ArP.lv fun s2 => ArP.l (tbc h (by decide))) (fun _ => ?_)
  refine ArP.ite (fun _ => ArP.ite (fun _ => tb_call h) (fun _ => ArP.var fun s2 v => ArP.l (Tb.en op _ h))) (fun _ => ?_)
  refine ArP.ite (fun _ => ?_) (fun _ => ArP.r)
  cases op with
  | nil => exact ArP.r
  | cons e r => exact ArP.l (Tb.en r _ h.tl)
theorem tb_opr (h22 : s.2 2 = nI a) (h : Tb op bl a) : ArP (TbP (a + 1)) (au_opr s op bl) := by
  have h1 : TB (s.2 2) (a + 1) := ⟨a, h22, Nat.lt_succ_self a⟩
  unfold au_opr
  refine ArP.ite (fun hb => ?_) (fun _ => ?_)
  · have n53 : au_ko s ≠ 53 := fun e => by
      rw [e] at hb
      exact absurd hb (by decide +kernel)
    have hm := (Tb.fl (lv := lvK (au_ko s)) op s h).mono (Nat.le_succ a)
    refine ArP.ite (fun _ => ArP.l (hm.cons (fun _ => h1) (fun q => absurd q n53))) (fun _ => ArP.l (hm.cons (fun _ => h1) (fun q => absurd q n53)))
  · have hm := (Tb.fl (lv := 1) op s h).mono (Nat.le_succ a)
    cases hfl : (au_fl 1 op s).1 with
    | nil => exact ArP.r
    | cons e r =>
      rw [hfl] at hm
      show ArP (TbP (a + 1)) (if au_ko s = 29 ∧ e.1 = 41 then _ else _)
      refine ArP.ite (fun _ => ArP.l (Tb.en r _ hm.tl)) (fun _ => ?_)
      refine ArP.ite (fun _ => ArP.l (Tb.en r _ hm.tl)) (fun _ => ?_)
      refine ArP.ite (fun _ => ArP.l (tbc hm.tl (by decide))) (fun _ => ?_)
      refine ArP.ite (fun _ => ArP.l hm.tl) (fun _ => ?_)
      refine ArP.ite (fun _ => ArP.l hm.tl) (fun _ => ?_)
      refine ArP.ite (fun _ => ArP.l hm.tl) (fun _ => ?_)
      refine ArP.ite (fun _ => ArP.l hm.tl) (fun _ => ?_)
      refine ArP.ite (fun _ => ArP.lv fun s2 => ArP.l (hm.tl.bcons h1 (fun q => absurd q (by show ¬ (5 : Int32) = 10; decide)))) (fun _ => ?_)
      refine ArP.ite (fun _ => ArP.lv fun s2 => ArP.l (hm.tl.bcons h1 (fun q => absurd q (by show ¬ (7 : Int32) = 10; decide)))) (fun _ => ArP.r)
theorem tb_pcl (h : Tb op bl a) : ArP (TbP a) (au_pcl s op bl) := by
  unfold au_pcl
  cases op with
  | nil => exact ArP.r
  | cons e r => exact ArP.l h
theorem tb_prm (h : Tb op bl a) : ArP (TbP a) (au_prm s op bl) := by
  unfold au_prm
  exact ArP.ite (fun _ => ArP.ite (fun _ => ArP.var fun s2 v => ArP.l h) (fun _ => ArP.r)) (fun _ => ArP.r)
theorem tb_dfw (h : Tb op bl a) (h8 : ∀ e, e ∈ op → e.1 = 53) : ArP (TbP a) (au_dfw s op bl) := by
  unfold au_dfw
  refine ArP.ite (fun _ => ArP.ite (fun _ => ?_) (fun _ => ArP.r)) (fun _ => ArP.r)
  cases op with
  | nil => exact ArP.r
  | cons e r => exact ArP.l (h.tl.cons (fun q => absurd q (by show ¬ ((53 : Int32) = 23 ∨ (53 : Int32) = 24); decide)) (fun _ => (h.1 e (List.mem_cons_self ..)).2 (h8 e (List.mem_cons_self ..))))
theorem tb_acc0 {st : Int32} (h22 : s.2 2 = nI a) (h : Tb op bl a) (h7 : st = 7 → ∀ e, e ∈ op → e.1 = 52 ∨ e.1 = 53) (h8 : st = 8 → ∀ e, e ∈ op → e.1 = 53) : ArP (TbP (a + 1)) (au_acc0 s st op bl) := by
  have hm := h.mono (Nat.le_succ a)
  have h1 : TB (s.2 2) (a + 1) := ⟨a, h22, Nat.lt_succ_self a⟩
  unfold au_acc0
  refine ArP.ite (fun _ => tb_s0 h22 h.nil) (fun _ => ?_)
  refine ArP.ite (fun _ => ?_) (fun _ => ?_)
  · cases op with
    | nil => exact ArP.r
    | cons e r => exact ArP.l (tbc hm.tl (by decide))
  refine ArP.ite (fun _ => tb_opd hm) (fun _ => ?_)
  refine ArP.ite (fun _ => tb_opr h22 h) (fun _ => ?_)
  refine ArP.ite (fun _ => ArP.ite (fun _ => ArP.l hm) (fun _ => ArP.r)) (fun _ => ?_)
  refine ArP.ite (fun e7 => ?_) (fun _ => ?_)
  · cases op with
    | nil => exact ArP.r
    | cons e r =>
      show ArP (TbP (a + 1)) (if au_ko s = 30 then _ else _)
      refine ArP.ite (fun _ => ArP.lv fun s2 => ArP.l (hm.tl.bcons h1 (fun q => ?_))) (fun _ => ArP.r)
      have he := h7 e7 e (List.mem_cons_self ..)
      by_cases c : e.1 = 52
      · rw [if_pos c] at q
        exact absurd (show (6 : Int32) = 10 from q) (by decide)
      · rcases he with w | w
        · exact absurd w c
        · exact (hm.1 e (List.mem_cons_self ..)).2 w
  refine ArP.ite (fun e8 => tb_dfw hm (h8 e8)) (fun _ => ?_)
  refine ArP.ite (fun _ => ArP.ite (fun _ => ArP.lv fun s2 => ArP.l hm) (fun _ => ArP.r)) (fun _ => ?_)
  refine ArP.ite (fun _ => ArP.ite (fun _ => tb_pcl hm) (fun _ => tb_prm hm)) (fun _ => ?_)
  refine ArP.ite (fun _ => tb_prm hm) (fun _ => ?_)
  refine ArP.ite (fun _ => ArP.ite (fun _ => ArP.l hm) (fun _ => ArP.ite (fun _ => tb_pcl hm) (fun _ => ArP.r))) (fun _ => ?_)
  refine ArP.ite (fun _ => ArP.lv fun s2 => ArP.l hm) (fun _ => ?_)
  cases op with
  | nil => exact ArP.r
  | cons e r => exact ArP.ite (fun _ => ArP.l hm.tl) (fun _ => ArP.r)
theorem tb_acc {st : Int32} (h22 : s.2 2 = nI a) (h : Tb op bl a) (hS : Sh tx s st op bl a) : ArP (TbP (a + 1)) (au_acc (s, st, op, bl)) := by
  by_cases e1 : st = 1
  · subst e1
    obtain ⟨⟨p, k, hop, _⟩, _⟩ := hS.s1
    subst hop
    by_cases c : au_ko s = 6
    · rw [ac1 c]
      exact ArP.l (tbc (h.tl.mono (Nat.le_succ a)) (by decide))
    · rw [← au_acc_set, au_set1 c, ac0]
      exact tb_s0 h22 h.nil
  · rw [au_acc_n e1]
    refine tb_acc0 h22 h (fun e7 e he => ?_) (fun e8 e he => ?_)
    · subst e7
      rcases hS.s7 with ⟨p, o, k, hop, _⟩ | ⟨_, f, hop, f1, _⟩
      · rw [hop] at he
        rw [List.mem_singleton.1 he]
        exact Or.inl rfl
      · rw [hop] at he
        rw [List.mem_singleton.1 he]
        exact Or.inr f1
    · subst e8
      obtain ⟨_, f, hop, f1, _⟩ := hS.sP (by decide)
      rw [hop] at he
      rw [List.mem_singleton.1 he]
      exact f1
end STP
