/-! acts: parameters -/
section PM
variable {tx : List Int32} {s : Sx} {op bl : List Ae} {a L : Nat} {m : Mx}
theorem mAcc_9 : mAcc 9 m = (if (mf m 5) = 26 then bT (f_12026 m) fun s17 r17 => if r17 = 0 then some (s17, 0) else bO (f_12022 26 10 s17) fun s19 r19 => if r19 = 0 then some (s19, 0) else some (s19, 1) else bT (f_12020 3 m) fun s16 r16 => some (s16, r16)) := by
  unfold mAcc
  rw [if_neg (by decide), if_neg (by decide), if_neg (by decide), if_neg (by decide), if_neg (by decide), if_neg (by decide), if_neg (by decide), if_neg (by decide), if_neg (by decide), if_pos rfl]
theorem mAcc_10 : mAcc 10 m = f_12050 m := by
  unfold mAcc
  rw [if_neg (by decide), if_neg (by decide), if_neg (by decide), if_neg (by decide), if_neg (by decide), if_neg (by decide), if_neg (by decide), if_neg (by decide), if_neg (by decide), if_neg (by decide), if_pos rfl]
theorem mAcc_11 : mAcc 11 m = f_12050 m := by
  unfold mAcc
  rw [if_neg (by decide), if_neg (by decide), if_neg (by decide), if_neg (by decide), if_neg (by decide), if_neg (by decide), if_neg (by decide), if_neg (by decide), if_neg (by decide), if_neg (by decide), if_neg (by decide), if_pos rfl]
theorem mAcc_12 : mAcc 12 m = f_12051 m := by
  unfold mAcc
  rw [if_neg (by decide), if_neg (by decide), if_neg (by decide), if_neg (by decide), if_neg (by decide), if_neg (by decide), if_neg (by decide), if_neg (by decide), if_neg (by decide), if_neg (by decide), if_neg (by decide), if_neg (by decide), if_pos rfl]
theorem s13_n {st : Int32} (h : st ≠ 13) : s13 st = 0 := if_neg h
/-- a def's own entry, alone -/
theorem Sh.mkP {st : Int32} {f : Ae} {d : Nat} (hst : st = 7 ∨ st = 8 ∨ st = 9 ∨ st = 10 ∨ st = 11 ∨ st = 12) (e1 : f.1 = 53) (e2 : FV s f a d) (hd : d = if st = 8 then 1 else 2) (e3 : TkV s f.2.2.1) (e4 : st ≠ 8 → CdV s f.2.2.2.1) (e5 : pdN st = 1 → ∃ d, f.2.2.2.2.1 = nI d ∧ d + 1 = (s.1 9).length) : Sh tx s st [f] [] a :=
  Or.inr (Or.inr (Or.inr (Or.inr (Or.inr (Or.inr (Or.inl ⟨hst, rfl, f, rfl, e1, hd ▸ e2, e3, e4, e5⟩))))))
theorem Ex.mkP {st : Int32} {f : Ae} (e1 : f.1 = 53) (h43 : m 0 43 = f.2.1) (h24 : st ≠ 8 → m 24 0 = f.2.2.2.1 ∧ 1 ≤ a ∧ (st = 7 → (s.1 0).getD (a - 1) 0 = 29)) (hp : pdN st = 1 → 0 < (s.1 9).length ∧ m 14 ((s.1 9).length - 1) = nI (s.1 14).length ∧ m 15 ((s.1 9).length - 1) = nI (s.1 7).length) : Ex st [f] [] a s m := by
  refine ⟨fun q g e _ _ => ?_, fun q g e h => ?_, fun x e h => ?_, fun x e h => ?_, fun x e h h8 => ?_, hp⟩
  · rw [← app1 (xs := []) e]; exact h43
  · rw [← app1 (xs := []) e, e1] at h; exact absurd h (by decide)
  · rw [← (List.cons.inj e).1, e1] at h; exact absurd h (by decide)
  · rw [← (List.cons.inj e).1, e1] at h; exact absurd h (by decide)
  · rw [← (List.cons.inj e).1]
    exact ⟨rfl, h24 h8⟩
theorem cc53 {f : Ae} (h : f.1 = 53) : cc [f] = 0 ∧ lc [f] = 0 := by
  unfold cc lc ccF lcF
  rw [List.countP_singleton, List.countP_singleton, h]
  exact ⟨rfl, rfl⟩
theorem any53 {f : Ae} (h : f.1 = 53) : ([f].any fun x => x.1 == 53) = true := by
  simp [h]
/-- ( behind the name of a def -/
theorem go9 (h : Rel tx (s, 9, op, bl) a L m 1) (hI : Inv tx (s, 9, op, bl) a L) (ht : Tok tx a m) (ha : a + 1 < (tks tx).length) (hk : tkd (tks tx) a = 28) : L < 8 ∧ Good tx 9 (au_up s, 10, op, bl) a m := by
  obtain ⟨hO, hB, hS, hN⟩ := hI
  have hS2 : Sh tx s 9 op bl a := hS
  obtain ⟨hbl, f, hop, e1, e2, e3, e4, e5⟩ := Sh.sP hS2 (by decide)
  subst hbl
  subst hop
  have h5 := ht.k hk
  have h14 := h.q14
  have h33 := h.q33
  have ha3 := h.a3 ha
  have hr0 := h.r0 ha
  obtain ⟨hL, hR, hM, h7, ⟨_, _, h34⟩, hE⟩ := h
  have hL' : Lv a ((tks tx).length - 1) L s := hL
  have hE' : Ex 9 [f] [] a s m := hE
  have hM' : RR (tks tx) tx s a [] [] (oeP [f] []) (ocP [f]) 1 m := hM
  have hN' : Nm tx s 9 [f] [] a L := hN
  have hae : a < (tks tx).length - 1 := by omega
  obtain ⟨q1, q2, q3, q4, q5⟩ := hN'
  have hL0 : L = 0 := by
    rw [show s13 9 = 0 from rfl, show sPr 9 = 0 from rfl, (cc53 e1).2] at q4
    simpa using q4
  subst hL0
  refine ⟨by decide, MK 26 10 (mp m 33 (nI (0 + 1))), 0 + 1, ?_, ?_, ?_⟩
  · rw [mAcc_9, if_pos (by rw [h5]; rfl), lv_12026 h33 (by decide), bT_eq, if_neg (by decide), MK_e (m := mp m 33 (nI (0 + 1))) h14 (by omega), bO_some, if_neg (by decide)]
  · refine Rel.mk (hL'.up hae (by decide)) (hR.nx (fun _ _ => rfl) (fun _ _ => rfl) rfl) ?_ h7 (by unfold MK; rw [mp_s]) ?_ h34 ?_
    · exact ((hM'.f (f := 33) (x := nI (0 + 1)) (by decide)).i (s' := sV s 4 (s.2 4 + 1)) rfl).nx (w := 26) (st := 10) (by omega) (by
        show (26 : Int32) = wm ((s.1 0).getD a 0)
        rw [show (s.1 0).getD a 0 = _ from hr0, hk]
        rfl)
    · unfold MK
      rw [mp_n (by decide)]
      show mp m 33 (nI (0 + 1)) 0 33 = s.2 4 + 1
      rw [mp_s, hL'.2.2.2.2.2.2.1, nI_1]
    · refine Ex.mkP e1 (hE'.1 [] f rfl (by rw [e1]; decide) (by rw [e1]; decide)) (fun _ => ?_) (fun _ => hE'.2.2.2.2.2 rfl)
      obtain ⟨_, y2, y3, _⟩ := hE'.2.2.2.2.1 f rfl e1 (by decide)
      exact ⟨y2, by omega, fun q => absurd q (by decide)⟩
  · have hr : RwS s (au_up s) := RwS.of rfl rfl rfl
    refine Inv.mk IvO.nil (fun b hb => by cases hb) (Sh.mkP (Or.inr (Or.inr (Or.inr (Or.inl rfl)))) e1 (e2.up hr (d' := 2) (by show a + 2 ≤ a + 1 + (if (9 : Int32) = 8 then 1 else 2); rw [if_neg (by decide)]; omega)) rfl (e3.up hr) (fun _ => (e4 (by decide)).up hr) (fun _ => e5 rfl)) ?_
    have hb := (bend_s ha).1
    have c1 := (cc53 e1).1
    have c2 := (cc53 e1).2
    refine ⟨?_, fun e => absurd e (by decide), ?_, ?_, ?_⟩
    · show (s.1 7).length + [f].length + 2 * 0 ≤ 2 * (a + 1) + 0
      have q1' : (s.1 7).length + [f].length + 2 * 0 ≤ 2 * a + 0 := q1
      omega
    · show 3 * (s.1 15).length ≤ a + 1 + cc [f] + 0
      have q3' : 3 * (s.1 15).length ≤ a + cc [f] + 0 := q3
      omega
    · show 0 + 1 + 0 = 0 + lc [f] + 1
      omega
    · show 8 * (s.1 9).length + 0 ≤ bend (tks tx) (a + 1) + 3
      have q5' : 8 * (s.1 9).length + 0 ≤ bend (tks tx) a + 4 := q5
      omega
/-- , between parameters -/
theorem go12c (h : Rel tx (s, 12, op, bl) a L m 1) (hI : Inv tx (s, 12, op, bl) a L) (ht : Tok tx a m) (ha : a + 1 < (tks tx).length) (hk : tkd (tks tx) a = 32) : Good tx 12 (au_nx s, 11, op, bl) a m := by
  obtain ⟨hO, hB, hS, hN⟩ := hI
  have hS2 : Sh tx s 12 op bl a := hS
  obtain ⟨hbl, f, hop, e1, e2, e3, e4, e5⟩ := Sh.sP hS2 (by decide)
  subst hbl
  subst hop
  have h5 := ht.k hk
  have hw : (30 : Int32) = wm ((s.1 0).getD a 0) := by rw [h.r0 ha, hk]; rfl
  have hr : RwS s (au_nx s) := RwS.nx
  refine ⟨MK 30 11 m, L, ?_, ?_, ?_⟩
  · rw [mAcc_12]
    unfold f_12051
    rw [if_pos (by rw [h5]; rfl), bO_id, MK_e h.q14 (by have := h.a3 ha; omega)]
  · refine Rel.tk h.w ha hw rfl rfl rfl (fun x hx => ?_)
    rw [← (List.cons.inj hx).1, e1]
    exact ⟨by decide, by decide, fun _ => ⟨by decide, by decide⟩⟩
  · refine Inv.mk IvO.nil (fun b hb => by cases hb) (Sh.mkP (Or.inr (Or.inr (Or.inr (Or.inr (Or.inl rfl))))) e1 (e2.up hr (d' := 2) (by show a + 2 ≤ a + 1 + (if (12 : Int32) = 8 then 1 else 2); rw [if_neg (by decide)]; omega)) rfl (e3.up hr) (fun _ => (e4 (by decide)).up hr) (fun _ => e5 rfl)) ?_
    exact Nm.tk (st := 12) (st' := 11) hN ha rfl rfl rfl rfl (Nat.le_succ _) ⟨by decide, by decide⟩ rfl rfl rfl
/-- ) behind parameters -/
theorem goPz {st : Int32} (hst : st = 10 ∨ st = 12) (h : Rel tx (s, st, op, bl) a L m 1) (hI : Inv tx (s, st, op, bl) a L) (ht : Tok tx a m) (ha : a + 1 < (tks tx).length) (hk : tkd (tks tx) a = 29) : ∃ f, op = [f] ∧ Good tx st (au_pz f.2.2.2.2.1 s, 7, op, bl) a m := by
  obtain ⟨hO, hB, hS, hN⟩ := hI
  have hS2 : Sh tx s st op bl a := hS
  have hst8 : st ≠ 8 := by rcases hst with e | e <;> rw [e] <;> decide
  have hpd : pdN st = 1 := by rcases hst with e | e <;> rw [e] <;> rfl
  obtain ⟨hbl, f, hop, e1, e2, e3, e4, e5⟩ := Sh.sP hS2 (by rcases hst with e | e <;> rw [e] <;> decide)
  subst hbl
  subst hop
  refine ⟨f, rfl, ?_⟩
  have h5 := ht.k hk
  have h14 := h.q14
  have h33 := h.q33
  have ha3 := h.a3 ha
  have hr0 := h.r0 ha
  have h32 : mf m 32 = st := h.2.2.2.2.1.1
  obtain ⟨hL, hR, hM, h7, ⟨_, _, h34⟩, hE⟩ := h
  have hL' : Lv a ((tks tx).length - 1) L s := hL
  have hE' : Ex st [f] [] a s m := hE
  have hmo : mop st [f] = [] := by rcases hst with e | e <;> rw [e] <;> rfl
  have hM' : RR (tks tx) tx s a [] [] (oeP [f] []) (ocP [f]) 1 m := by
    have q : RR (tks tx) tx s a (mop st [f]) [] (oeP [f] []) (ocP [f]) (pdN st) m := hM
    rw [hmo, hpd] at q
    exact q
  have hN' : Nm tx s st [f] [] a L := hN
  have hae : a < (tks tx).length - 1 := by omega
  obtain ⟨d, hd1, hd2⟩ := e5 hpd
  obtain ⟨x0, x14, x15⟩ := hE'.2.2.2.2.2 hpd
  obtain ⟨q1, q2, q3, q4, q5⟩ := hN'
  have z1 : s13 st = 0 := by rcases hst with e | e <;> rw [e] <;> rfl
  have z2 : sPr st = 1 := by rcases hst with e | e <;> rw [e] <;> rfl
  have hL1 : L = 1 := by
    rw [z1, z2, (cc53 e1).2] at q4
    simpa using q4
  subst hL1
  have hbnd := bend_s ha
  have hn40 : 8 * (s.1 9).length + dsA st ≤ bend (tks tx) a + 4 := by
    have : dsB st [f] [] = 3 := by rcases hst with e | e <;> rw [e] <;> rfl
    omega
  have hx300 : tx.length ≤ 300 := hM'.1.1.1
  have hw : (27 : Int32) = wm ((s.1 0).getD a 0) := by
    rw [show (s.1 0).getD a 0 = _ from hr0, hk]
    rfl
  have hacc : mAcc st m = some (MK 27 7 (mp m 33 (nI 0)), 1) := by
    have e33 : mf m 33 - 1 = nI 0 := by rw [h33]; exact nI_pred 0
    have hmk : f_12022 27 7 (mp m 33 (nI 0)) = some (MK 27 7 (mp m 33 (nI 0)), 1) := MK_e (m := mp m 33 (nI 0)) h14 (by omega)
    rcases hst with e | e
    · subst e
      rw [mAcc_10]
      unfold f_12050
      rw [if_pos (by rw [h5]; rfl), if_pos h32, bS_eq, bO_id, e33]
      exact hmk
    · subst e
      rw [mAcc_12]
      unfold f_12051
      rw [if_neg (by rw [h5]; decide), if_pos (by rw [h5]; rfl)]
      unfold f_12051_J37
      rw [bS_eq, e33, if_pos (show mf (mp m 33 (nI 0)) 5 = 27 from h5), bO_id]
      exact hmk
  refine ⟨MK 27 7 (mp m 33 (nI 0)), 0, hacc, ?_, ?_⟩
  · have hRR1 := ((hM'.f (f := 33) (x := nI 0) (by decide)).nx (w := 27) (st := 7) (by omega) hw).i (s' := au_dn (au_nx s)) rfl
    have hRR2 := (hRR1.pz (nd := d) (d := f.2.2.2.2.1) (x := s.2 2 + 1) (by show (s.1 9).length = _; omega) (by omega) hd1 (by
      show m 14 d = nI (s.1 14).length
      rw [← x14]
      congr 1
      omega) (by
      show m 15 d = nI (s.1 7).length
      rw [← x15]
      congr 1
      omega)).i (s' := au_pz f.2.2.2.2.1 s) rfl
    refine Rel.mk (((((hL'.nx hae).dn).co (s' := f_4011 f.2.2.2.2.1 (nI (s.1 14).length) (s.2 2 + 1) (f_4006 s) (au_dn (au_nx s))) ⟨rfl, fun _ _ => rfl⟩).s5 (Or.inr rfl))) (hR.nx (fun _ _ => rfl) (fun _ _ => rfl) rfl) hRR2 h7 (by unfold MK; rw [mp_s]) ?_ ?_ ?_
    · unfold MK
      rw [mp_n (by decide)]
      show mp m 33 (nI 0) 0 33 = s.2 4 - 1
      rw [mp_s, hL'.2.2.2.2.2.2.1]
      exact (nI_pred 0).symm
    · show m 0 34 = scN 7 1
      have h34' : m 0 34 = scN st (s.2 5) := h34
      rw [h34']
      rcases hst with e | e <;> rw [e] <;> rfl
    · refine Ex.mkP e1 (hE'.1 [] f rfl (by rw [e1]; decide) (by rw [e1]; decide)) (fun _ => ?_) (fun q => absurd q (by decide))
      obtain ⟨_, y2, y3, _⟩ := hE'.2.2.2.2.1 f rfl e1 hst8
      refine ⟨y2, by omega, fun _ => ?_⟩
      show (s.1 0).getD (a + 1 - 1) 0 = 29
      rw [Nat.add_sub_cancel, show (s.1 0).getD a 0 = _ from hr0, hk]
  · have hr : RwS s (au_pz f.2.2.2.2.1 s) := RwS.of rfl rfl rfl
    refine Inv.mk IvO.nil (fun b hb => by cases hb) (Sh.mkP (Or.inl rfl) e1 (e2.up hr (d' := 2) (by rw [if_neg hst8]; omega)) rfl (e3.up hr) (fun _ => (e4 hst8).up hr) (fun q => absurd q (by decide))) ?_
    have c1 := (cc53 e1).1
    have c2 := (cc53 e1).2
    rw [z1] at q1 q3
    have dA : dsA st = 0 := by rcases hst with e | e <;> rw [e] <;> rfl
    have dB : dsB st [f] [] = 3 := by rcases hst with e | e <;> rw [e] <;> rfl
    rw [dA, dB] at q5
    have dB7 : dsB 7 [f] [] = 2 := by
      unfold dsB
      rw [if_neg (by decide), if_neg (by decide), if_neg (by decide), if_pos (any53 e1)]
    refine ⟨?_, fun e => absurd e (by decide), ?_, ?_, ?_⟩
    · show (s.1 7).length + [f].length + 2 * 0 ≤ 2 * (a + 1) + 0
      have q1' : (s.1 7).length + [f].length + 2 * 0 ≤ 2 * a + 0 := q1
      omega
    · show 3 * (s.1 15).length ≤ a + 1 + cc [f] + 0
      omega
    · show 0 + 0 = 0 + lc [f] + 0
      omega
    · rw [dB7]
      show 8 * (s.1 9).length + 0 ≤ bend (tks tx) (a + 1) + 2
      omega
end PM
