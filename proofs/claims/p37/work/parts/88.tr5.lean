/-! acts: a parameter; a block opens -/
section PB
variable {tx : List Int32} {s : Sx} {op bl : List Ae} {a L : Nat} {m : Mx}
theorem sv_n {e i : Nat} {x : Int32} (h : Lv a e L s) (hi : i ≠ a) : ((au_sv (s.2 2) x s).1 1).getD i 0 = (s.1 1).getD i 0 := by
  have h3 := h.2.2.2.2.1
  have h4 := h.2.2.2.1
  have e1 : (au_sv (s.2 2) x s).1 1 = (s.1 1).set a x := by
    show xset (s.1 1) (s.2 2) x = _
    rw [h.2.1, xset_n (by omega)]
  rw [e1, gD_set_n (fun e => hi e.symm)]
theorem j67_e (x : Nat) (v : Int32) (s : Sx) : (f_5022_J67 x v s).1 = au_nx (au_sv (s.2 2) v (au_sk 34 s)) := rfl
/-- a name that is taken as a variable: what stays -/
theorem RR.var {T : List Tk} {mo : List Ae} {oe oc : Nat → Prop} {pd e : Nat} {v st : Int32} (h : RR T tx s a mo bl oe oc pd m) (hL : Lv a e L s) (hae : a < e) : RR T tx (au_nx (au_sv (s.2 2) v (au_sk 34 s))) (a + 1) mo bl oe oc pd (MK 2 st m) := by
  have h3 := hL.2.2.2.2.1
  have h34 : ((au_sk 34 s).1 0).getD a 0 = 34 := sk_s hL hae
  have h1 := (h.sk (x := 34) hL.2.1 (by omega)).sv (i := a) (t := s.2 2) (x := v) hL.2.1 (by omega) (by rw [h34]; decide)
  exact h1.nx (by omega) (by
    show (2 : Int32) = wm (((au_sk 34 s).1 0).getD a 0)
    rw [h34]
    rfl)
theorem RwS.var {e : Nat} {v : Int32} (hL : Lv a e L s) (hae : a < e) : RwS s (au_nx (au_sv (s.2 2) v (au_sk 34 s))) :=
  (RwS.sk (x := 34) hL.2.1 (by have := hL.2.2.2.2.1; omega) (by decide)).tr (RwS.of rfl rfl rfl)
theorem Raw.var {e : Nat} {v : Int32} (h : Raw tx s a) (hL : Lv a e L s) : Raw tx (au_nx (au_sv (s.2 2) v (au_sk 34 s))) (a + 1) := by
  refine h.nx (fun i hi => sk_n hL (by omega)) (fun i hi => ?_) ?_
  · exact sv_n (s := s) hL (by omega)
  · show (xset (s.1 1) (s.2 2) v).length = _
    rw [xset_len]
theorem Lv.var {e : Nat} {v : Int32} (h : Lv a e L s) (hae : a < e) : Lv (a + 1) e L (au_nx (au_sv (s.2 2) v (au_sk 34 s))) := ((h.sk (x := 34) hae (by decide)).co (Co_sB (k := 1) (by decide))).nx hae
/-- a parameter -/
theorem goPrm {st : Int32} (hst : st = 10 ∨ st = 11) (h : Rel tx (s, st, op, bl) a L m 1) (hI : Inv tx (s, st, op, bl) a L) (ht : Tok tx a m) (ha : a + 1 < (tks tx).length) (hk : tkd (tks tx) a = 4) (hx : xpos (s.1 14) (tvl (tks tx) a) = -1) (hl8 : (s.1 14).length < 8) :
    Good tx st ((f_5022 14 s).1, 12, op, bl) a m := by
  obtain ⟨hO, hB, hS, hN⟩ := hI
  have hS2 : Sh tx s st op bl a := hS
  have hst8 : st ≠ 8 := by rcases hst with e | e <;> rw [e] <;> decide
  have hst7 : st ≠ 7 := by rcases hst with e | e <;> rw [e] <;> decide
  have hpd : pdN st = 1 := by rcases hst with e | e <;> rw [e] <;> rfl
  obtain ⟨hbl, f, hop, e1, e2, e3, e4, e5⟩ := Sh.sP hS2 (by rcases hst with e | e <;> rw [e] <;> decide)
  subst hbl
  subst hop
  have h5 := ht.k hk
  have h14 := h.q14
  have ha3 := h.a3 ha
  have hr0 := h.r0 ha
  have h32 : mf m 32 = st := h.2.2.2.2.1.1
  have hL' : Lv a ((tks tx).length - 1) L s := h.1
  have hR' : Raw tx s a := h.2.1
  have hval := hR'.vl hL' (by omega)
  obtain ⟨hL, hR, hM, h7, ⟨_, h33, h34⟩, hE⟩ := h
  have hE' : Ex st [f] [] a s m := hE
  have hmo : mop st [f] = [] := by rcases hst with e | e <;> rw [e] <;> rfl
  have hM' : RR (tks tx) tx s a [] [] (oeP [f] []) (ocP [f]) 1 m := by
    have q : RR (tks tx) tx s a (mop st [f]) [] (oeP [f] []) (ocP [f]) (pdN st) m := hM
    rw [hmo, hpd] at q
    exact q
  have hN' : Nm tx s st [f] [] a L := hN
  have hae : a < (tks tx).length - 1 := by omega
  have h34' : mf m 34 = nI 1 := by
    have q : m 0 34 = scN st (s.2 5) := h34
    have : scN st (s.2 5) = 1 := by rcases hst with e | e <;> rw [e] <;> rfl
    rw [this] at q
    exact q
  obtain ⟨d, hd1, hd2⟩ := e5 hpd
  obtain ⟨x0, x14, x15⟩ := hE'.2.2.2.2.2 hpd
  have hbnd := bend_s ha
  have z1 : s13 st = 0 := by rcases hst with e | e <;> rw [e] <;> rfl
  have z2 : sPr st = 1 := by rcases hst with e | e <;> rw [e] <;> rfl
  obtain ⟨q1, q2, q3, q4, q5⟩ := hN'
  have dA : dsA st = 0 := by rcases hst with e | e <;> rw [e] <;> rfl
  have dB : dsB st [f] [] = 3 := by rcases hst with e | e <;> rw [e] <;> rfl
  have hx300 : tx.length ≤ 300 := hM'.1.1.1
  obtain ⟨v1, v2, v3, v4⟩ := var_12029 hM' (o := 1) (Nat.le_refl _) h34' ht.2.1 h7 ha hk
  obtain ⟨m1, w1, w2, w3a⟩ := v3 hx hl8
  have w3 : m1 0 = m 0 := w3a 0 (by decide) (by decide) (by decide)
  have w2' : RR (tks tx) tx (sB s 14 (s.1 14 ++ [tvl (tks tx) a])) a [] [] (oeP [f] []) (ocP [f]) 1 m1 := w2
  generalize hs1 : sB s 14 (s.1 14 ++ [tvl (tks tx) a]) = s1 at w2'
  have hs1L : Lv a ((tks tx).length - 1) L s1 := by rw [← hs1]; exact hL'.co (Co_sB (by decide))
  have hs1R : Raw tx s1 a := by rw [← hs1]; exact hR'
  have r14 : s1.1 14 = s.1 14 ++ [tvl (tks tx) a] := by rw [← hs1]; rfl
  have r9 : s1.1 9 = s.1 9 := by rw [← hs1]; rfl
  have r7 : s1.1 7 = s.1 7 := by rw [← hs1]; rfl
  have r0s : s1.1 0 = s.1 0 := by rw [← hs1]; rfl
  have r5s : s1.1 5 = s.1 5 := by rw [← hs1]; rfl
  have r15s : s1.1 15 = s.1 15 := by rw [← hs1]; rfl
  have i45 : s1.2 = s.2 := by rw [← hs1]; rfl
  have hf : (f_5022 14 s).1 = au_nx (au_sv (s1.2 2) (nI (s.1 14).length) (au_sk 34 s1)) := by
    have hxv : xpos (s.1 14) (xg (s.1 1) (s.2 2)) = -1 := by rw [hval]; exact hx
    unfold f_5022
    rw [if_pos hxv, if_pos (show nI (s.1 14).length < 8 from nI_lt (b := 8) hl8 (by decide)), bS_eq, j67_e]
    rw [show xadd (ev_cap 14) (s.1 14) (xg (s.1 1) (s.2 2)) = s.1 14 ++ [tvl (tks tx) a] by rw [hval]; exact xadd_e hl8, hs1]
  have hnd : (s.1 9).length = d + 1 := by omega
  have f22 : mf m1 22 = nI (d + 1) := by
    have : m 0 22 = nI (s.1 9).length := hM'.2.2.2.2.2.1.1
    show m1 0 22 = _
    rw [w3, this, hnd]
  have hm14 : mg m1 14 (nI d) = nI (s.1 14).length := by
    rw [mg_n (by omega)]
    have hQ := w2'.2.2.2.2.2.1
    rw [w3a 14 (by decide) (by decide) (by decide), ← x14]
    congr 1
    omega
  have hacc : mAcc st m = some (MK 2 12 (ms m1 14 (nI d) (nI ((s.1 14).length + 1))), 1) := by
    have hJ : f_12050_J37 m = some (MK 2 12 (ms m1 14 (nI d) (nI ((s.1 14).length + 1))), 1) := by
      unfold f_12050_J37
      have hxn : ¬ nI (s.1 14).length = -1 := fun e => by
        have h0 : (0 : Int32) ≤ nI (s.1 14).length := nI_pos' (by omega)
        rw [e] at h0
        exact absurd h0 (by decide)
      rw [if_pos (by rw [h5]; rfl), v4, bP_some, if_pos hx, w1, bO_some]
      rw [if_neg hxn, f22, nI_pred, gd_e (vi_n (by omega) (by omega)), gd_e (vi_n (by omega) (by omega)), hm14, nI_1, bS_eq, bO_id]
      exact MK_e (m := ms m1 14 (nI d) (nI ((s.1 14).length + 1))) (by show m1 0 14 = _; rw [w3]; exact h14) (by omega)
    have hne : ¬ mf m 5 = 27 := by rw [h5]; decide
    rcases hst with e | e
    · subst e
      rw [mAcc_10]
      unfold f_12050
      rw [if_neg hne]
      exact hJ
    · subst e
      rw [mAcc_11]
      unfold f_12050
      rw [if_neg hne]
      exact hJ
  have hR2 := (w2'.m14 (nd := d) (x := nI ((s.1 14).length + 1)) (by rw [r9]; exact hnd) (by omega)).var (v := nI (s.1 14).length) (st := 12) hs1L hae
  rw [hf]
  refine ⟨MK 2 12 (ms m1 14 (nI d) (nI ((s.1 14).length + 1))), L, hacc, ?_, ?_⟩
  · refine Rel.mk (hs1L.var hae) (hs1R.var hs1L) hR2 ?_ (by unfold MK; rw [mp_s]) ?_ ?_ ?_
    · show m1 0 7 = _
      rw [w3]
      exact h7
    · show m1 0 33 = s1.2 4
      rw [w3, i45]
      exact h33
    · show m1 0 34 = 1
      rw [w3]
      exact h34'
    · refine Ex.mkP e1 ?_ (fun _ => ?_) (fun _ => ?_)
      · show m1 0 43 = _
        rw [w3]
        exact hE'.1 [] f rfl (by rw [e1]; decide) (by rw [e1]; decide)
      · obtain ⟨_, y2, y3, _⟩ := hE'.2.2.2.2.1 f rfl e1 hst8
        refine ⟨?_, by omega, fun q => absurd q (by decide)⟩
        show m1 24 0 = _
        rw [w3a 24 (by decide) (by decide) (by decide)]
        exact y2
      · show 0 < (s1.1 9).length ∧ ms m1 14 (nI d) (nI ((s.1 14).length + 1)) 14 ((s1.1 9).length - 1) = nI (s1.1 14).length ∧ m1 15 ((s1.1 9).length - 1) = nI (s1.1 7).length
        rw [r9, r14, r7, List.length_append, w3a 15 (by decide) (by decide) (by decide)]
        refine ⟨x0, ?_, x15⟩
        rw [ms_s (by omega)]
        show (if (s.1 9).length - 1 = d then _ else _) = _
        rw [if_pos (by omega)]
        rfl
  · have hr : RwS s (au_nx (au_sv (s1.2 2) (nI (s.1 14).length) (au_sk 34 s1))) := (RwS.of r0s (by rw [r5s]) r7).tr (RwS.var hs1L hae)
    refine Inv.mk IvO.nil (fun b hb => by cases hb) (Sh.mkP (Or.inr (Or.inr (Or.inr (Or.inr (Or.inr rfl))))) e1 (e2.up hr (d' := 2) (by rw [if_neg hst8]; omega)) rfl (e3.up hr) (fun _ => (e4 hst8).up hr) (fun _ => ⟨d, hd1, ?_⟩)) ?_
    · show d + 1 = (s1.1 9).length
      rw [r9]
      exact hd2
    · rw [z1] at q1 q3 q4
      rw [z2] at q4
      rw [dA, dB] at q5
      refine ⟨?_, fun e => absurd e (by decide), ?_, ?_, ?_⟩
      · show (s1.1 7).length + [f].length + 2 * 0 ≤ 2 * (a + 1) + 0
        have q1' : (s.1 7).length + [f].length + 2 * 0 ≤ 2 * a + 0 := q1
        rw [r7]
        omega
      · show 3 * (s1.1 15).length ≤ a + 1 + cc [f] + 0
        rw [r15s]
        omega
      · show L + 0 = 0 + lc [f] + 1
        have q4' : L + 0 = 0 + lc [f] + 1 := q4
        exact q4'
      · show 8 * (s1.1 9).length + 0 ≤ bend (tks tx) (a + 1) + 3
        rw [r9]
        omega
end PB
