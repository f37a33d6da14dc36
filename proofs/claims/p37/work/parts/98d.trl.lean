/-! the law: what a trial of the draft tells -/
section TRL
variable {x : Nat} {T T' : Tx} {m m0 m' : Mx} {tx : List Int32} {n f : Nat} {s s' : Sx} {a b e : Int32} {O C : List Int32} {f' : Nat}
/-- every run of the text's program comes to that -/
def RN (tx : List Int32) (f : Nat) (a b : Int32) (O C : List Int32) (f' : Nat) (e : Int32) : Prop := ∀ s, Red tx s → ∀ s' : Sx, (∀ k, k < 13 → s'.1 k = s.1 k) → ∃ rW rM, f_10001 (nI f) a b s' = some rW ∧ f_3001 (nI f) a b s' = some rM ∧ RunX s' O C f' e rW ∧ RunX s' O C f' e rM
theorem RN.ex (hn : tx.length ≤ 300) (hs : Red tx s) (hm : MT tx m) (hf : f ≤ 5000) : ∃ (O C : List Int32) (f' : Nat) (e : Int32), e ≠ -1 ∧ O.length ≤ 8 ∧ C.length = 32 ∧ f' ≤ 5000 ∧ RN tx f a b O C f' e := by
  obtain ⟨m1, i, c, d, h1, h2, h3, h4, h5, hC, hM, hT⟩ := hs.go hn hm
  obtain ⟨O, C, f', e, rR, g1, g2, g3, g4, g5, g6, g7⟩ := run3 (x := a) (y := b) hf hC hM
  refine ⟨O, C, f', e, g1, g2, g3, g4, fun s2 hs2 s' hs' => ?_⟩
  obtain ⟨m2, i2, c2, d2, k1, k2, k3, k4, k5, kC, kM, kT⟩ := hs2.go hn hm
  rw [h1] at k1
  cases k1
  obtain ⟨O', C', f'', e', rR', l1, l2, l3, l4, l5, l6, l7⟩ := run3 (x := a) (y := b) hf kC kM
  rw [g5] at l5
  cases l5
  have eL : O'.length = O.length := by
    have := l6.2.1.symm.trans g6.2.1
    rw [nI_eq (by omega) (by omega)] at this
    exact this
  have eO : O' = O := l_ext eL (fun k hk => (l6.2.2.2.1 k hk).symm.trans (g6.2.2.2.1 k (by omega)))
  have eC : C' = C := l_ext (by omega) (fun k hk => (l6.2.2.2.2.1 k (by omega)).symm.trans (g6.2.2.2.2.1 k (by omega)))
  have ef : f'' = f' := by
    have := l6.2.2.1.symm.trans g6.2.2.1
    rw [nI_eq (by omega) (by omega)] at this
    exact this
  have ee : e' = e := l6.1.symm.trans g6.1
  rw [eO, eC, ef, ee] at l7
  exact l7 s' hs'
/-- what the last trial has left -/
def TrS (x : Nat) (T : Tx) (O C : List Int32) (f' : Nat) : Prop := tB T (x + 43) = O ∧ tB T (x + 45) = C ∧ tV T (x + 42) 4 = nI f'
def mtr (m : Mx) (O C : List Int32) (f' : Nat) : Mx := fun j => if j = 0 then (fun g => if g = 60 then nI O.length else if g = 63 then nI f' else m 0 g) else if j = 35 then (fun k => O.getD k 0) else if j = 36 then (fun k => C.getD k 0) else m j
theorem mtr_j {j : Nat} (h0 : j ≠ 0) (h1 : j ≠ 35) (h2 : j ≠ 36) : mtr m O C f' j = m j := by
  unfold mtr
  rw [if_neg h0, if_neg h1, if_neg h2]
theorem mtr_g {g : Nat} (h0 : g ≠ 60) (h1 : g ≠ 63) : mtr m O C f' 0 g = m 0 g := by
  unfold mtr
  rw [if_pos rfl, if_neg h0, if_neg h1]
theorem mtr_w : Mw m (mtr m O C f') := ⟨fun _ hj => mtr_j (by omega) (by omega) (by omega), fun _ hf => mtr_g (by omega) (by omega)⟩
theorem Wt.trial (h : Wt x m0 T tx) (hok : ∀ s0 s1, tkR s0 (tks tx) → f_5001 s0 = some s1 → s1.2 0 = 0) (h1 : O.length ≤ 8) (h2 : C.length = 32) (hf : f ≤ 5000) (hR : RN tx f a b O C f' e) : (∃ T', h_13006 x (nI f) a b T = some (T', e) ∧ Wt x m0 T' tx ∧ TrS x T' O C f') ∧ ∃ T', h_13007 x (nI f) a b T = some (T', e) ∧ Wt x m0 T' tx ∧ TrS x T' O C f' := by
  obtain ⟨m, ⟨es, ts, as, ps, txs, ss, pd, own, h, hzz⟩, hMw⟩ := h
  obtain ⟨T1, pd1, own1, g1, g4, g5⟩ := rdD h
  have hr : ReadIs T1 pd1 tx := by
    rcases g4.2.1.2.2.2.2.1 with w | w
    · rw [g5] at w; exact absurd w (by decide)
    · exact w.2
  obtain ⟨s0, s1, r1, r2, r3, g6⟩ := hr
  have hs0 := hok s0 s1 r1 r3
  have hRed : Red tx s1 := ⟨s0, r1, r2, r3, hs0⟩
  have hP := g4.2.1.2.2.1
  obtain ⟨rW, rM, p1, p2, p3, p4⟩ := hR s1 hRed (pj T1 x pd1 true) g6.pj
  have hv : 0 ≤ (nI f).toInt ∧ (nI f).toInt ≤ 5000 := by rw [nI_T (by omega)]; omega
  have fin : ∀ T'', RunT T1 T'' x true O C f' e → Wt x m0 T'' tx ∧ TrS x T'' O C f' := fun T'' q2 =>
    ⟨⟨mtr m O C f', ⟨_, _, _, _, _, _, _, _, g4.tri q2 h1 h2 (by unfold mtr; rw [if_pos rfl, if_pos rfl]) (fun k hk => by unfold mtr; rw [if_neg (by decide), if_pos rfl]) (by unfold mtr; rw [if_pos rfl, if_neg (by decide), if_pos rfl]) (fun k hk => by unfold mtr; rw [if_neg (by decide), if_neg (by decide), if_pos rfl]) (fun j h0 hj => mtr_j h0 (by omega) (by omega)) (fun g hg => mtr_g (by omega) (by omega)), by have := rdz g1; have := q2.2.2.2.2.2.1; omega⟩, hMw.tr mtr_w⟩, q2.2.1, q2.2.2.1, q2.2.2.2.1⟩
  refine ⟨?_, ?_⟩
  · obtain ⟨T'', q1, q2⟩ := en_m g4.1 hP g4.2.1.2.2.2.1 p2 p4
    have r2 := q2
    obtain ⟨y1, y2, y3, y4, y5, y6, y7, y8⟩ := r2
    have hh : h_11009 x (nI f) a b T = some (T'', .inr e) := by
      unfold h_11009
      rw [h36_y hv, bXp_some, gd_e h.1.1, g1, bOv_some, gd_e g4.1.1, g43 (hS := g4.1.1) g4.2.1.2.1 hP.1, if_pos (by rw [g6.2.1]; exact hs0), bXp_some, gd_e g4.1.1, g4.1.2.2.2.2.2.1.1, bP_some, gd_e g4.1.1, g4.2.1.2.1, bP_some, gd_e g4.1.1, g4.1.2.2.2.1.1, bP_some, gd_e g4.1.2.2.2.2.2.1.2.1]
      rw [show h_3001 x (x + 60) pd1 (x + 42) (nI f) a b T1 = some T'' from q1, bOv_some, gd_e y1.1, y1.2.2.2.1.1, bP_some, gd_e y1.2.2.2.1.2.1]
      unfold h_7003
      rw [gd_e y1.2.2.2.1.2.1, bP_some]
      exact congrArg (fun z => some (T'', Sum.inr z)) y5
    refine ⟨T'', ?_, fin T'' q2⟩
    unfold h_13006
    rw [hh]
    rfl
  · obtain ⟨T'', q1, q2⟩ := en_w g4.1 hP g4.2.1.2.2.2.1 p1 p3
    have r2 := q2
    obtain ⟨y1, y2, y3, y4, y5, y6, y7, y8⟩ := r2
    have hh : h_11010 x (nI f) a b T = some (T'', .inr e) := by
      unfold h_11010
      rw [h36_y hv, bXp_some, gd_e h.1.1, g1, bOv_some, gd_e g4.1.1, g43 (hS := g4.1.1) g4.2.1.2.1 hP.1, if_pos (by rw [g6.2.1]; exact hs0), bXp_some, gd_e g4.1.1, g4.1.2.2.2.2.2.2.1.1, bP_some, gd_e g4.1.1, g4.2.1.2.1, bP_some, gd_e g4.1.1, g4.1.2.2.2.1.1, bP_some, gd_e g4.1.2.2.2.2.2.2.1.2.1]
      rw [show h_10001 x (x + 63) pd1 (x + 42) (nI f) a b T1 = some T'' from q1, bOv_some, gd_e y1.1, y1.2.2.2.1.1, bP_some, gd_e y1.2.2.2.1.2.1]
      unfold h_7003
      rw [gd_e y1.2.2.2.1.2.1, bP_some]
      exact congrArg (fun z => some (T'', Sum.inr z)) y5
    refine ⟨T'', ?_, fin T'' q2⟩
    unfold h_13007
    rw [hh]
    rfl
/-- a draft without a fault runs -/
theorem Wt.run (h : Wt x m0 T tx) (hok : ∀ s0 s1, tkR s0 (tks tx) → f_5001 s0 = some s1 → s1.2 0 = 0) (f : Nat) (a b : Int32) (hf : f ≤ 5000) : ∃ (O C : List Int32) (f' : Nat) (e : Int32), e ≠ -1 ∧ O.length ≤ 8 ∧ C.length = 32 ∧ f' ≤ 5000 ∧ RN tx f a b O C f' e ∧ ∃ s, Red tx s := by
  obtain ⟨m, ⟨es, ts, as, ps, txs, ss, pd, own, h, hzz⟩, hMw⟩ := h
  obtain ⟨b1, b2, b3, b4, b5⟩ := h.2.1.1
  obtain ⟨T1, pd1, own1, g1, g4, g5⟩ := rdD h
  have hr : ReadIs T1 pd1 tx := by
    rcases g4.2.1.2.2.2.2.1 with w | w
    · rw [g5] at w; exact absurd w (by decide)
    · exact w.2
  obtain ⟨s0, s1, r1, r2, r3, g6⟩ := hr
  have hRed : Red tx s1 := ⟨s0, r1, r2, r3, hok s0 s1 r1 r3⟩
  obtain ⟨m1, c1, c2, c3⟩ := ld_dr (m := m) b2 (fun k hk => (b3 _ (gD_mem hk)).ch.2) b4 (fun k hk => b5 k hk)
  obtain ⟨O, C, f', e, k1, k2, k3, k4, k5⟩ := RN.ex (a := a) (b := b) b2 hRed c1 hf
  exact ⟨O, C, f', e, k1, k2, k3, k4, k5, s1, hRed⟩
/-! what can be asked then -/
theorem Wt.shp (h : Wt x m0 T tx) : Shp T x ∧ (tB T (x + 43)).length ≤ 8 ∧ (tB T (x + 45)).length = 32 := by
  obtain ⟨m, ⟨es, ts, as, ps, txs, ss, pd, own, h, hzz⟩, _⟩ := h
  exact ⟨h.1, h.2.2.1.1, h.2.2.1.2.2.2.2.1⟩
theorem Wt.runc (h : Wt x m0 T tx) : tW T x 5 = some (x + 42) ∧ tK T (x + 42) = 8 ∧ tW T (x + 42) 0 = some (x + 43) ∧ tK T (x + 43) = 7 ∧ tW T (x + 42) 1 = some (x + 45) ∧ tK T (x + 45) = 7 := by
  obtain ⟨m, ⟨es, ts, as, ps, txs, ss, pd, own, h, hzz⟩, _⟩ := h
  exact h.run
theorem Wt.outs (h : Wt x m0 T tx) (ht : TrS x T O C f') : h_11011 x T = some (nI O.length) ∧ h_11013 x T = some (nI f') := by
  obtain ⟨r1, r2, r3, r4, r5, r6⟩ := h.runc
  refine ⟨?_, ?_⟩
  · unfold h_11011 h_7005
    rw [gd_e h.k12, r1, bP_some, gd_e r2, gd_e r2, r3, bP_some, gd_e r4, bP_some, ht.1]
  · unfold h_11013 h_7004
    rw [gd_e h.k12, r1, bP_some, gd_e r2, gd_e r2, bP_some, ht.2.2]
theorem Wt.outAt (h : Wt x m0 T tx) (ht : TrS x T O C f') {k : Nat} (hk : k < O.length) : h_13008 x (nI k) T = some (O.getD k 0) := by
  obtain ⟨r1, r2, r3, r4, r5, r6⟩ := h.runc
  have h8 := h.shp.2.1
  rw [ht.1] at h8
  have ek : (nI k).toInt = k := nI_T (by omega)
  have e5 : h_7005 (x + 42) T = some (nI (tB T (x + 43)).length) := by
    unfold h_7005
    rw [gd_e r2, r3, bP_some, gd_e r4]
  have hh : h_11012 x (nI k) T = some (.inr (O.getD k 0)) := by
    unfold h_11012 h_7006
    rw [if_neg (nI_nn (by omega)), gd_e h.k12, r1, bP_some, gd_e r2, e5, bP_some, ht.1, if_pos ((lt_n (by omega)).2 (by omega)), gd_e h.k12, bP_some, gd_e r2, gd_e r2, r3, bP_some, gd_e r4, bP_some, xg_at (by omega), ek, Int.toNat_natCast, ht.1]
  unfold h_13008
  rw [hh]
  rfl
theorem Wt.outAtF (h : Wt x m0 T tx) (ht : TrS x T O C f') {v : Int32} (hv : ¬ (0 ≤ v.toInt ∧ v.toInt < O.length)) : h_13008 x v T = some (-1000001) := by
  obtain ⟨r1, r2, r3, r4, r5, r6⟩ := h.runc
  have h8 := h.shp.2.1
  rw [ht.1] at h8
  have e5 : h_7005 (x + 42) T = some (nI (tB T (x + 43)).length) := by
    unfold h_7005
    rw [gd_e r2, r3, bP_some, gd_e r4]
  have hh : h_11012 x v T = some (.inl 2) := by
    unfold h_11012
    by_cases c0 : v < 0
    · rw [if_pos c0]
    · rw [if_neg c0, gd_e h.k12, r1, bP_some, gd_e r2, e5, bP_some, ht.1, if_neg (fun w => by
        rw [lt_n (by omega)] at w
        rw [lt_00] at c0
        omega)]
  unfold h_13008
  rw [hh]
  rfl
theorem Wt.celAt (h : Wt x m0 T tx) (ht : TrS x T O C f') {k : Nat} (hk : k < 32) : h_13009 x (nI k) T = some (C.getD k 0) := by
  obtain ⟨r1, r2, r3, r4, r5, r6⟩ := h.runc
  have ek : (nI k).toInt = k := nI_T (by omega)
  have l32 : nI k < 32 := by rw [i_lt, ek, show (32 : Int32).toInt = 32 by decide]; omega
  have hh : h_11014 x (nI k) T = some (.inr (C.getD k 0)) := by
    unfold h_11014 h_7007
    rw [if_neg (nI_nn (by omega)), if_pos l32, gd_e h.k12, r1, bP_some, gd_e r2, gd_e r2, r5, bP_some, gd_e r6, bP_some, xg_at (by omega), ek, Int.toNat_natCast, ht.2.1]
  unfold h_13009
  rw [hh]
  rfl
theorem Wt.celAtF (h : Wt x m0 T tx) : h_13009 x 32 T = some (-1000001) := by
  have hh : h_11014 x 32 T = some (.inl 2) := by
    unfold h_11014
    rw [if_neg (by decide), if_neg (by decide)]
  unfold h_13009
  rw [hh]
  rfl
end TRL
