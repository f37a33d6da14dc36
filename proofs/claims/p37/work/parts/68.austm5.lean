/-! the reader and the automaton: def, every statement, every text -/
def au_df1 (rec : Nat → Int32 → Sx → Option Sx) (o df : Int32) (s12 : Sx) : Option Sx :=
  bOv (f_5015 s12) fun s13 => bOv (rec 5017 o (sV (f_4011 df (nI (s13.1 14).length) (s13.2 2) (f_4006 s13) s13) 5 1)) fun s18 => some (au_sv o (s18.2 2) (au_pt (au_cn s12) (au_cd 16 0 (au_cd 1 0 (sV s18 5 0)))))
theorem def_eq (rec : Nat → Int32 → Sx → Option Sx) (s : Sx) : f_5014 rec s = if s.2 4 ≤ 0 then
    if au_ko (au_nx s) = 4 then
      if f_4012 (xg ((au_nx s).1 1) ((au_nx s).2 2)) (au_nx s) = -1 then
        au_df1 rec (s.2 2) (f_4010 (xg ((au_nx s).1 1) ((au_nx s).2 2)) (au_nx s)).2 (au_cd 13 0 (au_nx (au_sk 35 (f_4010 (xg ((au_nx s).1 1) ((au_nx s).2 2)) (au_nx s)).1)))
      else some (f_5005 6 ((au_nx s).2 2) (au_nx s))
    else some (f_5005 3 ((au_nx s).2 2) (au_nx s))
  else some (f_5005 3 (s.2 2) s) := by
  unfold f_5014 au_df1
  simp only [bS, bT]
  rfl
theorem x14 {n : Nat} (h17 : C17 (n + 1)) {a e L : Nat} {s : Sx} {bl : List Ae} (hL : Lv a e L s) (hn : 34 + 20 * (8 - L) ≤ n) (h10 : au_ko s = 10) (h0 : L = 0 → s.2 5 = 0) :
    GoS (bOv (f_rd (n + 2) 5014 0 (au_bp s)) fun s4 => some (au_ep (au_pn (au_bp s)) s4)) a e L s bl := by
  have hae := hL.lt (by rw [h10]; decide)
  have hac : au_acc (s, 0, [], bl) = au_s0 s bl := ac0
  unfold au_s0 au_st at hac
  rw [h10, if_neg (by decide), if_neg (by decide), if_neg (by decide), if_neg (by decide), if_neg (by decide), if_neg (by decide), if_neg (by decide), if_pos rfl] at hac
  rw [rd_14, def_eq]
  have hLb : Lv a e L (au_bp s) := hL.co Co_bp
  rw [show (au_bp s).2 4 = s.2 4 from rfl, show (au_bp s).2 2 = s.2 2 from rfl]
  by_cases hl : s.2 4 ≤ 0
  case neg =>
    rw [if_neg hl] at hac ⊢
    exact Or.inl (RdF.one rfl hac ((hLb.ref (f := 3) (t := s.2 2) (by decide)).co Co_ep))
  rw [if_pos hl] at hac ⊢
  have hL0 : L = 0 := by
    rw [hL.2.2.2.2.2.2.1, i_le, nI_T (by have := hL.2.2.2.2.2.2.2.1; omega)] at hl
    have e0 : (0 : Int32).toInt = 0 := rfl
    omega
  have hL2 : Lv (a + 1) e L (au_nx (au_bp s)) := hLb.nx hae
  have q8 := ac8 (s := au_nx (au_bp s)) (op := [(53, au_pn (au_bp s), s.2 2, 0, 0, 0)]) (bl := bl)
  unfold au_dfw at q8
  generalize hg : au_nx (au_bp s) = s2 at *
  have h25 : s2.2 5 = s.2 5 := by rw [← hg]; rfl
  by_cases h4 : au_ko s2 = 4
  case neg =>
    rw [if_neg h4] at q8 ⊢
    exact Or.inl ⟨3, s2.2 2, 1 + 1, _, rfl, by rw [au_it_s hac, au_it_f q8], ((hL2.ref (by decide)).co Co_ep)⟩
  rw [if_pos h4] at q8 ⊢
  by_cases hd : f_4012 (xg (s2.1 1) (s2.2 2)) s2 = -1
  case neg =>
    rw [if_neg hd] at q8 ⊢
    exact Or.inl ⟨6, s2.2 2, 1 + 1, _, rfl, by rw [au_it_s hac, au_it_f q8], ((hL2.ref (by decide)).co Co_ep)⟩
  rw [if_pos hd] at q8 ⊢
  have ha2 := hL2.lt (by rw [h4]; decide)
  have co1 : Co s2 (f_4010 (xg (s2.1 1) (s2.2 2)) s2).1 := ⟨rfl, fun _ _ => rfl⟩
  have hL3 : Lv (a + 1 + 1) e L (au_cd 13 0 (au_nx (au_sk 35 (f_4010 (xg (s2.1 1) (s2.2 2)) s2).1))) := ((((hL2.co co1).sk (x := 35) ha2 (by decide)).nx ha2).co Co_cd)
  generalize hdf : (f_4010 (xg (s2.1 1) (s2.2 2)) s2).2 = df at *
  generalize hs12 : au_cd 13 0 (au_nx (au_sk 35 (f_4010 (xg (s2.1 1) (s2.2 2)) s2).1)) = s12 at *
  have h125 : s12.2 5 = s.2 5 := by rw [← hs12, ← h25]; rfl
  have hk2 : au_it (1 + 1) (s, 0, [], bl) = .inl (sB s12 14 [], 9, [(53, au_pn (au_bp s), s.2 2, au_cn s12, df, 0)], bl) := by
    rw [au_it_s hac, au_it_s q8]
    rfl
  have goal : ∀ X : Option Sx, X = bOv (f_5015 s12) (fun s13 => bOv (f_rd (n + 1) 5017 (s.2 2) (sV (f_4011 df (nI (s13.1 14).length) (s13.2 2) (f_4006 s13) s13) 5 1)) fun s18 => some (au_ep (au_pn (au_bp s)) (au_sv (s.2 2) (s18.2 2) (au_pt (au_cn s12) (au_cd 16 0 (au_cd 1 0 (sV s18 5 0))))))) → GoS X a e L s bl := by
    intro X hX
    rw [hX]
    have hl8 : L < 8 := by omega
    rcases x15 (x := (53, au_pn (au_bp s), s.2 2, au_cn s12, df, 0)) (r := []) (bl := bl) hL3 hl8 with ⟨f, t, kk, d, g1, g2, g3⟩ | ⟨k, s1, a1, g1, g2, g3, g4, g5, g6⟩
    · rw [g1]
      have hD : Dd f t (sV (f_4011 df (nI (d.1 14).length) (d.2 2) (f_4006 d) d) 5 1) := (g3.co (s' := f_4011 df (nI (d.1 14).length) (d.2 2) (f_4006 d) d) ⟨rfl, fun _ _ => rfl⟩).sc
      obtain ⟨d2, w1, w2⟩ := dd_17 (n := n) (o := s.2 2) hD
      refine Or.inl ⟨f, t, 1 + 1 + kk, au_ep (au_pn (au_bp s)) (au_sv (s.2 2) (d2.2 2) (au_pt (au_cn s12) (au_cd 16 0 (au_cd 1 0 (sV d2 5 0))))), ?_, by rw [au_it_add hk2]; exact g2, ((((w2.sc.co Co_cd).co Co_cd).co Co_pt).co Co_sv).co Co_ep⟩
      show bOv (f_rd (n + 1) 5017 (s.2 2) _) _ = _
      rw [w1]
      rfl
    · rw [g1]
      have hLp : Lv (a1 + 1) e L (au_pz df s1) := ((((g3.nx g5).dn).co (s' := f_4011 df (nI (s1.1 14).length) (s1.2 2 + 1) (f_4006 s1) (au_dn (au_nx s1))) ⟨rfl, fun _ _ => rfl⟩).s5 (Or.inr rfl))
      have q7 := ac7 (s := au_pz df s1) (e := (53, au_pn (au_bp s), s.2 2, au_cn s12, df, 0)) (r := []) (bl := bl)
      rw [if_neg (show ¬ (53 : Int32) = 52 by decide)] at q7
      have hk3 : au_it (1 + 1 + (k + 1)) (s, 0, [], bl) = .inl (au_pz df s1, 7, [(53, au_pn (au_bp s), s.2 2, au_cn s12, df, 0)], bl) := by
        rw [au_it_add hk2]
        exact g2
      show GoS (bOv (f_rd (n + 1) 5017 (s.2 2) (au_pz df s1)) _) a e L s bl
      rcases blkH h17 hLp (by omega) rfl q7 with ⟨f, t, kk, d, w1, w2, w3⟩ | ⟨_, kk, v, a3, w1, w2, w3, w4, w5, w6⟩
      · have w1' : f_rd (n + 1) 5017 (s.2 2) (au_pz df s1) = some d := w1
        rw [w1']
        exact Or.inl ⟨f, t, 1 + 1 + (k + 1) + kk, _, rfl, by rw [au_it_add hk3]; exact w2, ((((w3.sc.co Co_cd).co Co_cd).co Co_pt).co Co_sv).co Co_ep⟩
      · have w1' : f_rd (n + 1) 5017 (s.2 2) (au_pz df s1) = some (au_clb (10, au_pn (au_bp s), au_cn s12, 0, s.2 2, (au_pz df s1).2 2) v) := w1
        rw [w1']
        have hc2 : au_cls v (10, au_pn (au_bp s), au_cn s12, 0, s.2 2, (au_pz df s1).2 2) bl = (au_ep (au_pn (au_bp s)) (au_sv (s.2 2) (v.2 2 + 1) (au_pt (au_cn s12) (au_cd 16 0 (au_cd 1 0 (sV (au_clb (10, au_pn (au_bp s), au_cn s12, 0, s.2 2, (au_pz df s1).2 2) v) 5 0))))), 0, [], bl) := by
          unfold au_cls
          dsimp only
          rw [if_neg (by decide), if_neg (by decide), if_neg (by decide)]
        have w2' := w2.trans (congrArg Sum.inl hc2)
        have hLz : Lv (a3 + 1) e L (au_clb (10, au_pn (au_bp s), au_cn s12, 0, s.2 2, (au_pz df s1).2 2) v) := w3.clb w4
        refine Or.inr ⟨1 + 1 + (k + 1) + kk, _, _, a3 + 1, rfl, ?_, au_set_n (by decide), (((((hLz.s5 (Or.inl rfl)).co Co_cd).co Co_cd).co Co_pt).co Co_sv).co Co_ep, by omega, ?_⟩
        · rw [Nat.add_assoc (1 + 1 + (k + 1)), au_it_add hk3]
          exact w2'
        · exact (h0 hL0).symm
  refine goal _ ?_
  unfold au_df1
  cases f_5015 s12 with
  | none => rfl
  | some s13 =>
    rw [bOv_some, bOv_some]
    cases f_rd (n + 1) 5017 (s.2 2) (sV (f_4011 df (nI (s13.1 14).length) (s13.2 2) (f_4006 s13) s13) 5 1) <;> rfl
theorem x08 {n : Nat} (h18 : C18 (n + 1)) (h18' : C18 (n + 2)) (h19 : C19 (n + 1)) (h21 : C21 (n + 1)) (h17 : C17 (n + 1)) : C08 (n + 3) := by
  intro a e L s bl hL hn h31 hz h0
  rw [rd_08]
  unfold f_5008
  have hk : f_5003 (au_bp s) = au_ko s := rfl
  have hk1 : f_5003 (au_cd 0 0 (au_bp s)) = au_ko s := rfl
  show GoS (if f_5003 (au_bp s) = 7 then f_5008_J39 (f_rd (n + 2)) (au_pn (au_bp s)) (f_5003 (au_bp s)) (au_bp s) else if f_5003 (au_bp s) = 10 then f_5008_J39 (f_rd (n + 2)) (au_pn (au_bp s)) (f_5003 (au_bp s)) (au_bp s) else f_5008_J39 (f_rd (n + 2)) (au_pn (au_bp s)) (f_5003 (au_bp s)) (au_cd 0 0 (au_bp s))) a e L s bl
  rw [hk]
  by_cases c7 : au_ko s = 7
  · rw [if_pos c7, j39, c7]
    exact x12 h18 h17 hL (by omega) c7
  by_cases c10 : au_ko s = 10
  · rw [if_neg c7, if_pos c10, j39, c10]
    exact x14 h17 hL (by omega) c10 h0
  rw [if_neg c7, if_neg c10, j39]
  by_cases c4 : au_ko s = 4
  · rw [if_pos c4]
    exact x09 h18 h21 hL (by omega) c4
  by_cases c5 : au_ko s = 5
  · rw [if_neg c4, if_pos c5]
    exact x11 h18 h17 hL (by omega) c5
  by_cases c8 : au_ko s = 8
  · rw [if_neg c4, if_neg c5, if_neg c7, if_pos c8]
    exact x08o h18' hL (by omega) c8
  by_cases c11 : au_ko s = 11
  · rw [if_neg c4, if_neg c5, if_neg c7, if_neg c8, if_neg c10, if_pos c11]
    exact x13 h18 hL (by omega) c11
  by_cases c26 : au_ko s = 26
  · rw [if_neg c4, if_neg c5, if_neg c7, if_neg c8, if_neg c10, if_neg c11, if_pos c26]
    exact x10 h18 h19 hL (by omega) c26
  rw [if_neg c4, if_neg c5, if_neg c7, if_neg c8, if_neg c10, if_neg c11, if_neg c26]
  have hac : au_acc (s, 0, [], bl) = .inr (3, s.2 2) := by
    rw [ac0]
    unfold au_s0
    split
    · rename_i q
      rcases h31 with h | h
      · exact absurd q h
      · rw [h]
    · unfold au_st
      rw [if_neg c4, if_neg c26, if_neg c8, if_neg c5, if_neg c7, if_neg c11, if_neg c10, if_neg (fun q => hz.elim (fun w => w q.1) (fun w => w (List.isEmpty_iff.1 q.2)))]
  have hL1 : Lv a e L (au_cd 0 0 (au_bp s)) := hL.co (Co_bp.tr Co_cd)
  exact Or.inl (RdF.one rfl hac ((hL1.ref (f := 3) (t := s.2 2) (by decide)).co Co_ep))
theorem yAll (n : Nat) : C08 n ∧ C17 n := by
  induction n using Nat.strongRecOn with
  | ind n ih =>
    constructor
    · by_cases hn : n < 3
      · intro a e L s bl hL h; omega
      · have := x08 (n := n - 3) (xAll _).1 (xAll _).1 (xAll _).2.1 (xAll _).2.2.2 (ih (n - 3 + 1) (by omega)).2
        rw [show n - 3 + 3 = n by omega] at this
        exact this
    · cases n with
      | zero => intro a e L s o b bl hL h1 h2 h3; omega
      | succ n => exact x17 (ih n (by omega)).1
/-- the statements of a text -/
theorem read_loop {e : Nat} {sA : Sx} : ∀ (m : Nat) (l k : Nat) (A : Au) (s : Sx) (a : Nat), e - a < m → l ≤ a → au_it k (sA, 0, [], []) = .inl A → au_set A = (s, 0, [], []) → Lv a e 0 s → s.2 5 = 0 →
    (∃ f t k s', f_5001_L76 m (nI l) s = f_5001_J100 0 s' ∧ au_it k (sA, 0, [], []) = .inr (f, t) ∧ Dd f t s') ∨
    (∃ k A s', f_5001_L76 m (nI l) s = f_5001_J100 0 s' ∧ au_it k (sA, 0, [], []) = .inl A ∧ au_set A = (s', 0, [], []) ∧ au_ko s' = 0 ∧ Lv e e 0 s' ∧ s'.2 5 = 0) := by
  intro m
  induction m with
  | zero => intro l k A s a hm; omega
  | succ m ihm =>
    intro l k A s a hm hl hk hA hL h5
    have he := hL.2.2.2.2.1
    rw [f_5001_L76]
    by_cases h0 : au_ko s = 0
    · right
      have hae : a = e := by
        rcases Nat.lt_or_ge a e with q | q
        · exfalso
          have := hL.2.2.2.2.2.2.2.2.2.1 a q
          apply this
          unfold au_ko at h0
          rw [hL.2.1, xg_n (by omega)] at h0
          exact h0
        · have := hL.2.2.2.1
          omega
      refine ⟨k, A, s, ?_, hk, hA, h0, hae ▸ hL, h5⟩
      split
      · rfl
      · rw [show f_5003 s = au_ko s from rfl, if_pos h0]
        rfl
    · have hae := hL.lt h0
      have h300 : ¬ (300 : Int32) ≤ nI l := nI_ge (a := l) (b := 300) (by omega) (by decide)
      rw [if_neg h300, show f_5003 s = au_ko s from rfl, if_neg h0]
      rcases (yAll 900).1 a e 0 s [] hL (by omega) (Or.inr rfl) (Or.inl h0) (fun _ => h5) with ⟨f, t, kk, d, g1, g2, g3⟩ | ⟨k1, A2, t', a1, e1, e2, e3, e4, e5, e6⟩
      · left
        rw [g1]
        cases kk with
        | zero => cases g2
        | succ kk =>
          refine ⟨f, t, k + (kk + 1), d, ?_, ?_, g3⟩
          · show f_5001_L76 m (nI l + 1) d = _
            rw [show m = (m - 1) + 1 by omega, f_5001_L76]
            split
            · rfl
            · rw [g3.ko, if_pos rfl]
              rfl
          · rw [au_it_add hk, ← au_it_set, hA]
            exact g2
      · rw [e1]
        show (∃ f t k s', f_5001_L76 m (nI l + 1) t' = _ ∧ _) ∨ (∃ k A s', f_5001_L76 m (nI l + 1) t' = _ ∧ _)
        rw [nI_1]
        refine ihm (l + 1) (k + (k1 + 1)) A2 t' a1 (by omega) (by omega) ?_ e3 e4 (e6.trans h5)
        rw [au_it_add hk, ← au_it_set, hA]
        exact e2
