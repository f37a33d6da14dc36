/-! a text is read: both tell the same fault, or none -/
section RDW
variable {tx : List Int32} {s : Sx} {op bl : List Ae} {a L : Nat} {m : Mx}
theorem KI.r : KI (s.1 0) s := fun _ => ⟨Iff.rfl, Iff.rfl⟩
/-- the statements of a text, with what stays -/
theorem read_loopK {e : Nat} {sA s0 : Sx} {r0 : List Int32} {G : Sx → Prop} (hG : ∀ s s', G s → f_rd 900 5008 0 s = some s' → G s') : ∀ (m : Nat) (l k : Nat) (A : Au) (s : Sx) (a : Nat), e - a < m → l ≤ a → au_it k (sA, 0, [], []) = .inl A → au_set A = (s, 0, [], []) → Lv a e 0 s → s.2 5 = 0 → KI r0 s → FC s0 s → G s →
    (∃ f t k s', f_5001_L76 m (nI l) s = f_5001_J100 0 s' ∧ au_it k (sA, 0, [], []) = .inr (f, t) ∧ Dd f t s' ∧ KI r0 s' ∧ FC s0 s') ∨
    (∃ k A s', f_5001_L76 m (nI l) s = f_5001_J100 0 s' ∧ au_it k (sA, 0, [], []) = .inl A ∧ au_set A = (s', 0, [], []) ∧ au_ko s' = 0 ∧ Lv e e 0 s' ∧ s'.2 5 = 0 ∧ KI r0 s' ∧ FC s0 s' ∧ G s') := by
  intro m
  induction m with
  | zero => intro l k A s a hm; omega
  | succ m ihm =>
    intro l k A s a hm hl hk hA hL h5 hKI hFC hGs
    have he := hL.2.2.2.2.1
    rw [f_5001_L76]
    by_cases h0 : au_ko s = 0
    · right
      have hae : a = e := by
        rcases Nat.lt_or_ge a e with q | q
        · exfalso
          have := hL.2.2.2.2.2.2.2.2.2.1 a q
          apply this
          unfold au_ko at h0
          rw [hL.2.1, xg_n (by omega)] at h0
          exact h0
        · have := hL.2.2.2.1
          omega
      refine ⟨k, A, s, ?_, hk, hA, h0, hae ▸ hL, h5, hKI, hFC, hGs⟩
      split
      · rfl
      · rw [show f_5003 s = au_ko s from rfl, if_pos h0]
        rfl
    · have hae := hL.lt h0
      have h300 : ¬ (300 : Int32) ≤ nI l := nI_ge (a := l) (b := 300) (by omega) (by decide)
      rw [if_neg h300, show f_5003 s = au_ko s from rfl, if_neg h0]
      rcases (yAll 900).1 a e 0 s [] hL (by omega) (Or.inr rfl) (Or.inl h0) (fun _ => h5) with ⟨f, t, kk, d, g1, g2, g3⟩ | ⟨k1, A2, t', a1, e1, e2, e3, e4, e5, e6⟩
      · left
        have hKd := KI.rd 900 5008 0 s hKI (PreY.n (by decide)) d g1
        have hFd := FC.rd 900 5008 0 s hFC d g1
        rw [g1]
        cases kk with
        | zero => cases g2
        | succ kk =>
          refine ⟨f, t, k + (kk + 1), d, ?_, ?_, g3, hKd, hFd⟩
          · show f_5001_L76 m (nI l + 1) d = _
            rw [show m = (m - 1) + 1 by omega, f_5001_L76]
            split
            · rfl
            · rw [g3.ko, if_pos rfl]
              rfl
          · rw [au_it_add hk, ← au_it_set, hA]
            exact g2
      · have hKd := KI.rd 900 5008 0 s hKI (PreY.n (by decide)) t' e1
        have hFd := FC.rd 900 5008 0 s hFC t' e1
        rw [e1]
        show (∃ f t k s', f_5001_L76 m (nI l + 1) t' = _ ∧ _) ∨ (∃ k A s', f_5001_L76 m (nI l + 1) t' = _ ∧ _)
        rw [nI_1]
        refine ihm (l + 1) (k + (k1 + 1)) A2 t' a1 (by omega) (by omega) ?_ e3 e4 (e6.trans h5) hKd hFd (hG _ _ hGs e1)
        rw [au_it_add hk, ← au_it_set, hA]
        exact e2
/-- the class begins to read -/
def rdA (s : Sx) : Sx := sB (sB (sB (sB (sV (sV (sV (sV (f_4001 s) 2 0) 3 (nI (s.1 0).length - 1)) 4 0) 5 0) 13 []) 15 []) 16 []) 17 []
theorem rdA_e (s : Sx) : f_5001 s = f_5001_L76 400 (nI 0) (rdA s) := by
  unfold f_5001
  simp only [bS_eq]
  rfl
theorem rdA_r (s : Sx) {j : Nat} (h : j < 5 ∨ j = 14 ∨ 18 ≤ j) : (rdA s).1 j = s.1 j := by
  have e : (rdA s).1 j = if j = 17 then [] else if j = 16 then [] else if j = 15 then [] else if j = 13 then [] else if j = 12 then [] else if j = 11 then [] else if j = 10 then [] else if j = 9 then [] else if j = 8 then [] else if j = 7 then [] else if j = 6 then [] else if j = 5 then [] else s.1 j := rfl
  rw [e, if_neg (by omega), if_neg (by omega), if_neg (by omega), if_neg (by omega), if_neg (by omega), if_neg (by omega), if_neg (by omega), if_neg (by omega), if_neg (by omega), if_neg (by omega), if_neg (by omega), if_neg (by omega)]
theorem rdA_FC (s : Sx) : FC s (rdA s) := by
  refine ⟨fun k hk => rdA_r s (by omega), fun v hv => ?_⟩
  have e : (rdA s).2 v = if v = 5 then 0 else if v = 4 then 0 else if v = 3 then nI (s.1 0).length - 1 else if v = 2 then 0 else if v = 0 then 0 else s.2 v := rfl
  rw [e, if_neg (by omega), if_neg (by omega), if_neg (by omega), if_neg (by omega), if_neg (by omega)]
theorem bend_ge : ∀ i, i < (tks tx).length → i ≤ bend (tks tx) i := by
  intro i
  induction i with
  | zero => intro _; exact Nat.zero_le _
  | succ i ih =>
    intro h
    have := ih (by omega)
    have := (bend_s h).1
    omega
theorem tks_300 (hn : tx.length ≤ 300) : (tks tx).length ≤ 301 := by
  have hp := tks_pos tx
  have h1 := bend_ge (tx := tx) ((tks tx).length - 1) (by omega)
  have h2 := bend_le (tx := tx) (i := (tks tx).length - 1) (by omega)
  omega
theorem gD_mapT {α : Type} (f : Tk → α) (d : α) (l : List Tk) (i : Nat) (h : i < l.length) : (l.map f).getD i d = f (l.getD i tk0) := by
  rw [List.getD_eq_getElem?_getD, List.getD_eq_getElem?_getD, List.getElem?_map, List.getElem?_eq_getElem h]
  rfl
theorem rdA_Lv (hn : tx.length ≤ 300) (ht : tkR s (tks tx)) : Lv 0 ((tks tx).length - 1) 0 (rdA s) ∧ Raw tx (rdA s) 0 := by
  have hp := tks_pos tx
  have h301 := tks_300 hn
  have r0 : (rdA s).1 0 = s.1 0 := rdA_r s (by omega)
  have r1 : (rdA s).1 1 = s.1 1 := rdA_r s (by omega)
  have l0 : (s.1 0).length = (tks tx).length := by rw [ht.1, List.length_map]
  have hk : ∀ i, i < (tks tx).length → (s.1 0).getD i 0 = tkd (tks tx) i := fun i hi => by
    rw [ht.1, gD_mapT _ _ _ _ hi]
  have hv : ∀ i, i < (tks tx).length → (s.1 1).getD i 0 = tvl (tks tx) i := fun i hi => by
    rw [ht.2.1, gD_mapT _ _ _ _ hi]
  refine ⟨⟨rfl, rfl, ?_, Nat.zero_le _, by omega, by rw [r0, l0]; omega, rfl, Nat.zero_le _, ?_, fun i hi => ?_, Or.inl rfl⟩, ?_, fun i _ hi => ?_⟩
  · show nI (s.1 0).length - 1 = _
    rw [l0]
    have : nI (tks tx).length = nI (((tks tx).length - 1) + 1) := by congr 1; omega
    rw [this, nI_pred]
  · rw [r0, hk _ (by omega)]
    exact tks_end.2.1
  · rw [r0, hk i (by omega)]
    exact (tks_at (by omega)).2.1
  · rw [r1, ht.2.1, List.length_map]
  · rw [r0, r1]
    exact ⟨hk i hi, hv i hi⟩
/-- the reference begins to read -/
def rdM (m : Mx) : Mx := mp (mp (mp (mp (mp (mp (mp (ms (ms (mp (mp (mp (mp (mp (mp m 7 0) 9 0) 10 (-1)) 11 0) 14 0) 16 0) 9 0 0) 9 1 0) 22 0) 27 0) 32 0) 33 0) 34 0) 35 0) 38 0
theorem rdM_e (m : Mx) : f_12055 m = f_12055_L81 1000 1 (rdM m) := by
  unfold f_12055
  rw [bS_eq, bS_eq, bS_eq, bS_eq, bS_eq, bS_eq, gd_e (by decide), bS_eq, gd_e (by decide), bS_eq, bS_eq, bS_eq, bS_eq, bS_eq, bS_eq, bS_eq, bS_eq]
  rfl
theorem rdM_Fr (m : Mx) : FrR m (rdM m) := by
  unfold rdM
  exact (((((((((((((((FrR.r (m := m)).mp (by decide)).mp (by decide)).mp (by decide)).mp (by decide)).mp (by decide)).mp (by decide)).ms (by decide)).ms (by decide)).mp (by decide)).mp (by decide)).mp (by decide)).mp (by decide)).mp (by decide)).mp (by decide)).mp (by decide)
theorem rdM_0 (m : Mx) : rdM m 0 7 = 0 ∧ rdM m 0 9 = 0 ∧ rdM m 0 10 = -1 ∧ rdM m 0 11 = 0 ∧ rdM m 0 14 = 0 ∧ rdM m 0 16 = 0 ∧ rdM m 0 22 = 0 ∧ rdM m 0 27 = 0 ∧ rdM m 0 32 = 0 ∧ rdM m 0 33 = 0 ∧ rdM m 0 34 = 0 ∧ rdM m 0 35 = 0 ∧ rdM m 0 38 = 0 := ⟨rfl, rfl, rfl, rfl, rfl, rfl, rfl, rfl, rfl, rfl, rfl, rfl, rfl⟩
theorem rdM_9 (m : Mx) : rdM m 9 0 = 0 ∧ rdM m 9 1 = 0 := ⟨rfl, rfl⟩
theorem gD_nil {i : Nat} : ([] : List Int32).getD i 0 = 0 := rfl
theorem rd_init (hn : tx.length ≤ 300) (ht : tkR s (tks tx)) (hm : MT tx m) : Rel tx (Vs (rdA s), 0, [], []) 0 0 (rdM m) 0 ∧ Inv tx (Vs (rdA s), 0, [], []) 0 0 := by
  obtain ⟨hL, hR⟩ := rdA_Lv hn ht
  obtain ⟨n7, n9, n10, n11, n14, n16, n22, n27, n32, n33, n34, n35, n38⟩ := rdM_0 m
  obtain ⟨n90, n91⟩ := rdM_9 m
  have hF := rdM_Fr m
  have hLV : Lv 0 ((tks tx).length - 1) 0 (Vs (rdA s)) := hL
  have hRV : Raw tx (Vs (rdA s)) 0 := hR
  have hMT : MT tx (rdM m) := ⟨hm.1, by rw [hF.2 4 (by decide)]; exact hm.2.1, fun i hi => by rw [hF.1 3 (by decide) (by decide)]; exact hm.2.2 i hi⟩
  refine ⟨Rel.mk hLV hRV ?_ n7 n32 n33 n34 ?_, Inv.mk IvO.nil (fun b hb => by cases hb) (Or.inl ⟨rfl, rfl, Nat.le_refl _⟩) ?_⟩
  · refine ⟨⟨hMT, n9⟩, ⟨n11, rfl, (fun i hi => absurd hi (Nat.not_lt_zero i))⟩, ⟨n14, (fun i hi => absurd hi (Nat.not_lt_zero i))⟩, ⟨n90, n91, Nat.zero_le _, Nat.zero_le _, List.nodup_nil, List.nodup_nil, (fun k hk => absurd hk (Nat.not_lt_zero k)), (fun k hk => absurd hk (Nat.not_lt_zero k))⟩, ⟨⟨n16, rfl, (fun k hk => absurd hk (Nat.not_lt_zero k))⟩, (fun k hk => absurd hk (Nat.not_lt_zero k))⟩, ⟨n22, rfl, rfl, List.nodup_nil, (fun k hk => absurd hk (Nat.not_lt_zero k)), (fun k hk => absurd hk (Nat.not_lt_zero _))⟩, ⟨n27, rfl, rfl, (fun k hk => absurd hk (Nat.not_lt_zero k)), (fun k hk => absurd hk (Nat.not_lt_zero k))⟩, ⟨n35, trivial⟩, ⟨n38, trivial⟩⟩
  · refine ⟨fun q g e => ?_, fun q g e => ?_, fun x e => ?_, fun x e => ?_, fun x e => ?_, fun e => absurd e (by decide)⟩
    all_goals (first | cases e | (have := congrArg List.length e; simp at this))
  · exact ⟨Nat.le_refl _, fun _ _ => Or.inl rfl, Nat.le_refl _, rfl, Nat.zero_le _⟩
theorem J100_co {f t : Int32} (h : Dd f t s) : ∃ s', f_5001_J100 0 s = some s' ∧ s' = f_5002 (f_4005 17 0 s).1 := by
  have h1 : Dd f t (f_4005 17 0 s).1 := h.co Co_cd
  have h2 : (f_5002 (f_4005 17 0 s).1).2 0 ≠ 0 := by
    have hf : (f_4005 17 0 s).1.2 0 = f := h1.1
    unfold f_5002
    split
    · split
      · exact (by decide : (1 : Int32) ≠ 0)
      · split
        · exact (by decide : (2 : Int32) ≠ 0)
        · exact (by decide : (3 : Int32) ≠ 0)
    · rw [hf]
      exact h.2.2.1.1
  refine ⟨_, ?_, rfl⟩
  unfold f_5001_J100
  rw [bT, bS_eq]
  unfold f_5023
  rw [f_5023_L2]
  by_cases q : nI ((f_5002 (f_4005 17 0 s).1).1 15).length ≤ 0
  · rw [if_pos q]
    rfl
  · rw [if_neg q, if_neg h2]
    rfl
/-- both tell the same fault; or the text is read by both -/
theorem rd_both {G : Sx → Prop} (hG : ∀ s s', G s → f_rd 900 5008 0 s = some s' → G s') (hG0 : G (rdA s)) (hn : tx.length ≤ 300) (ht : tkR s (tks tx)) (hm : MT tx m) :
    (∃ s' m' i f, f_5001 s = some s' ∧ f_12055 m = some m' ∧ FrR m m' ∧ FC s s' ∧ f ≠ 0 ∧ s'.2 0 = f ∧ s'.2 1 = nI i ∧ i < (tks tx).length ∧ m' 0 9 = f ∧ m' 0 10 = nI (tpl (tks tx) i)) ∨
    (∃ s' sv m' i, f_5001 s = f_5001_J100 0 s' ∧ f_12055 m = f_12055_L99 1000 0 0 m' ∧ FrR m m' ∧ FC s s' ∧ (sv = s' ∨ sv = Vs s') ∧ m' 0 9 = 0 ∧ m' 0 10 = -1 ∧ RR (tks tx) tx (au_cd 17 0 sv) i [] [] (fun _ => False) (fun _ => False) 0 m' ∧ i + 1 = (tks tx).length ∧ Lv i ((tks tx).length - 1) 0 s' ∧ Raw tx sv i ∧ (s'.1 7).length < 600 ∧ 3 * (s'.1 15).length ≤ i ∧ 3 * (s'.1 5).length ≤ i ∧ 8 * (s'.1 9).length ≤ tx.length + 1 ∧ G s') := by
  obtain ⟨hL, hR⟩ := rdA_Lv hn ht
  obtain ⟨hRel, hInv⟩ := rd_init hn ht hm
  have hp := tks_pos tx
  have h301 := tks_300 hn
  have hT : Tb ([] : List Ae) [] 0 := ⟨(fun x hx => by cases hx), (fun b hb => by cases hb)⟩
  have h5 : (rdA s).2 5 = 0 := rfl
  have r0 : (rdA s).1 0 = s.1 0 := rdA_r s (by omega)
  have hND : NDf (rdA s, 0, [], []) := ⟨rfl, (by show (0 : Int32) ≠ 9 ∧ (0 : Int32) ≠ 10 ∧ (0 : Int32) ≠ 11 ∧ (0 : Int32) ≠ 12; decide)⟩
  rw [rdA_e, rdM_e]
  rcases read_loopK hG (e := (tks tx).length - 1) (sA := rdA s) (s0 := s) (r0 := s.1 0) 400 0 0 (rdA s, 0, [], []) (rdA s) 0 (by omega) (Nat.le_refl _) rfl (au_set_n (by decide)) hL h5 (by rw [← r0]; exact KI.r) (rdA_FC s) hG0 with ⟨f, t, k, s', g1, g2, g3, g4, g5⟩ | ⟨k, A, s', g1, g2, g3, g4, g5, g6, g7, g8, g9⟩
  · left
    have g2' : au_it k (Vs (rdA s), 0, [], []) = .inr (f, t) := by
      rcases V_it k _ _ (Or.inr ⟨hND, rfl⟩) with ⟨f', q1, q2⟩ | ⟨B, B', q1, _⟩
      · rw [q2, ← q1, g2]
      · rw [g2] at q1
        cases q1
    obtain ⟨m', i, w1, w2, w3, w4, w5, w6⟩ := loop_f k _ 0 0 (rdM m) f t 1000 hRel hInv hT g2' g3.2.2.1.2 (by omega)
    obtain ⟨d, v1, v2⟩ := J100_co g3
    have hf0 : flt f (tkd (tks tx) i) ≠ 0 := by
      unfold flt
      split
      · decide
      · split
        · decide
        · exact g3.2.2.1.1
    have hk : tkd (tks tx) i = (s.1 0).getD i 0 := by
      rw [ht.1, gD_mapT _ _ _ _ w6]
    have h1 : Dd f t (f_4005 17 0 s').1 := g3.co Co_cd
    have hK1 : KI (s.1 0) (f_4005 17 0 s').1 := g4.cd
    have hx : xg ((f_4005 17 0 s').1.1 0) ((f_4005 17 0 s').1.2 1) = ((f_4005 17 0 s').1.1 0).getD i 0 := by
      rw [h1.2.1, w5, xg_n (by omega)]
    have hd0 : d.2 0 = flt f (tkd (tks tx) i) ∧ d.2 1 = nI i := by
      rw [v2]
      have e0 : (f_4005 17 0 s').1.2 0 = f := h1.1
      have e1 : (f_4005 17 0 s').1.2 1 = nI i := h1.2.1.trans w5
      unfold f_5002 flt
      rw [e0, hx, hk]
      by_cases c3 : f = 3
      · rw [if_pos c3]
        by_cases c1 : ((f_4005 17 0 s').1.1 0).getD i 0 = 1
        · rw [if_pos c1, if_pos ⟨c3, (hK1 i).1.1 c1⟩]
          exact ⟨rfl, e1⟩
        · have n1 : ¬ (f = 3 ∧ (s.1 0).getD i 0 = 1) := fun q => c1 ((hK1 i).1.2 q.2)
          by_cases c2 : ((f_4005 17 0 s').1.1 0).getD i 0 = 2
          · rw [if_neg c1, if_pos c2, if_neg n1, if_pos ⟨c3, (hK1 i).2.1 c2⟩]
            exact ⟨rfl, e1⟩
          · have n2 : ¬ (f = 3 ∧ (s.1 0).getD i 0 = 2) := fun q => c2 ((hK1 i).2.2 q.2)
            rw [if_neg c1, if_neg c2, if_neg n1, if_neg n2, c3]
            exact ⟨rfl, e1⟩
      · rw [if_neg c3, if_neg (fun q => c3 q.1), if_neg (fun q => c3 q.1)]
        exact ⟨e0, e1⟩
    have hFd : FC s d := by
      rw [v2]
      have hc : FC s (f_4005 17 0 s').1 := g5.cd
      unfold f_5002
      split
      · split
        · exact hc.v (by decide)
        · split
          · exact hc.v (by decide)
          · exact hc.v (by decide)
      · exact hc
    have hL99 : f_12055_L99 1000 0 0 m' = some m' := by
      rw [show (1000 : Nat) = 999 + 1 from rfl, f_12055_L99]
      by_cases q : mf m' 27 ≤ 0
      · rw [if_pos q]
      · rw [if_neg q, if_neg (by show ¬ m' 0 9 = 0; rw [w3]; exact hf0)]
    exact ⟨d, m', i, _, g1.trans v1, w1.trans hL99, (rdM_Fr m).tr w2, hFd, hf0, hd0.1, hd0.2, w6, w3, w4⟩
  · right
    have key : ∃ B' sv, au_it k (Vs (rdA s), 0, [], []) = .inl B' ∧ au_set B' = (sv, 0, [], []) ∧ (sv = s' ∨ sv = Vs s') := by
      rcases V_it k _ _ (Or.inr ⟨hND, rfl⟩) with ⟨f', q1, q2⟩ | ⟨B, B', q1, q2, q3⟩
      · rw [g2] at q1
        cases q1
      · rw [g2] at q1
        have e : A = B := Sum.inl.inj q1
        subst e
        rcases q3 with q3 | ⟨q3, q4⟩
        · subst q3
          exact ⟨_, s', q2, g3, Or.inl rfl⟩
        · subst q4
          obtain ⟨e1, _⟩ := V_set q3
          exact ⟨_, Vs s', q2, by rw [e1, g3], Or.inr rfl⟩
    obtain ⟨B', sv, q1, q2, q3⟩ := key
    have hko : au_ko sv = 0 := by
      rcases q3 with e | e
      · rw [e]; exact g4
      · rw [e]; exact g4
    obtain ⟨m', i, w1, w2, wE, w3, w4, w5, w6, w7, w8, w9, w10, w11⟩ := loop_s k _ 0 0 (rdM m) B' 1000 hRel hInv hT q1 q2 hko (by omega)
    have hi : i = (tks tx).length - 1 := by omega
    have h10 : m' 0 10 = -1 := Eq.trans wE (rdM_0 m).2.2.1
    refine ⟨s', sv, m', i, g1, w1, (rdM_Fr m).tr w2, g8, q3, w3, h10, w4, w5, ?_, w7, ?_, ?_, ?_, ?_, g9⟩
    · rw [hi]; exact g5
    · rcases q3 with e | e <;> rw [e] at w8 <;> exact w8
    · rcases q3 with e | e <;> rw [e] at w9 <;> exact w9
    · rcases q3 with e | e <;> rw [e] at w10 <;> exact w10
    · rcases q3 with e | e <;> rw [e] at w11 <;> exact w11
end RDW
