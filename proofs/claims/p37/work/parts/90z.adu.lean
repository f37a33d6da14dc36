/-! the school: a test is added, the call -/
section ADU
variable {x : Nat} {T T' : Tx} {m m' m1 m2 : Mx} {tx : List Int32} {es es' : List Nat} {ts ts' tsN : Nat → List Nat} {tsI : Nat → Nat → List Nat} {as : List Nat} {ps : Nat → Nat} {txs : Nat → List Int32} {ss : Nat → Sx} {pd : Nat} {own : Nat → Nat} {v w : Int32} {i j k : Nat} {s : Sx} {u1 u2 u3 u4 u5 u6 : Int32}
/-- an exercise's list is its own -/
theorem SInv.nx (h : SInv x T m tx es ts as ps txs ss pd own) (hj : j < es.length) : (∀ i', i' < as.length → ∀ q, q < 7 → gNl as i' + q ≠ gNl es j + 1) ∧ (∀ p, p = pd ∨ (∃ i', i' < as.length ∧ p = ps i') → ∀ q, q < 28 → p + q ≠ gNl es j + 1) ∧ (∀ j', j' < es.length → gNl es j' ≠ gNl es j + 1 ∧ (j' ≠ j → gNl es j' + 1 ≠ gNl es j + 1)) ∧ ∀ j', j' < es.length → ∀ k', k' < (ts j').length → gNl (ts j') k' ≠ gNl es j + 1 := by
  obtain ⟨o1, o2, o3, o4⟩ := h.2.2.2.2.2
  obtain ⟨l1, l2, l3, l4, l5⟩ := h.low
  have e := (o3 j hj).2
  have l := (l1 j hj).1
  refine ⟨fun i' hi' q hq q' => ?_, fun p hp q hq q' => ?_, fun j' hj' => ⟨fun q' => ?_, fun hn q' => ?_⟩, fun j' hj' k' hk' q' => ?_⟩
  · have := o1 i' hi' q hq
    rw [q', e] at this
    omega
  · have hp' : p = x + 3 ∨ x + 74 ≤ p := by
      rcases hp with z | ⟨i', hi', z⟩
      · rw [z]; exact l3
      · rw [z]; exact (l2 i' hi').2.2.1
    rcases hp' with z | z
    · omega
    · have := o2 p hp z q hq
      rw [q', e] at this
      omega
  · by_cases c : j' = j
    · subst c; omega
    · have := (o3 j' hj').1
      rw [q', e] at this
      omega
  · have := (o3 j' hj').2
    rw [q', e] at this
    omega
  · have := o4 j' hj' k' hk'
    rw [q', e] at this
    omega
theorem h8000_e {t : Nat} (hk : tK T t = 9) : h_8000 t u1 u2 u3 u4 u5 u6 T = some (tsV (tsV (tsV (tsV (tsV (tsV T t 0 u1) t 1 u2) t 2 u3) t 3 u4) t 4 u5) t 5 u6) := by
  unfold h_8000
  rw [gd_e hk, bS_eq, gd_e (show tK (tsV T t 0 u1) t = 9 from hk), bS_eq, gd_e (show tK (tsV (tsV T t 0 u1) t 1 u2) t = 9 from hk), bS_eq, gd_e (show tK (tsV (tsV (tsV T t 0 u1) t 1 u2) t 2 u3) t = 9 from hk), bS_eq, gd_e (show tK (tsV (tsV (tsV (tsV T t 0 u1) t 1 u2) t 2 u3) t 3 u4) t = 9 from hk), bS_eq, gd_e (show tK (tsV (tsV (tsV (tsV (tsV T t 0 u1) t 1 u2) t 2 u3) t 3 u4) t 4 u5) t = 9 from hk), bS_eq]
/-- a new test in its exercise -/
theorem ad_new {n0 : Nat} (h : SInv x T m tx es ts as ps txs ss pd own) (hj : j < es.length) (hn0 : (ts j).length = n0) (h8 : n0 < 8) (b1 : bnd u1 1 10) (b4 : bnd u4 0 2) (hm : ∀ J, J ≠ 0 → J < 39 ∨ 44 < J → m' J = m J) (hf : ∀ g, g ≠ 82 → m' 0 g = m 0 g) (h39 : ∀ k, m' 39 k = if k = j then nI (n0 + 1) else m 39 k) (h40 : ∀ k, m' 40 k = if k = 8 * j + n0 then u1 else m 40 k)
    (h41 : ∀ k, m' 41 k = if k = 2 * (8 * j + n0) then u2 else if k = 2 * (8 * j + n0) + 1 then u3 else m 41 k) (h42 : ∀ k, m' 42 k = if k = 8 * j + n0 then u4 else m 42 k) (h43 : ∀ k, m' 43 k = if k = 2 * (8 * j + n0) then u5 else if k = 2 * (8 * j + n0) + 1 then u6 else m 43 k) (h44 : ∀ k, m' 44 k = if k = 8 * j + n0 then 0 else m 44 k) :
    ∃ T18 T19, h_8000 (tZ T) u1 u2 u3 u4 u5 u6 (tNew T 9) = some T18 ∧ tK T18 (gNl es j) = 3 ∧ h_2001 (gNl es j) (tZ T) T18 = some T19 ∧ MidA x T19 m' tx es (fun i => if i = j then ts j ++ [tZ T] else ts i) as (fun _ => ts) ps txs ss pd ∧ NaI x es (fun i => if i = j then ts j ++ [tZ T] else ts i) as ps pd ∧ OwI x es (fun i => if i = j then ts j ++ [tZ T] else ts i) as ps pd (fun y => if tZ T ≤ y then 4 * (8 * j + n0) + 3 else own y) := by
  obtain ⟨l1, l2, l3, l4, l5⟩ := h.low
  obtain ⟨n1, n2, n3, n4⟩ := h.nx hj
  have hE := h.2.2.2.1.2.2.2 j hj
  have h4 := h.2.2.2.1.2.1
  obtain ⟨T18, hT18⟩ : ∃ T18, T18 = tsV (tsV (tsV (tsV (tsV (tsV (tNew T 9) (tZ T) 0 u1) (tZ T) 1 u2) (tZ T) 2 u3) (tZ T) 3 u4) (tZ T) 4 u5) (tZ T) 5 u6 := ⟨_, rfl⟩
  have o18 : ∀ y, y < tZ T → Agr T T18 y := fun y hy => by
    rw [hT18]
    exact ((((((Agr.N hy).tr (Agr.V (by omega))).tr (Agr.V (by omega))).tr (Agr.V (by omega))).tr (Agr.V (by omega))).tr (Agr.V (by omega))).tr (Agr.V (by omega))
  have k18 : tK T18 (tZ T) = 9 := by rw [hT18]; exact tK_new
  have z18 : tZ T18 = tZ T + 1 := by rw [hT18]; rfl
  obtain ⟨T19, hT19⟩ : ∃ T19, T19 = tAdd T18 (gNl es j + 1) (tZ T) := ⟨_, rfl⟩
  have o19 : ∀ y, y ≠ gNl es j + 1 → Agr T18 T19 y := fun y hy => by rw [hT19]; exact Agr.A hy
  have g : ∀ y, y < tZ T → y ≠ gNl es j + 1 → Agr T T19 y := fun y hy hn => (o18 y hy).tr (o19 y hn)
  have K : ∀ y, y < tZ T → tK T19 y = tK T y ∧ (tK T y = 7 → tC T19 y = tC T y) ∧ tW T19 y = tW T y := fun y hy => by
    have a := o18 y hy
    by_cases e : y = gNl es j + 1
    · refine ⟨by rw [hT19]; exact a.1, fun q => ?_, by rw [hT19]; exact a.2.2.1⟩
      rw [e] at q
      rw [hE.2.2.2.2.1] at q
      omega
    · exact ⟨(g y hy e).1, (g y hy e).2.1, (g y hy e).2.2.1⟩
  have lj := l1 j hj
  have a18 : tA T18 (gNl es j + 1) = ts j := (o18 _ (by omega)).2.2.2.1.trans hE.2.2.2.2.2.1
  have a19 : tA T19 (gNl es j + 1) = ts j ++ [tZ T] := by rw [hT19, tA_s, a18]
  have z19 : tZ T + 1 ≤ tZ T19 := by rw [← z18, hT19]; exact tZ_add
  have q19 := o19 (tZ T) (by omega)
  have V : tV T19 (tZ T) 0 = u1 ∧ tV T19 (tZ T) 1 = u2 ∧ tV T19 (tZ T) 2 = u3 ∧ tV T19 (tZ T) 3 = u4 ∧ tV T19 (tZ T) 4 = u5 ∧ tV T19 (tZ T) 5 = u6 ∧ tV T19 (tZ T) 6 = 0 := by
    rw [q19.2.2.2.2.2, hT18]
    refine ⟨?_, ?_, ?_, ?_, ?_, ?_, ?_⟩
    · rw [tV_n (Or.inr (by decide)), tV_n (Or.inr (by decide)), tV_n (Or.inr (by decide)), tV_n (Or.inr (by decide)), tV_n (Or.inr (by decide)), tV_s]
    · rw [tV_n (Or.inr (by decide)), tV_n (Or.inr (by decide)), tV_n (Or.inr (by decide)), tV_n (Or.inr (by decide)), tV_s]
    · rw [tV_n (Or.inr (by decide)), tV_n (Or.inr (by decide)), tV_n (Or.inr (by decide)), tV_s]
    · rw [tV_n (Or.inr (by decide)), tV_n (Or.inr (by decide)), tV_s]
    · rw [tV_n (Or.inr (by decide)), tV_s]
    · rw [tV_s]
    · rw [tV_n (Or.inr (by decide)), tV_n (Or.inr (by decide)), tV_n (Or.inr (by decide)), tV_n (Or.inr (by decide)), tV_n (Or.inr (by decide)), tV_n (Or.inr (by decide))]
      exact congrFun (if_pos rfl) 6
  have tsj : ∀ i, i ≠ j → (if i = j then ts j ++ [tZ T] else ts i) = ts i := fun i hi => if_neg hi
  refine ⟨T18, T19, ?_, (o18 _ (by omega)).1.trans hE.2.2.1, ?_, ⟨?_, ?_, ?_, ?_, (hf 74 (by decide)).trans h.2.2.2.2.1.1, h.2.2.2.2.1.2.1, (g _ (by omega) (by omega)).2.2.2.1.trans h.2.2.2.2.1.2.2.1, fun i hi => ?_⟩, fun i hi q hq => ?_, ?_⟩
  · rw [h8000_e tK_new, hT18]
  · unfold h_2001
    rw [gd_e ((o18 _ (by omega)).1.trans hE.2.2.1), (o18 _ (by omega)).2.2.1, hE.2.2.2.1, bP_some, gd_e ((o18 _ (by omega)).1.trans hE.2.2.2.2.1), gd_e ⟨by rw [a18]; omega, by rw [k18]; decide⟩, bS_eq, ← hT19]
  · exact h.1.of (fun y h1 h2 => ⟨(K y (by omega)).1, (K y (by omega)).2.1⟩) (fun y f h1 h2 _ _ _ _ => by rw [(K y (by omega)).2.2]) (by omega)
  · exact (h.2.1.agr (T' := T19) (by omega) (g _ (by omega) (by omega)) (g _ (by omega) (by omega)) (g _ (by omega) (by omega)) (fun z hz => g _ (by omega) (n2 pd (Or.inl rfl) z hz))).mm (hf 0 (by decide)) (hm 1 (by decide) (by decide))
  · exact (h.2.2.1.of (T' := T19) (g _ (by omega) (by omega)).2.2.2.2.1 (g _ (by omega) (by omega)).2.2.2.2.1 (congrFun (g (x + 42) (by omega) (by omega)).2.2.2.2.2 4) (congrFun (g x (by omega) (by omega)).2.2.2.2.2 13)).mm (hf 60 (by decide)) (hf 63 (by decide)) (hf 64 (by decide)) (hm 35 (by decide) (by decide)) (hm 36 (by decide) (by decide))
  · refine ⟨(hf 65 (by decide)).trans h.2.2.2.1.1, h4, (g _ (by omega) (by omega)).2.2.2.1.trans h.2.2.2.1.2.2.1, fun i hi => ?_⟩
    have hEi := h.2.2.2.1.2.2.2 i hi
    obtain ⟨p1, p2, p3⟩ := l1 i hi
    by_cases e : i = j
    · subst e
      dsimp only
      rw [if_pos rfl]
      obtain ⟨c1, c2, c3, c4, c5, c6, c7, c8, c9, d0, d1, d2, d3, d4⟩ := hEi
      have ge := g (gNl es i) (by omega) (n3 i hi).1
      have k1 := (K (gNl es i + 1) (by omega)).1
      refine ⟨c1, by omega, ge.1.trans c3, by rw [ge.2.2.1]; exact c4, k1.trans c5, a19, by rw [List.length_append]; show (ts i).length + 1 ≤ 8; omega, by rw [ge.2.2.2.2.2]; exact c8, by rw [ge.2.2.2.2.2, hm 37 (by decide) (by decide)]; exact c9, by rw [hm 37 (by decide) (by decide)]; exact d0, by rw [ge.2.2.2.2.2, hm 38 (by decide) (by decide)]; exact d1, by rw [hm 38 (by decide) (by decide)]; exact d2, by rw [h39, if_pos rfl, List.length_append, hn0]; rfl, fun k hk => ?_⟩
      rw [List.length_append] at hk
      have hk' : k < (ts i).length + 1 := hk
      by_cases ek : k = (ts i).length
      · subst ek
        rw [gN_e, hn0]
        refine ⟨l5, q19.1.trans k18, by omega, by rw [h40, if_pos rfl]; exact V.1, by rw [h40, if_pos rfl]; exact b1, by rw [h41, if_pos rfl]; exact V.2.1, by rw [h41, if_neg (by omega), if_pos rfl]; exact V.2.2.1, by rw [h42, if_pos rfl]; exact V.2.2.2.1, by rw [h42, if_pos rfl]; exact b4, by rw [h43, if_pos rfl]; exact V.2.2.2.2.1, by rw [h43, if_neg (by omega), if_pos rfl]; exact V.2.2.2.2.2.1, by rw [h44, if_pos rfl]; exact V.2.2.2.2.2.2, Or.inl (by rw [h44, if_pos rfl])⟩
      · rw [gN_l (by omega)]
        refine ⟨(d4 k (by omega)).1, ?_⟩
        have := (d4 k (by omega)).2.agr (T' := T19) (by omega) (g _ (p3 k (by omega)).2 (n4 i hi k (by omega)))
        unfold TstR at this ⊢
        rw [h40, if_neg (by omega), h41, if_neg (by omega), if_neg (by omega), h41, if_neg (by omega), if_neg (by omega), h42, if_neg (by omega), h43, if_neg (by omega), if_neg (by omega), h43, if_neg (by omega), if_neg (by omega), h44, if_neg (by omega)]
        exact this
    · dsimp only
      rw [if_neg e]
      have t8 := hEi.2.2.2.2.2.2.1
      refine (hEi.agr (T' := T19) (by omega) (g _ (by omega) (n3 i hi).1) (g _ (by omega) ((n3 i hi).2 e)) (fun z hz => g _ (p3 z hz).2 (n4 i hi z hz))).rx (by rw [hm 37 (by decide) (by decide)]) (by rw [hm 38 (by decide) (by decide)]) (by rw [h39, if_neg e]) (fun k hk => ?_)
      rw [h40, if_neg (by omega), h41, if_neg (by omega), if_neg (by omega), h41, if_neg (by omega), if_neg (by omega), h42, if_neg (by omega), h43, if_neg (by omega), if_neg (by omega), h43, if_neg (by omega), if_neg (by omega), h44, if_neg (by omega)]
      exact ⟨rfl, rfl, rfl, rfl, rfl, rfl, rfl⟩
  · obtain ⟨p1, p2, p3, p4⟩ := l2 i hi
    refine ((h.2.2.2.2.1.2.2.2 i hi).agr (T' := T19) (by omega) (fun z hz => g _ (by omega) (n1 i hi z hz)) (fun z hz => g _ (by omega) (n2 _ (Or.inr ⟨i, hi, rfl⟩) z hz))).rx (fun z hz => by rw [hm 2 (by decide) (by decide)]) (fun J h1 h2 => by rw [hm J (by omega) (by omega)]) (fun j' hj' hq => ⟨hj', rfl, rfl, by rw [hm 37 (by decide) (by decide)], fun k hk => ?_⟩) (fun _ _ => rfl)
    have t8 := (h.2.2.2.1.2.2.2 j' hj').2.2.2.2.2.2.1
    have hne : 8 * j' + k ≠ 8 * j + n0 := fun q => by
      have : j' = j := by omega
      subst this
      omega
    rw [h41, if_neg (by omega), if_neg (by omega), h41, if_neg (by omega), if_neg (by omega), h42, if_neg (by omega), h43, if_neg (by omega), if_neg (by omega), h43, if_neg (by omega), if_neg (by omega), hm 50 (by decide) (by decide), hm 51 (by decide) (by decide)]
    exact ⟨rfl, rfl, rfl, rfl, rfl, rfl, rfl⟩
  · obtain ⟨y1, y2, y3, y4⟩ := h.na hi hq
    refine ⟨y1, y2, y3, fun j' hj' k hk => ?_⟩
    have := (l2 i hi).2.1
    by_cases e : j' = j
    · subst e
      dsimp only at hk ⊢
      rw [if_pos rfl] at hk ⊢
      rw [List.length_append] at hk
      have hk' : k < (ts j').length + 1 := hk
      by_cases ek : k = (ts j').length
      · subst ek
        rw [gN_e]
        omega
      · rw [gN_l (by omega)]
        exact y4 j' hj' k (by omega)
    · dsimp only at hk ⊢
      rw [if_neg e] at hk ⊢
      exact y4 j' hj' k hk
  · obtain ⟨o1, o2, o3, o4⟩ := h.2.2.2.2.2
    refine ⟨fun i hi k hk => ?_, fun p hp h1 k hk => ?_, fun i hi => ?_, fun i hi k hk => ?_⟩
    · have := (l2 i hi).2.1
      show (if _ then _ else _) = _
      rw [if_neg (by omega)]
      exact o1 i hi k hk
    · have : p + 28 ≤ tZ T := by
        rcases hp with e | ⟨i, hi, e⟩
        · rw [e]; exact l4
        · rw [e]; exact (l2 i hi).2.2.2
      show (if _ then _ else _) = _
      rw [if_neg (by omega)]
      exact o2 p hp h1 k hk
    · have := (l1 i hi).2.1
      show (if _ then _ else _) = _ ∧ (if _ then _ else _) = _
      rw [if_neg (by omega), if_neg (by omega)]
      exact o3 i hi
    · by_cases e : i = j
      · subst e
        dsimp only at hk ⊢
        rw [if_pos rfl] at hk ⊢
        rw [List.length_append] at hk
        have hk' : k < (ts i).length + 1 := hk
        by_cases ek : k = (ts i).length
        · subst ek
          rw [gN_e, if_pos (Nat.le_refl _), hn0]
        · rw [gN_l (by omega), if_neg (by have := ((l1 i hi).2.2 k (by omega)).2; omega)]
          exact o4 i hi k (by omega)
      · dsimp only at hk ⊢
        rw [if_neg e] at hk ⊢
        rw [if_neg (by have := ((l1 i hi).2.2 k hk).2; omega)]
        exact o4 i hi k hk
theorem c_addTest (h : SInv x T m tx es ts as ps txs ss pd own) : SameT (h_11016 x v u1 u2 u3 u4 u5 u6 T) (f_12086 v u1 u2 u3 u4 u5 u6 m) cC (SINV x) := by
  have hI : SINV x T m := ⟨_, _, _, _, _, _, _, _, _, h⟩
  have h4 := h.2.2.2.1.2.1
  have h30 := h.2.2.2.2.1.2.1
  have e1 : f_12002 u1.toInt64 1 10 m = if 1 ≤ u1.toInt ∧ u1.toInt ≤ 10 then 1 else 0 := bIn (by decide) (by decide)
  have e4 : f_12002 u4.toInt64 0 2 m = if 0 ≤ u4.toInt ∧ u4.toInt ≤ 2 then 1 else 0 := bIn (by decide) (by decide)
  have i10 : (10 : Int32).toInt = 10 := by decide
  have i2 : (2 : Int32).toInt = 2 := by decide
  by_cases c : 0 ≤ v.toInt ∧ v.toInt < es.length
  · have hJ : v.toInt.toNat < es.length := by omega
    have ev := of_nI (v := v) c.1 (by omega)
    obtain ⟨j, hj⟩ : ∃ j, j = v.toInt.toNat := ⟨_, rfl⟩
    rw [← hj] at hJ ev
    have g40' : h_11040 x v T = some (.inr (gNl es j)) := by rw [g40 h, if_pos c, hj]
    have hE := h.2.2.2.1.2.2.2 j hJ
    have t8 := hE.2.2.2.2.2.2.1
    have f82' : f_12082 v m = 1 := by rw [f82 h, if_pos c]
    have e39 : mg m 39 v = nI (ts j).length := by rw [ev, mg_n (by omega)]; exact hE.2.2.2.2.2.2.2.2.2.2.2.2.1
    have v4 : vi v 4 := by rw [ev]; exact vi_n (by omega) (by omega)
    by_cases hb : (1 ≤ u1.toInt ∧ u1.toInt ≤ 10) ∧ 0 ≤ u4.toInt ∧ u4.toInt ≤ 2
    · have hx : ∀ {α : Type} (X Y : α), (if u1 < 1 then X else if 10 < u1 then X else if u4 < 0 then X else if u4 ≤ 2 then Y else X) = Y := fun X Y => by
        rw [if_neg (by rw [i_lt, i_1]; omega), if_neg (by rw [i_lt, i10]; omega), if_neg (by rw [i_lt, i_0]; omega), if_pos (by rw [i_le, i2]; omega)]
      by_cases c8 : (ts j).length < 8
      · obtain ⟨n0, hn0⟩ : ∃ n0, n0 = (ts j).length := ⟨_, rfl⟩
        rw [← hn0] at c8 e39
        obtain ⟨m5, hm5⟩ : ∃ m5, m5 = mp m 82 0 := ⟨_, rfl⟩
        obtain ⟨m13, hm13⟩ : ∃ m13, m13 = ms (ms (ms (ms (ms (ms (ms m5 40 (nI (8 * j + n0)) u1) 41 (nI (2 * (8 * j + n0))) u2) 41 (nI (2 * (8 * j + n0) + 1)) u3) 42 (nI (8 * j + n0)) u4) 43 (nI (2 * (8 * j + n0))) u5) 43 (nI (2 * (8 * j + n0) + 1)) u6) 44 (nI (8 * j + n0)) 0 := ⟨_, rfl⟩
        have e39' : mg m5 39 v = nI n0 := by
          rw [hm5, ← e39]
          unfold mg
          rw [mp_j (by decide)]
        have j13 : ∀ J, J < 40 ∨ 44 < J → m13 J = m5 J := fun J hJ => by
          rw [hm13, ms_j (by omega), ms_j (by omega), ms_j (by omega), ms_j (by omega), ms_j (by omega), ms_j (by omega), ms_j (by omega)]
        have e39'' : mg m13 39 v = nI n0 := by
          rw [← e39']
          unfold mg
          rw [j13 39 (by decide)]
        obtain ⟨m14, hm14⟩ : ∃ m14, m14 = ms m13 39 (nI j) (nI (n0 + 1)) := ⟨_, rfl⟩
        have e8 : 8 * v + nI n0 = nI (8 * j + n0) := by rw [ev]; exact n8 (by omega)
        have e2 : 2 * nI (8 * j + n0) = nI (2 * (8 * j + n0)) := n2 (by omega)
        have e21 : nI (2 * (8 * j + n0)) + 1 = nI (2 * (8 * j + n0) + 1) := nI_p1 (by omega)
        have hf : f_12086 v u1 u2 u3 u4 u5 u6 m = f_12086_L171 1000 (nI j) u1 u2 u3 u4 u5 u6 1 (nI n0) (nI (8 * j + n0)) 0 m14 := by
          unfold f_12086 f_12086_J40
          rw [e1, if_pos hb.1, if_neg (by decide), e4, if_pos hb.2, if_neg (by decide), f82', if_neg (by decide), gd_e v4, e39, if_neg (by rw [i_le, nI_T (by omega), show (8 : Int32).toInt = 8 by decide]; omega)]
          unfold f_12086_J61
          rw [show f_12003 1 1 1 m = (mp m 82 0, 1) by rw [thr3 i_01 i_01 i_01]; rfl, bT_eq]
          rw [if_neg (by decide), gd_e v4, ← hm5, e39', e8, e2, e21, gd_e (vi_n (by omega) (by omega)), bS_eq, gd_e (vi_n (by omega) (by omega)), bS_eq, gd_e (vi_n (by omega) (by omega)), bS_eq, gd_e (vi_n (by omega) (by omega)), bS_eq, gd_e (vi_n (by omega) (by omega)), bS_eq, gd_e (vi_n (by omega) (by omega)), bS_eq, gd_e (vi_n (by omega) (by omega)), bS_eq, nar_b0, ← hm13, gd_e v4, gd_e v4, e39'', nI_p1 (by omega), bS_eq]
          rw [ev, ← hm14]
        have jm : ∀ J, J ≠ 0 → J < 39 ∨ 44 < J → m14 J = m J := fun J h0 hJ => by rw [hm14, ms_j (by omega), j13 J (by omega), hm5, mp_j h0]
        have fm : ∀ g, m14 0 g = m5 0 g := fun g => by rw [hm14, ms_j (by decide), j13 0 (by decide)]
        obtain ⟨T18, T19, k1, k2, k3, k4, k5, k6⟩ := ad_new (m' := m14) (u1 := u1) (u2 := u2) (u3 := u3) (u4 := u4) (u5 := u5) (u6 := u6) h hJ hn0.symm c8 hb.1 hb.2 jm (fun g hg => by rw [fm, hm5, mp_n hg]) (fun k => by rw [hm14, ms_s (by omega), j13 39 (by decide), hm5, mp_j (by decide)])
          (fun k => by rw [hm14, ms_j (by decide), hm13, ms_j (by decide), ms_j (by decide), ms_j (by decide), ms_j (by decide), ms_j (by decide), ms_j (by decide), ms_s (by omega), hm5, mp_j (by decide)])
          (fun k => by
            rw [hm14, ms_j (by decide), hm13, ms_j (by decide), ms_j (by decide), ms_j (by decide), ms_j (by decide), ms_s (by omega), ms_s (by omega), ms_j (by decide), hm5, mp_j (by decide)]
            dsimp only
            by_cases z : k = 2 * (8 * j + n0)
            · rw [if_neg (show ¬ k = 2 * (8 * j + n0) + 1 by omega), if_pos z, if_pos z]
            · rw [if_neg z, if_neg z])
          (fun k => by rw [hm14, ms_j (by decide), hm13, ms_j (by decide), ms_j (by decide), ms_j (by decide), ms_s (by omega), ms_j (by decide), ms_j (by decide), ms_j (by decide), hm5, mp_j (by decide)])
          (fun k => by
            rw [hm14, ms_j (by decide), hm13, ms_j (by decide), ms_s (by omega), ms_s (by omega), ms_j (by decide), ms_j (by decide), ms_j (by decide), ms_j (by decide), hm5, mp_j (by decide)]
            dsimp only
            by_cases z : k = 2 * (8 * j + n0)
            · rw [if_neg (show ¬ k = 2 * (8 * j + n0) + 1 by omega), if_pos z, if_pos z]
            · rw [if_neg z, if_neg z])
          (fun k => by rw [hm14, ms_j (by decide), hm13, ms_s (by omega), ms_j (by decide), ms_j (by decide), ms_j (by decide), ms_j (by decide), ms_j (by decide), ms_j (by decide), hm5, mp_j (by decide)])
        obtain ⟨T', m', p1, p2, p3, p4⟩ := at_L (ts := ts) (t := tZ T) (u1 := u1) (u2 := u2) (u3 := u3) (u4 := u4) (u5 := u5) (u6 := u6) (u7 := 1) hJ hn0.symm c8 (if_pos rfl) (fun j' hj' => if_neg hj') k5 as.length 100 1000 0 5 67 T19 m14 (by omega) (by omega) (by omega) (by
          obtain ⟨y1, y2, y3, y4, y5, y6, y7, y8⟩ := k4
          refine ⟨y1, y2, y3, y4, y5, y6, y7, fun i hi => ?_⟩
          dsimp only
          rw [if_neg (by omega)]
          exact y8 i hi)
        obtain ⟨y1, y2, y3, y4, y5, y6, y7, y8⟩ := p3
        have hh : h_11016 x v u1 u2 u3 u4 u5 u6 T = some (T', .inr (nI n0)) := by
          unfold h_11016
          rw [gd_e h.1.1, g40', bXp_some, hx, gd_e hE.2.2.1, g2002 hE, bP_some, if_pos (by rw [← hn0, i_lt, nI_T (by omega), show (8 : Int32).toInt = 8 by decide]; omega), bS_eq, gd_e tK_new, k1, bOv_some, gd_e k2, k3, bOv_some, ev]
          exact p1
        exact ⟨_, _, _, _, hh, hf.trans p2, ⟨_, _, _, _, _, _, _, _, _, y1, y2, y3, y4, ⟨y5, y6, y7, y8⟩, k6⟩, Or.inl ⟨_, rfl, by rw [p4, fm, hm5, mp_s], rfl⟩⟩
      · have hh : h_11016 x v u1 u2 u3 u4 u5 u6 T = some (T, .inl 3) := by
          unfold h_11016
          rw [gd_e h.1.1, g40', bXp_some, hx, gd_e hE.2.2.1, g2002 hE, bP_some, if_neg (by rw [i_lt, nI_T (by omega), show (8 : Int32).toInt = 8 by decide]; omega)]
        have hf : f_12086 v u1 u2 u3 u4 u5 u6 m = some (mp m 82 3, 0) := by
          unfold f_12086 f_12086_J40 f_12086_J60 f_12086_J61
          rw [e1, if_pos hb.1, if_neg (by decide), e4, if_pos hb.2, if_neg (by decide), f82', if_neg (by decide), gd_e v4, e39, if_pos (by rw [i_le, nI_T (by omega), show (8 : Int32).toInt = 8 by decide]; omega), thr3 i_01 i_01 (Or.inl rfl), bT_eq]
          rfl
        exact ⟨_, _, _, _, hh, hf, hI.mm m82, Or.inr ⟨3, rfl, by decide, mp_s⟩⟩
    · have hh : h_11016 x v u1 u2 u3 u4 u5 u6 T = some (T, .inl 1) := by
        unfold h_11016
        rw [gd_e h.1.1, g40', bXp_some]
        by_cases c1 : u1 < 1
        · rw [if_pos c1]
        · rw [if_neg c1]
          by_cases c2 : 10 < u1
          · rw [if_pos c2]
          · rw [if_neg c2]
            by_cases c3 : u4 < 0
            · rw [if_pos c3]
            · rw [if_neg c3, if_neg (fun z => by
                rw [i_lt, i_1] at c1
                rw [i_lt, i10] at c2
                rw [i_lt, i_0] at c3
                rw [i_le, i2] at z
                exact hb ⟨⟨by omega, by omega⟩, by omega, by omega⟩)]
      have hJ40 : ∀ k1 : Int32, ∃ r : Int32, (r = 0 ∨ r = 1) ∧ f_12086_J40 v u1 u2 u3 u4 u5 u6 k1 0 1 m = f_12086_J61 v u1 u2 u3 u4 u5 u6 k1 r 0 1 m := fun k1 => by
        unfold f_12086_J40 f_12086_J60
        by_cases z : k1 = 0
        · exact ⟨0, Or.inl rfl, by rw [if_pos z]⟩
        · rw [if_neg z, gd_e v4]
          by_cases z' : 8 ≤ mg m 39 v
          · exact ⟨0, Or.inl rfl, by rw [if_pos z']⟩
          · exact ⟨1, Or.inr rfl, by rw [if_neg z']⟩
      obtain ⟨r, r1, r2⟩ := hJ40 1
      have hf : f_12086 v u1 u2 u3 u4 u5 u6 m = some (mp m 82 2, 0) := by
        unfold f_12086 f_12086_J39
        rw [e1, e4, f82', r2]
        have q : f_12086_J61 v u1 u2 u3 u4 u5 u6 1 r 0 1 m = some (mp m 82 2, 0) := by
          unfold f_12086_J61
          rw [thr3 i_01 (Or.inl rfl) r1, bT_eq]
          show (if (if (1 : Int32) = 1 ∧ (0 : Int32) = 1 ∧ r = 1 then (1 : Int32) else 0) = 0 then _ else _) = _
          rw [if_pos (if_neg (fun z => absurd z.2.1 (by decide)))]
          rfl
        by_cases z : 1 ≤ u1.toInt ∧ u1.toInt ≤ 10
        · rw [if_pos z, if_neg (by decide), if_neg (fun z' => hb ⟨z, z'⟩), if_pos rfl]
          exact q
        · rw [if_neg z, if_pos rfl]
          exact q
      exact ⟨_, _, _, _, hh, hf, hI.mm m82, Or.inr ⟨1, rfl, by decide, mp_s⟩⟩
  · have f82' : f_12082 v m = 0 := by rw [f82 h, if_neg c]
    have hh : h_11016 x v u1 u2 u3 u4 u5 u6 T = some (T, .inl 2) := by
      unfold h_11016
      rw [gd_e h.1.1, g40 h, if_neg c]
      rfl
    have hJ61 : ∀ b : Int32, (b = 0 ∨ b = 1) → f_12086_J61 v u1 u2 u3 u4 u5 u6 0 0 b 0 m = some (mp m 82 1, 0) := fun b hb => by
      unfold f_12086_J61
      rw [thr3 (Or.inl rfl) hb (Or.inl rfl), bT_eq]
      show (if (if (0 : Int32) = 1 ∧ b = 1 ∧ (0 : Int32) = 1 then (1 : Int32) else 0) = 0 then _ else _) = _
      rw [if_pos (if_neg (fun z => absurd z.1 (by decide)))]
      rfl
    have hf : f_12086 v u1 u2 u3 u4 u5 u6 m = some (mp m 82 1, 0) := by
      unfold f_12086 f_12086_J39 f_12086_J40 f_12086_J60
      rw [f82', if_pos rfl, if_pos rfl]
      by_cases z : f_12002 u1.toInt64 1 10 m = 0
      · rw [if_pos z, hJ61 0 (Or.inl rfl)]
      · rw [if_neg z]
        by_cases z' : f_12002 u4.toInt64 0 2 m = 0
        · rw [if_pos z', hJ61 0 (Or.inl rfl)]
        · rw [if_neg z', hJ61 1 (Or.inr rfl)]
    exact ⟨_, _, _, _, hh, hf, hI.mm m82, Or.inr ⟨2, rfl, by decide, mp_s⟩⟩
end ADU
