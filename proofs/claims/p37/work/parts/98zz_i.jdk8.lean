/-! the methods of lists, as the abstract machine asks -/
theorem pri_4 {d : Nat} {vs : List Value} {G : ab_G} {P : ab_Pq} (h : ab_Pri d 4 vs G P) : 40 ≤ d ∧ ∃ a, vs = [.ref a] ∧ gK G a = 0 ∧ gI G a 2 = 0 ∧ P (sR (sI G a 0 0) a 1 (some 1000000000)) none := by
  obtain ⟨h1, h2⟩ := h
  refine ⟨h1, ?_⟩
  split at h2
  all_goals first | exact ⟨_, rfl, h2⟩ | exact h2.elim | omega
theorem pri_5 {d : Nat} {vs : List Value} {G : ab_G} {P : ab_Pq} (h : ab_Pri d 5 vs G P) : 40 ≤ d ∧ ∃ a, vs = [.ref a] ∧ gK G a = 0 ∧ P G (some (.int (gI G a 2))) := by
  obtain ⟨h1, h2⟩ := h
  refine ⟨h1, ?_⟩
  split at h2
  all_goals first | exact ⟨_, rfl, h2⟩ | exact h2.elim | omega
theorem pri_6 {d : Nat} {vs : List Value} {G : ab_G} {P : ab_Pq} (h : ab_Pri d 6 vs G P) : 40 ≤ d ∧ ∃ a i, vs = [.ref a, .int i] ∧ ∃ xs cap, ab_LST G a xs cap ∧ xs.length ≤ 40 ∧ ∃ j, i = Int32.ofNat j ∧ ∃ v, xs[j]? = some v ∧ P G (some (.ref v)) := by
  obtain ⟨h1, h2⟩ := h
  refine ⟨h1, ?_⟩
  split at h2
  all_goals first | exact ⟨_, _, rfl, h2⟩ | exact h2.elim | omega
theorem pri_7 {d : Nat} {vs : List Value} {G : ab_G} {P : ab_Pq} (h : ab_Pri d 7 vs G P) : 40 ≤ d ∧ ∃ a x, vs = [.ref a, .ref x] ∧ ∃ xs cap, ab_LST G a xs cap ∧ xs.length ≤ 32 ∧ x < gZ G ∧ gK G x < 13 ∧ ∀ G', ab_LST G' a (xs ++ [x]) (if xs.length < cap then cap else if cap = 0 then 10 else cap + cap / 2) → ab_same G G' (fun b => b = a ∨ (xs.length < cap ∧ gR G a 1 = some b)) → gZ G' = (if xs.length < cap then gZ G else gZ G + 1) → gR G' a 1 = (if xs.length < cap then gR G a 1 else some (gZ G)) → P G' (some (.int 1)) := by
  obtain ⟨h1, h2⟩ := h
  refine ⟨h1, ?_⟩
  split at h2
  all_goals first | exact ⟨_, _, rfl, h2⟩ | exact h2.elim | omega
section JKH
variable {D : va_G} {cy : Nat → ClassId} {sp ρ : Nat → Nat} {t0 sz : Nat} {G : ab_G}
theorem jOk {l : Launch} {y : MethodName} {cc : ByteArray} {ml : Nat} {ret : Option FieldType} {d mc ms : Nat} {As : List Value} {P : ab_Pq} {X : ab_Xq}
    (h : jM l y cc ml ret d mc ms D cy sp t0 ρ G sz As (fun ρ' G' v => ∃ r : Option Value, v = r.map (ab_cv ρ' sp) ∧ P G' r ∧ ∀ w, r = some w → ab_vo G' w)) :
    vx_Met l y (.code y cc ml ret :: ab_W) { frames := d, cells := mc, slots := ms, locals := 64 * d } (va_Pc As (ab_Pre D cy sp t0 ρ G sz)) (ab_Qc D cy sp t0 ρ G sz mc P) (ab_XC D cy t0 ρ G sz mc X) mc ms (va_A (ab_ws cy ρ G) sz) := by
  refine MetFree.mono h (fun _ _ q => q) (fun _ _ _ _ _ q => q) (fun a st o t _ q => ?_)
  have q1 : (jQ D cy t0 ρ G sz mc (fun ρ' G' v => ∃ r : Option Value, v = r.map (ab_cv ρ' sp) ∧ P G' r ∧ ∀ w, r = some w → ab_vo G' w) a st o t ∧ ∃ L, FrameEnd st o t L mc ms ∧ ∀ q ∈ L, va_A (ab_ws cy ρ G) sz q.base) ∨ ∃ q, o = .threw q ∧ vx_T jN st q t mc ms (va_A (ab_ws cy ρ G) sz) := q
  rcases q1 with ⟨⟨⟨v, G', ρ', h1, ⟨r, h0, h2, h3⟩, h4⟩, h5⟩, h6⟩ | ⟨q, h1, h2⟩
  · have hq : ab_Qc D cy sp t0 ρ G sz mc P a st o t := ⟨⟨r, G', ρ', by rw [h1, h0], h2, h3, h4⟩, h5⟩
    exact Or.inl (show _ ∧ _ from ⟨hq, h6⟩)
  · obtain ⟨E, ce, L, g1, g2⟩ := h2
    exact (show False from g1).elim
end JKH
section JKI
variable {G : ab_G} {a g x n N : Nat} {xs : List Nat}
theorem jn_app (hn : xs.length = n) (i : Nat) : (if i = n then some x else xs[i]?) = (xs ++ [x])[i]? := by
  subst hn
  rcases Nat.lt_trichotomy i xs.length with h | h | h
  · rw [if_neg (by omega), List.getElem?_append_left h]
  · rw [if_pos h, h, List.getElem?_append_right (Nat.le_refl _), Nat.sub_self]
    rfl
  · rw [if_neg (by omega), List.getElem?_eq_none (by omega), List.getElem?_eq_none (by rw [List.length_append]; show xs.length + 1 ≤ i; omega)]
theorem lst_R {cap : Nat} {w : Int32} (hk : gK G a = 0) (he : gR G a 1 = some g) (hg : g < gZ G) (hg16 : gK G g = 16) (hn : xs.length = n) (hc : n < cap) (hN : gN G g = cap) (hcap : cap = 10 ∨ cap = 15 ∨ cap = 22 ∨ cap = 33) (hx : ∀ i, gR G g i = xs[i]?) :
    ab_LST (sI (sR (sI G a 0 w) g n (some x)) a 2 (Int32.ofNat (n + 1))) a (xs ++ [x]) cap ∧ ab_same G (sI (sR (sI G a 0 w) g n (some x)) a 2 (Int32.ofNat (n + 1))) (fun b => b = a ∨ (n < cap ∧ gR G a 1 = some b)) ∧ gZ (sI (sR (sI G a 0 w) g n (some x)) a 2 (Int32.ofNat (n + 1))) = gZ G ∧ gR (sI (sR (sI G a 0 w) g n (some x)) a 2 (Int32.ofNat (n + 1))) a 1 = some g := by
  have hag : a ≠ g := fun h => by rw [h, hg16] at hk; cases hk
  have eR : gR (sI (sR (sI G a 0 w) g n (some x)) a 2 (Int32.ofNat (n + 1))) a 1 = some g := by
    show u2 (gR G) g n (some x) a 1 = _
    rw [u2_n _ _ _ hag]
    exact he
  refine ⟨⟨hk, ?_, Or.inr ⟨g, eR, hg, hg16, ?_, hN, hcap, fun i => ?_⟩⟩, ⟨Nat.le_refl _, fun b hb hno => ⟨rfl, rfl, ?_, ?_, rfl⟩⟩, rfl, eR⟩
  · show u2 (u2 (gI G) a 0 w) a 2 (Int32.ofNat (n + 1)) a 2 = _
    rw [u2_s, List.length_append, hn]
    rfl
  · rw [List.length_append, hn]
    show n + 1 ≤ cap
    omega
  · show u2 (gR G) g n (some x) g i = _
    rw [u2_s, ← jn_app hn, ← hx i]
  · show u2 (u2 (gI G) a 0 w) a 2 (Int32.ofNat (n + 1)) b = _
    rw [u2_n _ _ _ (fun h => hno (Or.inl h)), u2_n _ _ _ (fun h => hno (Or.inl h))]
  · show u2 (gR G) g n (some x) b = _
    rw [u2_n _ _ _ (fun h => hno (Or.inr ⟨hc, by rw [h]; exact he⟩))]
theorem lst_F {w : Int32} {f : Nat → Option Nat} {ok : Nat → Prop} (hok : ∀ b, b < gZ G → ¬ ok b → b ≠ a) (ha : a < gZ G) (hk : gK G a = 0) (hn : xs.length = n) (hc : n < N) (hcap : N = 10 ∨ N = 15 ∨ N = 22 ∨ N = 33) (hx : ∀ i, f i = xs[i]?) :
    ab_LST (sI (sR (sR (gB (sI G a 0 w) N f) a 1 (some (gZ G))) (gZ G) n (some x)) a 2 (Int32.ofNat (n + 1))) a (xs ++ [x]) N ∧ ab_same G (sI (sR (sR (gB (sI G a 0 w) N f) a 1 (some (gZ G))) (gZ G) n (some x)) a 2 (Int32.ofNat (n + 1))) ok ∧ gZ (sI (sR (sR (gB (sI G a 0 w) N f) a 1 (some (gZ G))) (gZ G) n (some x)) a 2 (Int32.ofNat (n + 1))) = gZ G + 1 ∧ gR (sI (sR (sR (gB (sI G a 0 w) N f) a 1 (some (gZ G))) (gZ G) n (some x)) a 2 (Int32.ofNat (n + 1))) a 1 = some (gZ G) := by
  have hag : a ≠ gZ G := by omega
  have eR : gR (sI (sR (sR (gB (sI G a 0 w) N f) a 1 (some (gZ G))) (gZ G) n (some x)) a 2 (Int32.ofNat (n + 1))) a 1 = some (gZ G) := by
    show u2 (u2 (u1 (gR G) (gZ G) f) a 1 (some (gZ G))) (gZ G) n (some x) a 1 = _
    rw [u2_n _ _ _ hag, u2_s]
    rfl
  refine ⟨⟨?_, ?_, Or.inr ⟨gZ G, eR, Nat.lt_succ_self _, u1_s _ _ _, ?_, u1_s _ _ _, hcap, fun i => ?_⟩⟩, ⟨Nat.le_succ _, fun b hb hno => ?_⟩, rfl, eR⟩
  · show u1 (gK G) (gZ G) 16 a = 0
    rw [u1_n _ _ hag, hk]
  · show u2 (u1 (u2 (gI G) a 0 w) (gZ G) (fun _ => 0)) a 2 (Int32.ofNat (n + 1)) a 2 = _
    rw [u2_s, List.length_append, hn]
    rfl
  · rw [List.length_append, hn]
    show n + 1 ≤ N
    omega
  · show u2 (u2 (u1 (gR G) (gZ G) f) a 1 (some (gZ G))) (gZ G) n (some x) (gZ G) i = _
    rw [u2_s, u2_n _ _ _ (Ne.symm hag), u1_s, ← jn_app hn, ← hx i]
  · have hba := hok b hb hno
    have hbz : b ≠ gZ G := by omega
    refine ⟨u1_n _ _ hbz, u1_n _ _ hbz, ?_, ?_, u1_n _ _ hbz⟩
    · show u2 (u1 (u2 (gI G) a 0 w) (gZ G) (fun _ => 0)) a 2 (Int32.ofNat (n + 1)) b = _
      rw [u2_n _ _ _ hba, u1_n _ _ hbz, u2_n _ _ _ hba]
    · show u2 (u2 (u1 (gR G) (gZ G) f) a 1 (some (gZ G))) (gZ G) n (some x) b = _
      rw [u2_n _ _ _ hbz, u2_n _ _ _ hba, u1_n _ _ hbz]
end JKI
theorem priP (l : Launch) : ab_PriP l := by
  intro d y h4 h7 D cy sp t0 ρ vs G P X sz hG hcl hvs hz ht0
  rw [show 64 * d + 256 = 64 * (d + 4) by omega]
  cases d with
  | zero => exact hG.elim
  | succ e =>
    have hG : (if y < 10 then ab_Pri e y vs G P else _) := hG
    rw [if_pos (by omega)] at hG
    have hy : y = 4 ∨ y = 5 ∨ y = 6 ∨ y = 7 := by omega
    rcases hy with rfl | rfl | rfl | rfl
    · obtain ⟨h40, a, rfl, hk, h0, hp⟩ := pri_4 hG
      have ha : a < gZ G := hvs (.ref a) List.mem_cons_self a rfl
      exact jOk (jk_init l ha hk ht0 hcl _ ⟨none, rfl, hp, fun w h => by cases h⟩ (e + 1 + 4) (by omega))
    · obtain ⟨h40, a, rfl, hk, hp⟩ := pri_5 hG
      have ha : a < gZ G := hvs (.ref a) List.mem_cons_self a rfl
      exact jOk (jk_size l ha hk ht0 hcl _ ⟨some (.int (gI G a 2)), rfl, hp, fun w h => by cases h; exact ab_voi⟩ (e + 1 + 4) (by omega))
    · obtain ⟨h40, a, i, rfl, xs, cap, ⟨hk, hs, hL⟩, hx40, j, rfl, v, hj, hp⟩ := pri_6 hG
      have ha : a < gZ G := hvs (.ref a) List.mem_cons_self a rfl
      have hjl : j < xs.length := (List.getElem?_eq_some_iff.mp hj).1
      rcases hL with ⟨rfl, -, -⟩ | ⟨g, e1, e2, e3, e4, e5, e6, e7⟩
      · cases hj
      · have hv : gR G g j = some v := (e7 j).trans hj
        have hvz : v < gZ G := by
          rcases hcl g e2 j v hv with ⟨q, -⟩ | ⟨q, -⟩
          · exact q
          · omega
        exact jOk (jk_get l ha hk e1 e2 e3 hs hjl (by omega) (by omega) hv ht0 hcl _ ⟨some (.ref v), rfl, hp, fun w h => by cases h; exact fun b hb => by cases hb; exact hvz⟩ (e + 1 + 4) (by omega))
    · obtain ⟨h40, a, x, rfl, xs, cap, ⟨hk, hs, hL⟩, hx32, hxz, hxk, hp⟩ := pri_7 hG
      have ha : a < gZ G := hvs (.ref a) List.mem_cons_self a rfl
      have hz1 : gZ G < 1000000 := by omega
      have hs1 : gI (sI G a 0 (gI G a 0 + 1)) a 2 = Int32.ofNat xs.length := by
        rw [show gI (sI G a 0 (gI G a 0 + 1)) a = (fun j => if j = 0 then gI G a 0 + 1 else gI G a j) from u2_s _ _ _ _]
        exact hs
      have hcl1 : ab_cl (sI G a 0 (gI G a 0 + 1)) := ab_cl_sI hcl
      rcases hL with ⟨rfl, rfl, e1⟩ | ⟨g, e1, e2, e3, e4, e5, e6, e7⟩
      · refine jOk (jk_add (d := e + 1 + 4) l (arr := t0) ha hk hs (by rw [e1]; exact congrArg some ht0) ht0 hcl _ (fun sz => jk_addF (d := 6) l (f := fun _ => none) (N := 10) (G := sI G a 0 (gI G a 0 + 1)) ha hk (by decide) (by decide) hxz hxk (Or.inr ⟨rfl, rfl⟩) hs1 ht0 hcl1 (fun sz => jk_growB (G := sI G a 0 (gI G a 0 + 1)) l ha hk e1 hz1 ht0 hcl1 _ (fun ρ1 h => ⟨h, rfl, rfl⟩) 4 (Nat.le_refl _)) _ (fun ρ1 h => ⟨rfl, some (.int 1), rfl, ?_, fun w h => by cases h; exact ab_voi⟩) (Nat.le_refl _)) (by omega))
        have hF := lst_F (G := G) (a := a) (x := x) (n := 0) (N := 10) (xs := []) (w := gI G a 0 + 1) (f := fun _ => none) (ok := fun b => b = a ∨ (([] : List Nat).length < 0 ∧ gR G a 1 = some b)) (fun b _ h => fun h2 => h (Or.inl h2)) ha hk rfl (by decide) (Or.inl rfl) (fun i => rfl)
        exact hp _ hF.1 hF.2.1 hF.2.2.1 hF.2.2.2
      · by_cases hc : xs.length < cap
        · refine jOk (jk_add (d := e + 1 + 4) l (arr := ρ g) ha hk hs (by rw [e1]; rfl) ht0 hcl _ (fun sz => jk_addR (d := 6) l (G := sI G a 0 (gI G a 0 + 1)) ha hk e2 e3 (by show _ < gN G g; omega) (by show gN G g < _; omega) hxz hxk ht0 hcl1 _ ⟨rfl, some (.int 1), rfl, ?_, fun w h => by cases h; exact ab_voi⟩ (Nat.le_refl _)) (by omega))
          have hF := lst_R (G := G) (a := a) (x := x) (xs := xs) (w := gI G a 0 + 1) hk e1 e2 e3 rfl hc e5 e6 e7
          refine hp _ ?_ hF.2.1 ?_ ?_
          · rw [if_pos hc]; exact hF.1
          · rw [if_pos hc]; exact hF.2.2.1
          · rw [if_pos hc, e1]; exact hF.2.2.2
        · have hcx : xs.length = cap := by omega
          have hc3 : cap = 10 ∨ cap = 15 ∨ cap = 22 := by omega
          have hc0 : ¬ cap = 0 := by omega
          have hfx : ∀ i, (if i < cap then gR G g i else none) = xs[i]? := fun i => by
            by_cases hi : i < cap
            · rw [if_pos hi]; exact e7 i
            · rw [if_neg hi, List.getElem?_eq_none (by omega)]
          have hN : cap + cap / 2 = 15 ∨ cap + cap / 2 = 22 ∨ cap + cap / 2 = 33 := by omega
          have hgr : ∀ sz, jM l ⟨"java/util/ArrayList", "grow", "(I)[Ljava/lang/Object;"⟩ cJx4a65c_grow_92f84 4 (some (.array (.object "java/lang/Object"))) 4 1 40 D cy sp t0 ρ (sI G a 0 (gI G a 0 + 1)) sz [.ref (ρ a), .int (Int32.ofNat (cap + 1))] (fun ρ1 G1 v => (∀ b, b < gZ G → ρ1 b = ρ b) ∧ G1 = sR (gB (sI G a 0 (gI G a 0 + 1)) (cap + cap / 2) (fun j => if j < cap then gR G g j else none)) a 1 (some (gZ G)) ∧ v = some (.ref (ρ1 (gZ G)))) := fun sz => by
            rcases hc3 with h | h | h
            · subst h
              exact jk_growA (hf := 1) (r2 := 5) (G := sI G a 0 (gI G a 0 + 1)) l ha hk e1 e2 e3 e5 (by decide) (by decide) (by decide) hz1 (by decide) (by decide) (by decide) (by decide) ht0 hcl1 _ (fun ρ1 h => ⟨h, rfl, rfl⟩) 4 (Nat.le_refl _)
            · subst h
              exact jk_growA (hf := 1) (r2 := 7) (G := sI G a 0 (gI G a 0 + 1)) l ha hk e1 e2 e3 e5 (by decide) (by decide) (by decide) hz1 (by decide) (by decide) (by decide) (by decide) ht0 hcl1 _ (fun ρ1 h => ⟨h, rfl, rfl⟩) 4 (Nat.le_refl _)
            · subst h
              exact jk_growA (hf := 1) (r2 := 11) (G := sI G a 0 (gI G a 0 + 1)) l ha hk e1 e2 e3 e5 (by decide) (by decide) (by decide) hz1 (by decide) (by decide) (by decide) (by decide) ht0 hcl1 _ (fun ρ1 h => ⟨h, rfl, rfl⟩) 4 (Nat.le_refl _)
          rw [← hcx] at hgr
          refine jOk (jk_add (d := e + 1 + 4) l (arr := ρ g) ha hk hs (by rw [e1]; rfl) ht0 hcl _ (fun sz => jk_addF (d := 6) l (f := fun j => if j < xs.length then gR G g j else none) (N := xs.length + xs.length / 2) (G := sI G a 0 (gI G a 0 + 1)) ha hk (by omega) (by omega) hxz hxk (Or.inl ⟨g, rfl, e2, e3, by show gN G g = _; omega⟩) hs1 ht0 hcl1 hgr _ (fun ρ1 h => ⟨rfl, some (.int 1), rfl, ?_, fun w h => by cases h; exact ab_voi⟩) (Nat.le_refl _)) (by omega))
          have hF := lst_F (G := G) (a := a) (x := x) (n := xs.length) (N := xs.length + xs.length / 2) (xs := xs) (w := gI G a 0 + 1) (f := fun j => if j < xs.length then gR G g j else none) (ok := fun b => b = a ∨ (xs.length < cap ∧ gR G a 1 = some b)) (fun b _ h => fun h2 => h (Or.inl h2)) ha hk rfl (by omega) (by omega) (fun i => by rw [hcx]; exact hfx i)
          refine hp _ ?_ hF.2.1 ?_ ?_
          · rw [if_neg hc, if_neg hc0, ← hcx]; exact hF.1
          · rw [if_neg hc]; exact hF.2.2.1
          · rw [if_neg hc]; exact hF.2.2.2
