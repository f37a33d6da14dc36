/-! the law: its heap beside the class's; calls that are caught -/
section LAWB
theorem H_sch {F : Nat → Prop} {G : ab_G} {T : Tx} (h : Rep2 F G T) {a : Nat} (hk : tK T a = 12) : gK G a = 11 := by
  have := ((h.2.2.2.1 a).1 (by rw [hk]; exact ⟨by decide, by decide, by decide⟩)).1
  omega
theorem ex_nn {I : ab_Info} {k : ab_K} {X : ab_Xq} {pc : Nat} {L : List (Option Value)} {bc bs : Nat} {G : ab_G} {E : String} (h : Nat) {i : Fin 4} (h1 : ab_hnd (mXt I) pc E = some h) (h2 : decode (mCd I) h = .ok (.astore_n i, 1)) (hl : (i : Nat) < L.length) (hk : k (h + 1) (ab_kill L i) [] G bc bs) : ab_exc I k X pc L bc bs G E := by
  unfold ab_exc
  rw [h1]
  dsimp only
  rw [h2]
  exact ⟨hl, hk⟩
theorem ex_w {I : ab_Info} {k : ab_K} {X : ab_Xq} {pc : Nat} {L : List (Option Value)} {bc bs : Nat} {G : ab_G} {E : String} (h : Nat) {i : Nat} (h1 : ab_hnd (mXt I) pc E = some h) (h2 : decode (mCd I) h = .ok (.astore i, 2)) (hl : i < L.length) (hk : k (h + 2) (ab_kill L i) [] G bc bs) : ab_exc I k X pc L bc bs G E := by
  unfold ab_exc
  rw [h1]
  dsimp only
  rw [h2]
  exact ⟨hl, hk⟩
/-- what is foreign may change -/
theorem Rep2.fg {F : Nat → Prop} {G G' : ab_G} {T : Tx} (h : Rep2 F G T) (hz : gZ G' = gZ G) (hc : ∀ a, ¬ F a → cSame G G' a) : Rep2 F G' T := by
  obtain ⟨h1, h2, h3, h4, h5, h6⟩ := h
  refine ⟨hz.trans h1, h2, h3, fun a => ?_, fun a a' b k1 k2 e1 e2 => ?_, fun a a' e k1 k2 c1 c2 e1 e2 => ?_⟩
  · refine H_fr (h4 a) (Nat.le_refl _) h1 (hz.trans h1) rfl rfl rfl rfl rfl rfl (fun hk => hc a (h3 a hk).2.1) (fun b hk hb _ _ => ?_) (fun e hk he _ _ hC => ?_)
    · obtain ⟨b', g1, g2, g3, g4⟩ := (h4 a).2.1 hk
      have : b' = b := by
        have := g1.2.1.symm.trans hb
        injection this
      rw [← this]
      exact hc b' g3
    · exact hc e (((h4 a).2.2.1 hk).2 hC e he)
  · rw [(hc a (h3 a (by rw [k1]; decide)).2.1).2.2.2] at e1
    rw [(hc a' (h3 a' (by rw [k2]; decide)).2.1).2.2.2] at e2
    exact h5 a a' b k1 k2 e1 e2
  · rw [(hc a (h3 a (by rw [k1]; decide)).2.1).2.2.2] at e1
    rw [(hc a' (h3 a' (by rw [k2]; decide)).2.1).2.2.2] at e2
    exact h6 a a' e k1 k2 c1 c2 e1 e2
def tz (T : Tx) (n : Nat) : Tx := (tK T, tC T, tB T, tV T, tW T, tA T, n)
/-- new foreign cells -/
theorem Rep2.ad {F F' : Nat → Prop} {G G' : ab_G} {T : Tx} (h : Rep2 F G T) (hz : tZ T ≤ gZ G') (hc : ∀ a, a < tZ T → cSame G G' a) (hF : ∀ a, F' a → a < gZ G') (hF' : ∀ a, a < tZ T → F' a → F a) : Rep2 F' G' (tz T (gZ G')) := by
  obtain ⟨h1, h2, h3, h4, h5, h6⟩ := h
  refine ⟨rfl, hF, fun a hk => ⟨Nat.lt_of_lt_of_le (h3 a hk).1 hz, fun z => (h3 a hk).2.1 (hF' a (h3 a hk).1 z), (h3 a hk).2.2⟩, fun a => ?_, fun a a' b k1 k2 e1 e2 => ?_, fun a a' e k1 k2 c1 c2 e1 e2 => ?_⟩
  · have hq : H_cell F G' (tz T (gZ G')) a := H_fr (h4 a) hz h1 rfl rfl rfl rfl rfl rfl rfl (fun hk => hc a (h3 a hk).1) (fun b _ _ _ hb => hc b hb) (fun e _ _ _ he _ => hc e he)
    refine ⟨hq.1, fun hk => ?_, fun hk => ⟨(hq.2.2.1 hk).1, fun hC e he => ?_⟩, hq.2.2.2.1, hq.2.2.2.2⟩
    · obtain ⟨b, g1, g2, g3, g4⟩ := (h4 a).2.1 hk
      obtain ⟨b', k1, k2, k3, k4⟩ := hq.2.1 hk
      have hh := hc a (h3 a (by rw [show tK T a = 7 from hk]; decide)).1
      have : b' = b := by
        have := k1.2.1
        rw [hh.2.2.2, g1.2.1] at this
        injection this with this
        exact this.symm
      rw [this] at k1 k2 k3 k4
      exact ⟨b, k1, k2, fun z => g3 (hF' b g2 z), k4⟩
    · have ha := (h3 a (by rw [show tK T a = 1 from hk]; decide)).1
      have hh := hc a ha
      obtain ⟨q1, q2⟩ := (h4 a).2.2.1 hk
      rw [hh.2.2.2] at he
      have := q2 hC e he
      rcases q1.2.2 with ⟨_, y2, _⟩ | ⟨e', y1, y2, _⟩
      · exact absurd y2 hC
      · rw [he] at y1
        injection y1 with y1
        exact fun z => this (hF' e (by omega) z)
  · have a1 := (h3 a (by rw [show tK T a = 7 from k1]; decide)).1
    have a2 := (h3 a' (by rw [show tK T a' = 7 from k2]; decide)).1
    rw [(hc a a1).2.2.2] at e1
    rw [(hc a' a2).2.2.2] at e2
    exact h5 a a' b k1 k2 e1 e2
  · have a1 := (h3 a (by rw [show tK T a = 1 from k1]; decide)).1
    have a2 := (h3 a' (by rw [show tK T a' = 1 from k2]; decide)).1
    rw [(hc a a1).2.2.2] at e1
    rw [(hc a' a2).2.2.2] at e2
    exact h6 a a' e k1 k2 c1 c2 e1 e2

/-- a caught call: what it tells, or the code of its exception -/
def bW (x : Option (Tx × (Nat ⊕ Int32))) (k : Nat → Option Int32) : Option (Tx × Int32) := match x with
  | none => none
  | some (T, .inl e) => match k e with
    | none => none
    | some c => some (T, c)
  | some (T, .inr v) => some (T, v)
def bWn (x : Option (Nat ⊕ Int32)) (k : Nat → Option Int32) : Option Int32 := match x with
  | none => none
  | some (.inl e) => k e
  | some (.inr v) => some v
theorem bW_r {T : Tx} {v : Int32} {k : Nat → Option Int32} : bW (some (T, .inr v)) k = some (T, v) := rfl
theorem bW_l {T : Tx} {e : Nat} {c : Int32} {k : Nat → Option Int32} (h : k e = some c) : bW (some (T, .inl e)) k = some (T, c) := by
  unfold bW
  dsimp only
  rw [h]
theorem bWn_r {v : Int32} {k : Nat → Option Int32} : bWn (some (.inr v)) k = some v := rfl
theorem bWn_l {e : Nat} {k : Nat → Option Int32} : bWn (some (.inl e)) k = k e := rfl
theorem bW_ex {x : Option (Tx × (Nat ⊕ Int32))} {k : Nat → Option Int32} {o : Tx × Int32} (h : bW x k = some o) : (∃ T v, x = some (T, .inr v) ∧ o = (T, v)) ∨ ∃ T e c, x = some (T, .inl e) ∧ k e = some c ∧ o = (T, c) := by
  match x, h with
  | some (T, .inr v), h => cases h; exact Or.inl ⟨_, _, rfl, rfl⟩
  | some (T, .inl e), h =>
    unfold bW at h
    dsimp only at h
    cases hk : k e with
    | none => rw [hk] at h; cases h
    | some c => rw [hk] at h; cases h; exact Or.inr ⟨_, _, _, rfl, hk, rfl⟩
theorem bWn_ex {x : Option (Nat ⊕ Int32)} {k : Nat → Option Int32} {o : Int32} (h : bWn x k = some o) : (∃ v, x = some (.inr v) ∧ o = v) ∨ ∃ e c, x = some (.inl e) ∧ k e = some c ∧ o = c := by
  match x, h with
  | some (.inr v), h => cases h; exact Or.inl ⟨_, rfl, rfl⟩
  | some (.inl e), h => exact Or.inr ⟨_, _, rfl, h, rfl⟩
/-- the codes: 1 IllegalArgument, 2 IndexOutOfBounds, 3 IllegalState -/
def wc (a b c : Bool) (e : Nat) : Option Int32 := if e = 1 then (if a then some (-1000002) else none) else if e = 2 then (if b then some (-1000001) else none) else if e = 3 then (if c then some (-1000003) else none) else none
theorem wc_of {a b c : Bool} {e : Nat} {v : Int32} (h : wc a b c e = some v) : (e = 1 ∧ a = true ∧ v = -1000002) ∨ (e = 2 ∧ b = true ∧ v = -1000001) ∨ (e = 3 ∧ c = true ∧ v = -1000003) := by
  unfold wc at h
  by_cases h1 : e = 1
  · rw [if_pos h1] at h
    cases a with
    | true => cases h; exact Or.inl ⟨h1, rfl, rfl⟩
    | false => cases h
  · rw [if_neg h1] at h
    by_cases h2 : e = 2
    · rw [if_pos h2] at h
      cases b with
      | true => cases h; exact Or.inr (Or.inl ⟨h2, rfl, rfl⟩)
      | false => cases h
    · rw [if_neg h2] at h
      by_cases h3 : e = 3
      · rw [if_pos h3] at h
        cases c with
        | true => cases h; exact Or.inr (Or.inr ⟨h3, rfl, rfl⟩)
        | false => cases h
      · rw [if_neg h3] at h; cases h
/-- the law's state: the class's heap, and its own arrays of ints by address ([]: none there) -/
abbrev Lx : Type := Tx × (Nat → List Int32)
def lFA (A : Nat → List Int32) (a : Nat) : Prop := A a ≠ []
def lT (S : Lx) (T : Tx) : Lx := (T, S.2)
def lSet (S : Lx) (a : Nat) (i v : Int32) : Lx := (S.1, u1 S.2 a (xset (S.2 a) i v))
def lNew (S : Lx) (n : Nat) : Lx := (tz S.1 (tZ S.1 + 1), u1 S.2 (tZ S.1) (List.replicate n 0))
def ArR (G : ab_G) (A : Nat → List Int32) : Prop := ∀ a, A a ≠ [] → gK G a = 14 ∧ gN G a = (A a).length ∧ ∀ k, k < (A a).length → gI G a k = (A a).getD k 0
def LRep (G : ab_G) (S : Lx) : Prop := Rep2 (lFA S.2) G S.1 ∧ ArR G S.2
theorem LRep.cls {G G1 : ab_G} {S : Lx} {T1 : Tx} (h : LRep G S) (r : Rep2 (lFA S.2) G1 T1) (f : SameF (lFA S.2) G G1) : LRep G1 (lT S T1) := by
  refine ⟨r, fun a ha => ?_⟩
  obtain ⟨h1, h2, h3⟩ := h.2 a ha
  obtain ⟨f1, f2, f3, f4, f5⟩ := f a ha
  exact ⟨f1.trans h1, f2.trans h2, fun k hk => by rw [f3]; exact h3 k hk⟩
theorem vi_ne {i : Int32} {l : List Int32} (h : vi i l.length) : l ≠ [] := by
  intro e
  rw [e] at h
  have h1 := h.1
  have h2 := h.2
  simp only [List.length_nil] at h2
  omega
theorem vi_nc {i : Int32} {n : Nat} (h : vi i n) : i.toNatClampNeg < n ∧ ¬ i < 0 := by
  have h1 := h.1
  have h2 := h.2
  have h3 : (i.toNatClampNeg : Int) = i.toInt := by
    show ((i.toInt.toNat : Nat) : Int) = i.toInt
    omega
  refine ⟨by omega, fun z => ?_⟩
  have := Int32.lt_iff_toInt_lt.mp z
  have e : (0 : Int32).toInt = 0 := by decide
  omega
section
variable {d : Nat} {Γ : ab_Gm} {o : Nat} {I : ab_Info} {scL : Nat} {scX : Nat → Int32} {P : ab_Pq} {X : ab_Xq} {R : ab_K} {pc : Nat} {L : List (Option Value)} {r : List Value} {G : ab_G} {bc bs : Nat} {S : Lx}
theorem ul_iaload (h2 : LRep G S) {a : Nat} {i : Int32} (hg : vi i (S.2 a).length) (hR : ab_Cl d Γ o I scL scX P X R) (hd : decode (mCd I) pc = .ok (.iaload, 1)) (k : R (pc + 1) L (.int (xg (S.2 a) i) :: r) G bc bs) : R pc L (.int i :: .ref a :: r) G bc bs := by
  obtain ⟨h3, h4, h5⟩ := h2.2 a (vi_ne hg)
  obtain ⟨g1, g2⟩ := vi_nc hg
  refine us_iaload hR hd h3 (by rw [h4]; exact vi_in hg) ?_
  rw [h5 _ g1]
  unfold xg at k
  rw [if_neg g2] at k
  exact k
theorem ul_iastore (h2 : LRep G S) {a : Nat} {i v : Int32} (hg : vi i (S.2 a).length) (hR : ab_Cl d Γ o I scL scX P X R) (hd : decode (mCd I) pc = .ok (.iastore, 1)) (k : ∀ G1 S1, S1 = lSet S a i v → LRep G1 S1 → R (pc + 1) L r G1 bc bs) : R pc L (.int v :: .int i :: .ref a :: r) G bc bs := by
  have hn := vi_ne hg
  obtain ⟨h3, h4, h5⟩ := h2.2 a hn
  obtain ⟨g1, g2⟩ := vi_nc hg
  refine us_iastore hR hd h3 (by rw [h4]; exact vi_in hg) ?_
  have hx : xset (S.2 a) i v = (S.2 a).set i.toNatClampNeg v := by
    unfold xset
    rw [if_neg g2]
  have hl : (xset (S.2 a) i v).length = (S.2 a).length := by rw [hx, List.length_set]
  have hiff : ∀ b, lFA (lSet S a i v).2 b ↔ lFA S.2 b := by
    intro b
    by_cases hb : b = a
    · subst hb
      show u1 S.2 b (xset (S.2 b) i v) b ≠ [] ↔ S.2 b ≠ []
      rw [u1_s]
      refine ⟨fun _ => hn, fun _ z => ?_⟩
      rw [z] at hl
      exact hn (List.eq_nil_of_length_eq_zero hl.symm)
    · show u1 S.2 a (xset (S.2 a) i v) b ≠ [] ↔ S.2 b ≠ []
      rw [u1_n _ _ hb]
  refine k _ _ rfl ⟨?_, fun b hb => ?_⟩
  · have e : lFA (lSet S a i v).2 = lFA S.2 := funext (fun b => propext (hiff b))
    rw [e]
    refine h2.1.fg rfl (fun b hb => ⟨rfl, rfl, ?_, rfl⟩)
    refine u2_n _ _ _ (fun z => hb ?_)
    rw [z]
    exact hn
  · by_cases hba : b = a
    · subst hba
      show gK G b = 14 ∧ gN G b = (u1 S.2 b (xset (S.2 b) i v) b).length ∧ ∀ j, j < (u1 S.2 b (xset (S.2 b) i v) b).length → u2 (gI G) b i.toNatClampNeg v b j = (u1 S.2 b (xset (S.2 b) i v) b).getD j 0
      rw [u1_s, hl]
      refine ⟨h3, h4, fun j hj => ?_⟩
      rw [u2_s, hx]
      dsimp only
      by_cases hji : j = i.toNatClampNeg
      · rw [if_pos hji, hji]
        simp [List.getD_eq_getElem?_getD, g1]
      · rw [if_neg hji, h5 j hj]
        simp [List.getD_eq_getElem?_getD, List.getElem?_set_ne (Ne.symm hji)]
    · have hb2 : S.2 b ≠ [] := (hiff b).1 hb
      obtain ⟨q1, q2, q3⟩ := h2.2 b hb2
      show gK G b = 14 ∧ gN G b = (u1 S.2 a (xset (S.2 a) i v) b).length ∧ ∀ j, j < (u1 S.2 a (xset (S.2 a) i v) b).length → u2 (gI G) a i.toNatClampNeg v b j = (u1 S.2 a (xset (S.2 a) i v) b).getD j 0
      rw [u1_n _ _ hba, u2_n _ _ _ hba]
      exact ⟨q1, q2, q3⟩
theorem ul_newa (h2 : LRep G S) {n : Nat} {x : Int32} (hn0 : 0 < n) (hn : x.toNatClampNeg = n) (hx : ¬ x < 0) (hN : n ≤ 60000) (hR : ab_Cl d Γ o I scL scX P X R) (hd : decode (mCd I) pc = .ok (.newarray .int, 2)) (h1 : 1 ≤ bc) (hb : n ≤ bs) (k : ∀ G1 S1, S1 = lNew S n → LRep G1 S1 → R (pc + 2) L (.ref (tZ S.1) :: r) G1 (bc - 1) (bs - n)) : R pc L (.int x :: r) G bc bs := by
  subst hn
  refine us_newa14 hR hd hx hN h1 hb ?_
  have hz : gZ G = tZ S.1 := h2.1.1
  rw [hz]
  have hF : ∀ a, lFA S.2 a → a < tZ S.1 := h2.1.2.1
  have hiff : ∀ b, b < tZ S.1 → (lNew S x.toNatClampNeg).2 b = S.2 b := fun b hb => u1_n _ _ (by omega)
  refine k _ _ rfl ⟨?_, fun b hb => ?_⟩
  · have hgz : gZ (gNew G 14 x.toNatClampNeg) = tZ S.1 + 1 := by
      show gZ G + 1 = _
      rw [hz]
    have := h2.1.ad (F' := lFA (lNew S x.toNatClampNeg).2) (G' := gNew G 14 x.toNatClampNeg) (by rw [hgz]; omega) (fun a ha => ⟨u1_n _ _ (by omega), u1_n _ _ (by omega), u1_n _ _ (by omega), u1_n _ _ (by omega)⟩) (fun a ha => by
      rw [hgz]
      by_cases e : a = tZ S.1
      · omega
      · have : lFA S.2 a := by
          have h9 : u1 S.2 (tZ S.1) (List.replicate x.toNatClampNeg 0) a ≠ [] := ha
          rw [u1_n _ _ e] at h9
          exact h9
        have := hF a this
        omega) (fun a ha h => by
      have h9 : (lNew S x.toNatClampNeg).2 a ≠ [] := h
      rw [hiff a ha] at h9
      exact h9)
    rw [hgz] at this
    exact this
  · by_cases e : b = tZ S.1
    · subst e
      show u1 (gK G) (gZ G) 14 _ = 14 ∧ u1 (gN G) (gZ G) _ _ = (u1 S.2 (tZ S.1) (List.replicate x.toNatClampNeg 0) (tZ S.1)).length ∧ ∀ j, j < (u1 S.2 (tZ S.1) (List.replicate x.toNatClampNeg 0) (tZ S.1)).length → u1 (gI G) (gZ G) (fun _ => 0) (tZ S.1) j = (u1 S.2 (tZ S.1) (List.replicate x.toNatClampNeg 0) (tZ S.1)).getD j 0
      rw [hz, u1_s, u1_s, u1_s, u1_s, List.length_replicate]
      refine ⟨rfl, rfl, fun j hj => ?_⟩
      simp [List.getD_eq_getElem?_getD, hj]
    · have hb2 : S.2 b ≠ [] := by
        have h9 : u1 S.2 (tZ S.1) (List.replicate x.toNatClampNeg 0) b ≠ [] := hb
        rw [u1_n _ _ e] at h9
        exact h9
      obtain ⟨q1, q2, q3⟩ := h2.2 b hb2
      show u1 (gK G) (gZ G) 14 b = 14 ∧ u1 (gN G) (gZ G) _ b = (u1 S.2 (tZ S.1) (List.replicate x.toNatClampNeg 0) b).length ∧ ∀ j, j < (u1 S.2 (tZ S.1) (List.replicate x.toNatClampNeg 0) b).length → u1 (gI G) (gZ G) (fun _ => 0) b j = (u1 S.2 (tZ S.1) (List.replicate x.toNatClampNeg 0) b).getD j 0
      rw [hz, u1_n _ _ e, u1_n _ _ e, u1_n _ _ e, u1_n _ _ e]
      exact ⟨q1, q2, q3⟩
end
section
variable {d : Nat} {Γ : ab_Gm} {o : Nat} {I : ab_Info} {scL : Nat} {scX : Nat → Int32} {P : ab_Pq} {X : ab_Xq} {R : ab_K} {pc : Nat} {L : List (Option Value)} {S : List Value} {G : ab_G} {bc bs : Nat}
theorem us_callVc {i y a : Nat} {J : ab_Info} {rest : List Value} (c n : Nat) (hR : ab_Cl d Γ o I scL scX P X R) (hd : decode (mCd I) pc = .ok (.invokevirtual i, 3)) (hm : ab_mR o i = some y) (hy : 10 ≤ y) (hJ : ab_M y = some J) (hst : mSt J = false) (hni : ab_ini J = false) (hS : S.drop (mNa J) = .ref a :: rest) (hk : gK G a = mCi J) (hn : (S.take (mNa J)).length = mNa J) (hc : ab_cat rest ≤ 8) (e1 : mMc J (.ref a :: (S.take (mNa J)).reverse) = c) (e2 : mMs J (.ref a :: (S.take (mNa J)).reverse) = n) (h1 : c ≤ bc) (h2 : n ≤ bs) (h : Γ y (.ref a :: (S.take (mNa J)).reverse) G (fun G' v => R (pc + 3) L (v.toList ++ rest) G' (bc - c) (bs - n)) (ab_exc I R X pc L (bc - c) (bs - n))) : R pc L (S) G bc bs := by
  subst e1
  subst e2
  exact us_callV hR hd hm hy hJ hst hni hS hk hn hc h1 h2 h
theorem us_callV0 {i y a : Nat} {J : ab_Info} {rest : List Value} (hR : ab_Cl d Γ o I scL scX P X R) (hd : decode (mCd I) pc = .ok (.invokevirtual i, 3)) (hm : ab_mR o i = some y) (hy : 10 ≤ y) (hJ : ab_M y = some J) (hst : mSt J = false) (hni : ab_ini J = false) (hS : S.drop (mNa J) = .ref a :: rest) (hk : gK G a = mCi J) (hn : (S.take (mNa J)).length = mNa J) (hc : ab_cat rest ≤ 8) (e1 : mMc J (.ref a :: (S.take (mNa J)).reverse) = 0) (e2 : mMs J (.ref a :: (S.take (mNa J)).reverse) = 0) (h : Γ y (.ref a :: (S.take (mNa J)).reverse) G (fun G' v => R (pc + 3) L (v.toList ++ rest) G' bc bs) (ab_exc I R X pc L bc bs)) : R pc L (S) G bc bs :=
  us_callVc 0 0 hR hd hm hy hJ hst hni hS hk hn hc e1 e2 (Nat.zero_le _) (Nat.zero_le _) (by rw [Nat.sub_zero, Nat.sub_zero]; exact h)
theorem us_callSc {i y : Nat} {J : ab_Info} {rest : List Value} (c n : Nat) (hR : ab_Cl d Γ o I scL scX P X R) (hd : decode (mCd I) pc = .ok (.invokestatic i, 3)) (hm : ab_mR o i = some y) (hy : 10 ≤ y ∧ y ≠ 13000) (hJ : ab_M y = some J) (hst : mSt J = true) (hn : (S.take (mNa J)).length = mNa J) (hS : S.drop (mNa J) = rest) (hc : ab_cat rest ≤ 8) (e1 : mMc J ((S.take (mNa J)).reverse) = c) (e2 : mMs J ((S.take (mNa J)).reverse) = n) (h1 : c ≤ bc) (h2 : n ≤ bs) (h : Γ y ((S.take (mNa J)).reverse) G (fun G' v => R (pc + 3) L (v.toList ++ rest) G' (bc - c) (bs - n)) (ab_exc I R X pc L (bc - c) (bs - n))) : R pc L (S) G bc bs := by
  subst e1
  subst e2
  exact us_callS hR hd hm hy hJ hst hn hS hc h1 h2 h
theorem us_callS0 {i y : Nat} {J : ab_Info} {rest : List Value} (hR : ab_Cl d Γ o I scL scX P X R) (hd : decode (mCd I) pc = .ok (.invokestatic i, 3)) (hm : ab_mR o i = some y) (hy : 10 ≤ y ∧ y ≠ 13000) (hJ : ab_M y = some J) (hst : mSt J = true) (hn : (S.take (mNa J)).length = mNa J) (hS : S.drop (mNa J) = rest) (hc : ab_cat rest ≤ 8) (e1 : mMc J ((S.take (mNa J)).reverse) = 0) (e2 : mMs J ((S.take (mNa J)).reverse) = 0) (h : Γ y ((S.take (mNa J)).reverse) G (fun G' v => R (pc + 3) L (v.toList ++ rest) G' bc bs) (ab_exc I R X pc L bc bs)) : R pc L (S) G bc bs :=
  us_callSc 0 0 hR hd hm hy hJ hst hn hS hc e1 e2 (Nat.zero_le _) (Nat.zero_le _) (by rw [Nat.sub_zero, Nat.sub_zero]; exact h)
end
end LAWB
