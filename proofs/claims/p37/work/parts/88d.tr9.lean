/-! acts: an operand ends, in the reference too -/
def HP (P : Mx → Prop) (x : Option (Mx × Int32)) : Prop := ∀ m r, x = some (m, r) → P m
def HV (P : Mx → Prop) (x : Option Mx) : Prop := ∀ m, x = some m → P m
theorem gd_v {α : Type} {c : Prop} [Decidable c] {x : Option α} {r : α} (h : gd c x = some r) : x = some r := by
  rw [gd_e (gd_c h)] at h
  exact h
section HPs
variable {α β : Type} {P Q : Mx → Prop}
theorem HP.gd {c : Prop} [Decidable c] {x : Option (Mx × Int32)} (h : HP P x) : HP P (gd c x) := by
  exact fun m r e => h m r (gd_v e)
theorem HP.ite {c : Prop} [Decidable c] {x y : Option (Mx × Int32)} (h : HP P x) (h' : HP P y) : HP P (if c then x else y) := by
  split
  · exact h
  · exact h'
theorem HP.bP {x : Option α} {k : α → Option (Mx × Int32)} (h : ∀ a, HP P (k a)) : HP P (bP x k) := by
  cases x with
  | none => intro m r e; cases e
  | some a => exact h a
theorem HP.bO {x : Option (Mx × Int32)} {k : Mx → Int32 → Option (Mx × Int32)} (h : HP Q x) (h' : ∀ m r, Q m → HP P (k m r)) : HP P (bO x k) := by
  cases x with
  | none => intro m r e; cases e
  | some a => exact h' a.1 a.2 (h a.1 a.2 rfl)
theorem HP.some {m : Mx} {r : Int32} (h : P m) : HP P (some (m, r)) := by
  intro m' r' e
  rw [← (Prod.mk.inj (Option.some.inj e)).1]
  exact h
theorem HV.gd {c : Prop} [Decidable c] {x : Option Mx} (h : HV P x) : HV P (gd c x) := by
  exact fun m e => h m (gd_v e)
theorem HV.ite {c : Prop} [Decidable c] {x y : Option Mx} (h : HV P x) (h' : HV P y) : HV P (if c then x else y) := by
  split
  · exact h
  · exact h'
theorem HV.bP {x : Option α} {k : α → Option Mx} (h : ∀ a, HV P (k a)) : HV P (bP x k) := by
  cases x with
  | none => intro m e; cases e
  | some a => exact h a
theorem HV.bO {x : Option (Mx × Int32)} {k : Mx → Int32 → Option Mx} (h : HP Q x) (h' : ∀ m r, Q m → HV P (k m r)) : HV P (bO x k) := by
  cases x with
  | none => intro m e; cases e
  | some a => exact h' a.1 a.2 (h a.1 a.2 rfl)
theorem HV.some {m : Mx} (h : P m) : HV P (some m) := by
  intro m' e
  rw [← Option.some.inj e]
  exact h
end HPs
/-- arrays that only tell codes may differ -/
def FrA (m m' : Mx) : Prop := ∀ j, j ≠ 0 → j ≠ 4 → j ≠ 5 → m' j = m j
theorem FrA.r {m : Mx} : FrA m m := fun _ _ _ _ => rfl
theorem FrA.tr {m m' m'' : Mx} (h : FrA m m') (h' : FrA m' m'') : FrA m m'' := fun j a b c => (h' j a b c).trans (h j a b c)
theorem FrA.mp {m : Mx} {f : Nat} {x : Int32} : FrA m (mp m f x) := fun j h0 _ _ => mp_j h0
theorem FrA.m5 {m : Mx} {i x : Int32} : FrA m (ms m 5 i x) := fun j _ _ h5 => ms_j h5
theorem FrA.cd {m : Mx} {w x : Int32} : HP (FrA m) (f_12021 w x m) := by
  unfold f_12021
  refine HP.gd (HP.gd (HP.some ?_))
  intro j h0 h4 h5
  rw [mp_j h0, ms_j h5, ms_j h4]
theorem en_fr : ∀ (n : Nat) (m : Mx), HP (FrA m) (f_12034_L0 n m) := by
  intro n
  induction n with
  | zero => intro m m' r e; cases e
  | succ n ih =>
    intro m
    rw [f_12034_L0]
    refine HP.bP fun r1 => HP.ite ?_ ?_
    · refine HP.gd (HP.bO FrA.cd fun m' r h m'' r'' e => ?_)
      exact (FrA.mp.tr FrA.mp).tr (h.tr (ih m' m'' r'' e))
    · refine HP.bP fun r4 => HP.ite (HP.some ?_) (HP.bP fun r6 => HP.ite ?_ (HP.some FrA.mp))
      · exact FrA.mp.tr (FrA.mp.tr (FrA.mp.tr FrA.mp))
      · rw [bS_eq]
        refine HP.bO FrA.cd fun m' r h => ?_
        rw [bS_eq]
        refine HP.some ?_
        exact (FrA.mp.tr FrA.mp).tr (h.tr FrA.mp)
theorem fl_fr : ∀ (n : Nat) (l : Int32) (m : Mx), HV (FrA m) (f_12032_L0 n l m) := by
  intro n
  induction n with
  | zero => intro l m m' e; cases e
  | succ n ih =>
    intro l m
    have hJ : HV (FrA m) (f_12032_J66 (f_12032_L0 n) l (mp m 35 (mf m 35 - 1))) := by
      unfold f_12032_J66
      refine HV.bO FrA.cd fun m' r h => HV.gd (HV.gd fun m'' e => ?_)
      exact FrA.mp.tr (h.tr (FrA.m5.tr (ih l _ m'' e)))
    rw [f_12032_L0]
    refine HV.bP fun r3 => HV.ite (HV.some FrA.r) (HV.bP fun r5 => HV.ite (HV.some FrA.r) (HV.bP fun r7 => HV.ite (HV.some FrA.r) (HV.gd (HV.ite hJ (HV.gd (HV.ite hJ (HV.gd (HV.bO FrA.cd fun m' r h m'' e => ?_))))))))
    exact FrA.mp.tr (h.tr (ih l m' m'' e))
section EN3
variable {tx : List Int32} {bl : List Ae} {a L : Nat} {s : Sx} {m : Mx} {op : List Ae}
theorem lc0 {op : List Ae} (hx : ∀ x, x ∈ op → isEx x.1) : op.countP (fun x => decide (lvK x.1 = 0)) ≤ lc op := by
  unfold lc
  refine List.countP_mono_left fun x hxm h => ?_
  have h0 : lvK x.1 = 0 := by simpa using h
  have := hx x hxm
  rcases this with e | e | e | e
  · have e1 := e.1
    rw [h0] at e1
    exact absurd e1 (by decide)
  all_goals (unfold lcF; rw [e]; decide)
theorem Srt.len6 {op : List Ae} (h : Srt op) (hV : ∀ x, x ∈ op → (lvK x.1 = 0 ∨ isBin x.1)) : op.length ≤ 7 * op.countP (fun x => decide (lvK x.1 = 0)) + 6 := by
  cases op with
  | nil => exact Nat.zero_le _
  | cons y q =>
    have h1 : (y :: q).length ≤ 7 * (y :: q).countP (fun x => decide (lvK x.1 = 0)) + (lvK y.1).toInt.toNat := Srt.len h hV
    have h2 : (lvK y.1).toInt.toNat ≤ 6 := by
      rcases hV y (List.mem_cons_self ..) with e | e
      · rw [e]; decide
      · have := e.2; omega
    omega
/-- how deep what is open can be -/
theorem op_len {xs : List Ae} {f : Ae} (hO : IvO s (xs ++ [f])) (hx : ∀ x, x ∈ xs → isEx x.1) (hl : lc (xs ++ [f]) ≤ 8) : (xs ++ [f]).length < 100 := by
  have h1 := Srt.len6 hO.2.2 (fun x q => by
    rcases (hO.1 x q).1 with ⟨_, e⟩ | e
    · exact Or.inl e
    · exact Or.inr e)
  have h2 := lc0 hx
  have h3 : lc xs ≤ lc (xs ++ [f]) := by
    unfold lc
    rw [List.countP_append]
    omega
  have h4 : (xs ++ [f]).countP (fun x => decide (lvK x.1 = 0)) ≤ xs.countP (fun x => decide (lvK x.1 = 0)) + 1 := by
    rw [List.countP_append]
    have : [f].countP (fun x => decide (lvK x.1 = 0)) ≤ 1 := List.countP_le_length
    omega
  omega
theorem Rel.en {xs : List Ae} {f : Ae} (hL : Lv a ((tks tx).length - 1) L s) (hR : Raw tx s a) (hM : RR (tks tx) tx s a (xs ++ [f]) bl (oeP (xs ++ [f]) bl) (ocP (xs ++ [f])) 0 m) (h7 : m 0 7 = nI (bend (tks tx) a)) (h33 : m 0 33 = s.2 4) (h34 : m 0 34 = s.2 5)
    (h43 : m 0 43 = f.2.1) (h25 : f.1 = 47 → m 25 bl.length = f.2.2.2.1) (hf : stF f.1) (hx : ∀ x, x ∈ xs → isEx x.1) (hO : IvO s (xs ++ [f])) (hF : FV s f a 2) (hB : ∀ b, b ∈ bl → BlV s b) (hN : NmE tx s (xs ++ [f]) bl a L) (ha : a ≤ 300) :
    ∃ m' L', f_12034 m = some (m', 1) ∧ Rel tx (au_en bl (xs ++ [f]) s) a L' m' 0 ∧ Inv tx (au_en bl (xs ++ [f]) s) a L' := by
  have hL8 := hL.2.2.2.2.2.2.2.1
  have hlen : (xs ++ [f]).length < 100 := op_len hO hx (by have := hN.2.2.1; omega)
  have hcod := hN.1
  obtain ⟨m', e1, e2, e3, e4, e5⟩ := en_12034 (tx := tx) (xs ++ [f]) 1000 s m hM (fun x q => hO.1 x q) hlen (by omega) (by omega) h33
  have e6 := en_fr 1000 m m' 1 e1
  obtain ⟨L', z1, z2, z3, z4, z5, z6, ys, f', z7, z8, z9, z10, z11⟩ := en_all hf xs s L hL hO hx hF hB hN ha
  refine ⟨m', L', e1, ?_, z2⟩
  generalize au_en bl (xs ++ [f]) s = B at *
  obtain ⟨s', st', op', bl'⟩ := B
  dsimp only at z1 z2 z3 z4 z5 z6 z7 e2 e3 e4
  subst z5
  subst z7
  have hpd : pdN st' = 0 := by rcases z6 with q | q | q <;> rw [q] <;> rfl
  have hsc : scN st' (s'.2 5) = s'.2 5 := by rcases z6 with q | q | q <;> rw [q] <;> rfl
  have hne : ∀ x, x ∈ xs → ¬ (43 : Int32) ≤ x.1 := by
    intro x hxm
    rcases hx x hxm with q | q | q | q
    · intro w
      have := (lvK_31 m q.1 q.2).2.2.2
      rw [i_le] at w this
      have e40 : (40 : Int32).toInt = 40 := rfl
      have e43 : (43 : Int32).toInt = 43 := rfl
      omega
    all_goals (rw [q]; decide)
  have hf' : (43 : Int32) ≤ f'.1 := by
    rcases z9 with (q | q | q | q | q | q | q | q) | q <;> rw [q] <;> decide
  refine Rel.mk z1 ?_ ?_ ?_ e3 e4 ?_ ?_
  · refine ⟨?_, fun i hi hi2 => ?_⟩
    · rw [z3 1 (by decide) (by decide)]; exact hR.1
    · rw [z3 0 (by decide) (by decide), z3 1 (by decide) (by decide)]; exact hR.2 i hi hi2
  · rw [hpd]
    refine (e2.oew (fun k hk => ?_)).ocw (fun k hk => ?_)
    · obtain ⟨k1, ⟨x, hxm, hx43, hx2⟩ | q⟩ := hk
      · rcases List.mem_append.1 hxm with w | w
        · exact absurd hx43 (hne x w)
        · rw [List.mem_singleton.1 w, ← z8] at hx2
          exact ⟨k1, Or.inl ⟨f', List.mem_append_right _ (List.mem_singleton.2 rfl), hf', hx2⟩⟩
      · exact ⟨k1, Or.inr q⟩
    · obtain ⟨k1, x, hxm, h42, hx2⟩ := hk
      rcases List.mem_append.1 hxm with w | w
      · exact ⟨k1, x, List.mem_append_left _ (z11 x w h42), h42, hx2⟩
      · rw [List.mem_singleton.1 w] at h42
        rcases hf with q | q | q | q | q | q | q | q <;> rw [q] at h42 <;> exact absurd h42 (by decide)
  · rw [e5 7 (by decide) (by decide) (by decide) (by decide)]
    exact h7
  · rw [hsc, e5 34 (by decide) (by decide) (by decide) (by decide), z4]
    exact h34
  · refine Ex.mkE z9 ?_ (fun q => ?_) hpd
    · rw [e5 43 (by decide) (by decide) (by decide) (by decide), z8]
      exact h43
    · rw [e6 25 (by decide) (by decide) (by decide), z8]
      exact h25 (z10 q)
/-- an operand that is one token -/
theorem opnd {st : Int32} (hst : st = 2 ∨ st = 3) (hI : Inv tx (s, st, op, bl) a L) (hE : Ex st op bl a s m) (ha : a + 1 < (tks tx).length) (ha3 : a < 300) {s3 : Sx} {m3 : Mx} (hL3 : Lv (a + 1) ((tks tx).length - 1) L s3) (hR3 : Raw tx s3 (a + 1)) (hM3 : RR (tks tx) tx s3 (a + 1) op bl (oeP op bl) (ocP op) 0 m3)
    (h7 : m3 0 7 = nI (bend (tks tx) (a + 1))) (h33 : m3 0 33 = s3.2 4) (h34 : m3 0 34 = s3.2 5) (h43 : m3 0 43 = m 0 43) (h25 : m3 25 = m 25) (hr : RwS s s3) (e7 : (s3.1 7).length = (s.1 7).length + 1) (e15 : (s3.1 15).length = (s.1 15).length) (e9 : (s3.1 9).length = (s.1 9).length) :
    ∃ m' L', f_12034 m3 = some (m', 1) ∧ Rel tx (au_en bl op s3) (a + 1) L' m' 0 ∧ Inv tx (au_en bl op s3) (a + 1) L' := by
  obtain ⟨hO, hB, hS, hN⟩ := hI
  have hS2 : Sh tx s st op bl a := hS
  have hN2 : Nm tx s st op bl a L := hN
  have hB2 : ∀ b, b ∈ bl → BlV s b := hB
  have hO2 : IvO s op := by
    have q : IvO s (mop st op) := hO
    rcases hst with e | e <;> rw [e] at q <;> exact q
  obtain ⟨xs, f, rfl, g1, g2, g3, g4, g5⟩ := Sh.sE hS2 (hst.elim Or.inl (fun e => Or.inr (Or.inl e)))
  have h51 : f.1 ≠ 51 ∧ f.1 ≠ 52 ∧ f.1 ≠ 53 := by rcases g2 with e | e | e | e | e | e | e | e <;> rw [e] <;> decide
  have z1 : s13 st = 0 := by rcases hst with e | e <;> rw [e] <;> rfl
  have z2 : sPr st = 0 := by rcases hst with e | e <;> rw [e] <;> rfl
  have z3 : dsA st = 0 := by rcases hst with e | e <;> rw [e] <;> rfl
  have z4 : st ≠ 8 ∧ st ≠ 9 ∧ sPr st = 0 := ⟨by rcases hst with e | e <;> rw [e] <;> decide, by rcases hst with e | e <;> rw [e] <;> decide, z2⟩
  have z5 : st ≠ 4 := by rcases hst with e | e <;> rw [e] <;> decide
  have h53 : ∀ x, x ∈ xs ++ [f] → x.1 ≠ 53 := fun x q => by
    rcases List.mem_append.1 q with r | r
    · exact (isEx_n (g1 x r)).1
    · rw [List.mem_singleton.1 r]; exact h51.2.2
  obtain ⟨q1, q2, q3, q4, q5⟩ := hN2
  rw [z1] at q1 q3 q4
  rw [z2] at q4
  rw [z3, dsB_n z4 h53] at q5
  rw [if_neg z5] at g3
  have hb := (bend_s ha).1
  refine Rel.en hL3 hR3 hM3 h7 h33 h34 (h43.trans (hE.f43 h51.1 h51.2.1)) (fun q => by rw [h25]; exact hE.f47 q) g2 g1 (hO2.up hr (by omega)) (g3.up hr (by omega)) (fun b hb => (hB2 b hb).up hr) ⟨by omega, by omega, by omega, ?_⟩ (by omega)
  rw [e9]
  split at q5
  · rename_i w
    rw [if_pos w]
    omega
  · rename_i w
    rw [if_neg w]
    omega
end EN3
