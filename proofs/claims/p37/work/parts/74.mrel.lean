/-! the reference's reader beside the automaton: what each holds -/
theorem ms_j {m : Mx} {j k : Nat} {i x : Int32} (h : k ≠ j) : ms m j i x k = m k := by
  simp [ms, u2, h]
theorem ms_s {m : Mx} {j n : Nat} {x : Int32} (hn : n < 100000) : ms m j (nI n) x j = fun i => if i = n then x else m j i := by
  simp [ms, u2, nI_C hn]
def MA (w x : Int32) (m : Mx) : Mx := mp (ms (ms m 4 (mf m 11) w) 5 (mf m 11) x) 11 (mf m 11 + 1)
theorem MA_e {m : Mx} {w x : Int32} {c : Nat} (h : mf m 11 = nI c) (hc : c < 1200) : f_12021 w x m = some (MA w x m, nI c) := by
  have hv : vi (mf m 11) 1200 := by rw [h]; exact vi_n hc (by omega)
  show gd (vi (mf m 11) 1200) (gd (vi (mf m 11) 1200) (some (MA w x m, (mf m 11 + 1) - 1))) = _
  rw [gd_e hv, gd_e hv, h, nI_1, nI_pred]
def MK (w st : Int32) (m : Mx) : Mx := mp (mp (ms m 6 (mf m 14) w) 14 (mf m 14 + 1)) 32 st
theorem MK_e {m : Mx} {w st : Int32} {c : Nat} (h : mf m 14 = nI c) (hc : c < 301) : f_12022 w st m = some (MK w st m, 1) := by
  have hv : vi (mf m 14) 301 := by rw [h]; exact vi_n hc (by omega)
  show gd (vi (mf m 14) 301) (some (MK w st m, 1)) = _
  rw [gd_e hv]
def MP (m : Mx) : Mx := mp (ms (mp m 43 (mf m 16)) 7 (mf m 16) (mf m 14)) 16 (mf m 16 + 1)
theorem MP_e {m : Mx} {c : Nat} (h : mf m 16 = nI c) (hc : c < 100) : f_12023 m = some (MP m) := by
  have hv : vi (mf m 16) 100 := by rw [h]; exact vi_n hc (by omega)
  show gd (vi (mf m 16) 100) (some (MP m)) = _
  rw [gd_e hv]
def MO (w x : Int32) (m : Mx) : Mx := mp (ms (ms m 20 (mf m 35) w) 21 (mf m 35) x) 35 (mf m 35 + 1)
theorem MO_e {m : Mx} {w x : Int32} {c : Nat} (h : mf m 35 = nI c) (hc : c < 100) : f_12024 w x m = some (MO w x m) := by
  have hv : vi (mf m 35) 100 := by rw [h]; exact vi_n hc (by omega)
  show gd (vi (mf m 35) 100) (gd (vi (mf m 35) 100) (some (MO w x m))) = _
  rw [gd_e hv, gd_e hv]
def MB (w x : Int32) (m : Mx) : Mx := MO w x (ms (MA 0 0 (MP m)) 25 (mf m 38) (mf m 11))
theorem MB_e {m : Mx} {w x : Int32} {p c b o : Nat} (h1 : mf m 16 = nI p) (hp : p < 100) (h2 : mf m 11 = nI c) (hc : c < 1200) (h3 : mf m 38 = nI b) (hb : b < 10) (h4 : mf m 35 = nI o) (ho : o < 100) : f_12040 w x m = some (MB w x m, 1) := by
  have hv : vi (mf m 38) 10 := by rw [h3]; exact vi_n hb (by omega)
  unfold f_12040
  rw [MP_e h1 hp, bOv_some, MA_e (show mf (MP m) 11 = nI c from h2) hc, bO_some]
  show gd (vi (mf m 38) 10) (bOv (f_12024 w x (ms (MA 0 0 (MP m)) 25 (mf m 38) (nI c))) fun s4 => some (s4, 1)) = _
  rw [gd_e hv, ← h2, MO_e (show mf (ms (MA 0 0 (MP m)) 25 (mf m 38) (mf m 11)) 35 = nI o from h4) ho, bOv_some]
  rfl
/-- kinds as they are written down; codes; marks in codes -/
def wm (x : Int32) : Int32 := if x = 34 then 2 else if x = 35 then 3 else if x = 36 then 12 else if x = 37 then 32 else if x = 38 then 26 else km x
def cm (c : Int32) : Int32 :=
  if c = 0 then 0 else if c = 1 then 1 else if c = 2 then 2 else if c = 3 then 3 else if c = 4 then 12 else if c = 5 then 9 else if c = 6 then 11 else if c = 7 then 16
  else if c = 8 then 4 else if c = 9 then 5 else if c = 10 then 8 else if c = 11 then 6 else if c = 12 then 7 else if c = 13 then 14 else if c = 14 then 13 else if c = 15 then 10 else if c = 16 then 15 else 17
def cdm (c x : Int32) : Int32 := if c = 8 ∨ c = 9 then wm x else x
abbrev tkd (T : List Tk) (i : Nat) : Int32 := (T.getD i (0, 0, 0, 0)).1
abbrev tvl (T : List Tk) (i : Nat) : Int32 := (T.getD i (0, 0, 0, 0)).2.1
abbrev tpl (T : List Tk) (i : Nat) : Nat := (T.getD i (0, 0, 0, 0)).2.2.1
abbrev ten (T : List Tk) (i : Nat) : Nat := (T.getD i (0, 0, 0, 0)).2.2.2
def NameIs (T : List Tk) (p z v : Int32) : Prop := ∃ i, i + 1 < T.length ∧ tkd T i = 4 ∧ p = nI (tpl T i) ∧ z = nI (ten T i - tpl T i) ∧ v = tvl T i
def Qc (c : Int32) (C D : Nat → Int32) (r7 r8 : List Int32) : Prop := c = nI r7.length ∧ r8.length = r7.length ∧ ∀ i, i < r7.length → C i = cm (r7.getD i 0) ∧ D i = cdm (r7.getD i 0) (r8.getD i 0)
def Qw (t : Int32) (W : Nat → Int32) (a : Nat) (r0 : List Int32) : Prop := t = nI a ∧ ∀ i, i < a → W i = wm (r0.getD i 0)
def Qn (T : List Tk) (N P Z : Nat → Int32) (r13 r14 : List Int32) : Prop :=
  N 0 = nI r13.length ∧ N 1 = nI r14.length ∧ r13.length ≤ 8 ∧ r14.length ≤ 8 ∧ r13.Nodup ∧ r14.Nodup ∧ (∀ k, k < r13.length → NameIs T (P k) (Z k) (r13.getD k 0)) ∧ ∀ k, k < r14.length → NameIs T (P (8 + k)) (Z (8 + k)) (r14.getD k 0)
def Qp (n : Int32) (F : Nat → Int32) (r5 r6 : List Int32) : Prop := n = nI r5.length ∧ r6.length = r5.length ∧ ∀ k, k < r5.length → F k = r5.getD k 0
def Qe (E : Nat → Int32) (r6 : List Int32) (oe : Nat → Prop) : Prop := ∀ k, k < r6.length → ¬ oe k → E k = r6.getD k 0 - 1
def Qd (T : List Tk) (n : Int32) (P Z N C : Nat → Int32) (r9 r10 r12 : List Int32) (pd : Nat) : Prop :=
  n = nI r9.length ∧ r10.length = r9.length ∧ r12.length = r9.length ∧ r9.Nodup ∧ (∀ k, k < r9.length → NameIs T (P k) (Z k) (r9.getD k 0)) ∧ ∀ k, k + pd < r9.length → N k = r10.getD k 0 ∧ C k = r12.getD k 0
def Qk (T : List Tk) (n : Int32) (P Z N C : Nat → Int32) (a : Nat) (r0 r1 r15 r16 r17 : List Int32) (oc : Nat → Prop) : Prop :=
  n = nI r15.length ∧ r16.length = r15.length ∧ r17.length = r15.length ∧ (∀ k, k < r15.length → ∃ i, i < a ∧ i + 1 < T.length ∧ r15.getD k 0 = nI i ∧ tkd T i = 4 ∧ r0.getD i 0 = 35 ∧ r1.getD i 0 = tvl T i ∧ P k = nI (tpl T i) ∧ Z k = nI (ten T i - tpl T i)) ∧
    ∀ k, k < r15.length → ¬ oc k → N k = r16.getD k 0 ∧ C k = r17.getD k 0
/-- what is open, on top first -/
def okm (k : Int32) : Int32 := if 40 ≤ k then k else km k
def odm (x : Ae) : Int32 := if x.1 = 40 then wm x.2.1 else if x.1 = 42 then x.2.1 else if x.1 = 43 then x.2.2.2.1 else if x.1 = 23 ∨ x.1 = 24 then x.2.2.1 else 0
def Qo (K D G : Nat → Int32) : List Ae → Prop
  | [] => True
  | x :: r => K r.length = okm x.1 ∧ D r.length = odm x ∧ (x.1 = 42 → ∃ k, x.2.1 = nI k ∧ k < 110 ∧ G k = x.2.2.1) ∧ Qo K D G r
def bkm (k : Int32) : Int32 := if k = 5 then 4 else if k = 6 then 5 else if k = 7 then 6 else 9
def Qb (K P C F : Nat → Int32) : List Ae → Prop
  | [] => True
  | b :: r => K r.length = bkm b.1 ∧ P r.length = b.2.1 ∧ C r.length = b.2.2.1 ∧ (b.1 = 7 → F r.length = b.2.2.2.1) ∧ Qb K P C F r
/-- the reference's reader m holds what the automaton's state s holds, at the token a; mo, bl: what is open; oe: the parts that are open; pd: 1 while a def's parameters are read; oc: the calls that are open -/
def RR (T : List Tk) (tx : List Int32) (s : Sx) (a : Nat) (mo bl : List Ae) (oe oc : Nat → Prop) (pd : Nat) (m : Mx) : Prop :=
  (MT tx m ∧ m 0 9 = 0) ∧ Qc (m 0 11) (m 4) (m 5) (s.1 7) (s.1 8) ∧ Qw (m 0 14) (m 6) a (s.1 0) ∧ Qn T (m 9) (m 10) (m 11) (s.1 13) (s.1 14) ∧ (Qp (m 0 16) (m 7) (s.1 5) (s.1 6) ∧ Qe (m 8) (s.1 6) oe) ∧
    Qd T (m 0 22) (m 12) (m 13) (m 14) (m 15) (s.1 9) (s.1 10) (s.1 12) pd ∧ Qk T (m 0 27) (m 16) (m 17) (m 18) (m 19) a (s.1 0) (s.1 1) (s.1 15) (s.1 16) (s.1 17) oc ∧ (m 0 35 = nI mo.length ∧ Qo (m 20) (m 21) (m 18) mo) ∧ (m 0 38 = nI bl.length ∧ Qb (m 22) (m 23) (m 24) (m 25) bl)
theorem gD_app_l {l : List Int32} {x : Int32} {i : Nat} (h : i < l.length) : (l ++ [x]).getD i 0 = l.getD i 0 := by
  rw [List.getD_eq_getElem?_getD, List.getD_eq_getElem?_getD, List.getElem?_append_left h]
theorem gD_app_r {l : List Int32} {x : Int32} : (l ++ [x]).getD l.length 0 = x := by
  rw [List.getD_eq_getElem?_getD, List.getElem?_append_right (Nat.le_refl _), Nat.sub_self]
  rfl
theorem xadd_e {n : Nat} {l : List Int32} {x : Int32} (h : l.length < n) : xadd n l x = l ++ [x] := if_pos h
section RRs
variable {T : List Tk} {tx : List Int32} {s : Sx} {a : Nat} {mo bl : List Ae} {oe oc : Nat → Prop} {pd : Nat} {m : Mx}
theorem RR.cd (h : RR T tx s a mo bl oe oc pd m) {c x w y : Int32} (hc : (s.1 7).length < 600) (hw : w = cm c) (hy : y = cdm c x) : RR T tx (au_cd c x s) a mo bl oe oc pd (MA w y m) := by
  obtain ⟨h1, h2, h3⟩ := h
  refine ⟨h1, ?_, h3⟩
  obtain ⟨q1, q2, q3⟩ := h2
  have e7 : (au_cd c x s).1 7 = s.1 7 ++ [c] := xadd_e hc
  have e8 : (au_cd c x s).1 8 = s.1 8 ++ [x] := by
    show xadd 600 (s.1 8) x = _
    exact xadd_e (by rw [q2]; exact hc)
  rw [e7, e8]
  have f1 : mf m 11 = nI (s.1 7).length := q1
  have g0 : MA w y m 0 11 = nI ((s.1 7).length + 1) := by
    unfold MA
    rw [mp_s, f1, nI_1]
  have g4 : MA w y m 4 = fun i => if i = (s.1 7).length then w else m 4 i := by
    unfold MA
    rw [mp_j (by decide), ms_j (by decide), f1, ms_s (by omega)]
  have g5 : MA w y m 5 = fun i => if i = (s.1 7).length then y else m 5 i := by
    unfold MA
    rw [mp_j (by decide), f1, ms_s (by omega), ms_j (by decide)]
  refine ⟨?_, ?_, ?_⟩
  · rw [g0, List.length_append]; rfl
  · rw [List.length_append, List.length_append, q2]; rfl
  · intro i hi
    rw [List.length_append] at hi
    rw [g4, g5]
    by_cases e : i = (s.1 7).length
    · subst e
      rw [gD_app_r]
      show (if _ then w else _) = _ ∧ (if _ then y else _) = _
      rw [if_pos rfl, if_pos rfl, ← q2, gD_app_r]
      exact ⟨hw, hy⟩
    · have hi' : i < (s.1 7).length := by
        have : [c].length = 1 := rfl
        omega
      rw [gD_app_l hi', gD_app_l (by rw [q2]; exact hi')]
      show (if _ then w else _) = _ ∧ (if _ then y else _) = _
      rw [if_neg e, if_neg e]
      exact q3 i hi'
theorem RR.nx (h : RR T tx s a mo bl oe oc pd m) {w st : Int32} (ha : a < 300) (hw : w = wm ((s.1 0).getD a 0)) : RR T tx (au_nx s) (a + 1) mo bl oe oc pd (MK w st m) := by
  obtain ⟨h1, h2, h3, h4, h5, h6, h7, h8⟩ := h
  refine ⟨h1, h2, ?_, h4, h5, h6, ?_, h8⟩
  · obtain ⟨q1, q2⟩ := h3
    have f1 : mf m 14 = nI a := q1
    have g6 : MK w st m 6 = fun i => if i = a then w else m 6 i := by
      unfold MK
      rw [mp_j (by decide), mp_j (by decide), f1, ms_s (by omega)]
    refine ⟨?_, ?_⟩
    · unfold MK
      rw [mp_n (by decide), mp_s, f1, nI_1]
    · intro i hi
      rw [g6]
      show (if i = a then w else m 6 i) = wm ((s.1 0).getD i 0)
      by_cases e : i = a
      · rw [if_pos e, hw, e]
      · rw [if_neg e]
        exact q2 i (by omega)
  · obtain ⟨q1, q2, q3, q4, q5⟩ := h7
    refine ⟨q1, q2, q3, fun k hk => ?_, q5⟩
    obtain ⟨i, w1, w2⟩ := q4 k hk
    exact ⟨i, by omega, w2⟩
theorem RR.sk (h : RR T tx s a mo bl oe oc pd m) {x : Int32} (h2 : s.2 2 = nI a) (ha : a < 300) : RR T tx (au_sk x s) a mo bl oe oc pd m := by
  obtain ⟨h1, h2', h3, h4, h5, h6, h7, h8⟩ := h
  have e0 : (au_sk x s).1 0 = (s.1 0).set a x := by
    show xset (s.1 0) (s.2 2) x = _
    rw [h2, xset_n (by omega)]
  refine ⟨h1, h2', ?_, h4, h5, h6, ?_, h8⟩
  · rw [e0]
    refine ⟨h3.1, fun i hi => ?_⟩
    rw [gD_set_n (by omega)]
    exact h3.2 i hi
  · obtain ⟨q1, q2, q3, q4, q5⟩ := h7
    refine ⟨q1, q2, q3, fun k hk => ?_, q5⟩
    obtain ⟨i, w1, w2, w3, w4, w5, w6⟩ := q4 k hk
    refine ⟨i, w1, w2, w3, w4, ?_, w6⟩
    rw [e0, gD_set_n (by omega)]
    exact w5
theorem RR.bp (h : RR T tx s a mo bl oe oc pd m) (h2 : s.2 2 = nI a) (hp : (s.1 5).length < 150) : RR T tx (au_bp s) a mo bl (fun k => k = (s.1 5).length ∨ oe k) oc pd (MP m) := by
  obtain ⟨h1, h2', h3, h4, ⟨⟨q1, q2, q3⟩, q4⟩, h6⟩ := h
  have e5 : (au_bp s).1 5 = s.1 5 ++ [nI a] := by
    show xadd 150 (s.1 5) (s.2 2) = _
    rw [h2, xadd_e hp]
  have e6 : (au_bp s).1 6 = s.1 6 ++ [nI a] := by
    show xadd 150 (s.1 6) (s.2 2) = _
    rw [h2, xadd_e (by rw [q2]; exact hp)]
  have f1 : mf m 16 = nI (s.1 5).length := q1
  have f2 : mf m 14 = nI a := h3.1
  have g7 : MP m 7 = fun i => if i = (s.1 5).length then nI a else m 7 i := by
    unfold MP
    rw [mp_j (by decide), f1, f2, ms_s (by omega), mp_j (by decide)]
  refine ⟨h1, h2', h3, h4, ⟨⟨?_, ?_, ?_⟩, ?_⟩, h6⟩
  · rw [e5, List.length_append]
    unfold MP
    rw [mp_s, f1, nI_1]
    rfl
  · rw [e5, e6, List.length_append, List.length_append, q2]
  · intro k hk
    rw [e5] at hk ⊢
    rw [List.length_append] at hk
    rw [g7]
    show (if k = _ then nI a else m 7 k) = _
    by_cases e : k = (s.1 5).length
    · rw [if_pos e, e, gD_app_r]
    · rw [if_neg e, gD_app_l (by have : [nI a].length = 1 := rfl; omega)]
      exact q3 k (by have : [nI a].length = 1 := rfl; omega)
  · intro k hk ho
    rw [e6] at hk ⊢
    rw [List.length_append] at hk
    have hk' : k < (s.1 6).length := by
      have : [nI a].length = 1 := rfl
      have : k ≠ (s.1 5).length := fun e => ho (Or.inl e)
      omega
    rw [gD_app_l hk']
    exact q4 k hk' (fun r => ho (Or.inr r))
end RRs
