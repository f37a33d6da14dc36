/-! three runs at once: a token, a code -/
section GMX
variable {s : Sx} {m : Mx} {x y : Int32} {n d f t : Nat} {O C V bW bM vs wt w : List Int32} {i k c r : Nat} {z z' kd mk : Int32}
def Cx (s : Sx) (m : Mx) (n d : Nat) : Prop := n < 600 ∧ d ≤ 40 ∧ (∀ c, c ≤ n → m 4 c = cm ((s.1 7).getD c 0) ∧ m 5 c = cdm ((s.1 7).getD c 0) ((s.1 8).getD c 0)) ∧ ∀ q, q < d → m 14 q = (s.1 10).getD q 0 ∧ m 15 q = (s.1 12).getD q 0
def Ok3 (f t : Nat) (O C V bW bM : List Int32) : Prop := f ≤ 5000 ∧ t ≤ 2 ∧ O.length ≤ 8 ∧ C.length = 32 ∧ V.length = 88 ∧ bW.length = bM.length ∧ bM.length ≤ 10
theorem Cx.c4 {q : Int32} (hX : Cx s m n d) (hc : c ≤ n) (h7 : (s.1 7).getD c 0 = q) : m 4 c = cm q := by rw [(hX.2.2.1 c hc).1, h7]
theorem Cx.c5 {q p : Int32} (hX : Cx s m n d) (hc : c ≤ n) (h7 : (s.1 7).getD c 0 = q) (h8 : (s.1 8).getD c 0 = p) : m 5 c = cdm q p := by rw [(hX.2.2.1 c hc).2, h7, h8]
theorem len1 {l : List Int32} {v : Int32} : (l ++ [v]).length = l.length + 1 := by rw [List.length_append]; rfl
theorem F7_en {lv : Int32} {S : Sx} (h : S.2 10 ≠ -1) : F7 kd lv (some S) = some S := by
  unfold F7
  rw [bOv_some, if_pos (going.2 h)]
theorem ck_e (q : Int64) : (ck q).1 = -1 ∨ (ck q).1 = 2 := by
  unfold ck
  repeat' split
  all_goals first | exact Or.inl rfl | exact Or.inr rfl
theorem o1_e (C : List Int32) (k v : Int32) : (o1 C k v).1 ≠ 0 := by
  have hq : ∀ q, (ck q).1 ≠ 0 := fun q => by rcases ck_e q with q | q <;> rw [q] <;> decide
  unfold o1
  repeat' split
  all_goals first | exact (show (-1 : Int32) ≠ 0 by decide) | exact (show (4 : Int32) ≠ 0 by decide) | exact hq _
theorem o2_e (k v w : Int32) : (o2 k v w).1 ≠ 0 := by
  have hq : ∀ q, (ck q).1 ≠ 0 := fun q => by rcases ck_e q with q | q <;> rw [q] <;> decide
  unfold o2
  repeat' split
  all_goals first | exact hq _ | (show (_ : Int32) ≠ 0; decide)
theorem g_beg {q : Int32} (hX : Cx s m n d) (ho : Ok3 f t O C V bW bM) (hc : c ≤ n) (hi : i < 900) (hk : (s.1 0).getD i 0 = q) (hb : bk q) (h7 : (s.1 7).getD c 0 = 0) (hl : wt.length < 1640) (hr : 1 ≤ r)
    (G : ∀ g, f = g + 1 → Gl s m x y g t O C V bW bM vs (wt ++ [nI i]) (i + dl q) 1 (c + 1) (r + 179)) : Gl s m x y f t O C V bW bM vs wt i 0 c r := by
  obtain ⟨o1, o2, o3, o4, o5, o6, o7⟩ := ho
  have h4 : m 4 c = 0 := (hX.c4 hc h7).trans (by decide)
  have hn := hX.1
  cases f with
  | zero => exact Gl.en (e := 1) (by decide) (by decide) o3 o4 o1 hr (W_beg0 (by omega) hk hb) (mc0z (by omega) h7) (fun A hA => ⟨A, _, _, _, _, rst_z (by omega) h4 (by decide), hA.2.2.2.1, hA.2.2.2.2⟩) (by omega) (by rw [h4]; decide)
  | succ f => exact Gl.go (W_beg (by omega) (by omega) hk hb (by omega)) (mc0 (by omega) (by omega) h7) (fun A hA => ⟨A, hA, rc0 (by omega) (by omega) h4⟩) (by omega) (by rw [h4]; decide) (by omega) (G f rfl)
theorem g_num {q : Int32} (hX : Cx s m n d) (hc : c ≤ n) (hi : i < 900) (hk : (s.1 0).getD i 0 = 3) (ht : (s.1 1).getD i 0 = q) (h7 : (s.1 7).getD c 0 = 1) (h8 : (s.1 8).getD c 0 = q) (hv : vs.length < 1290)
    (G : Gl s m x y f t O C V bW bM (vs ++ [q]) wt (i + 1) 2 (c + 1) r) : Gl s m x y f t O C V bW bM vs wt i 1 c (r + 1) := by
  have h4 : m 4 c = 1 := (hX.c4 hc h7).trans (by decide)
  have h5 : m 5 c = q := (hX.c5 hc h7 h8).trans (if_neg (by decide))
  have hn := hX.1
  exact Gl.go (W_num (by omega) hk ht (by omega)) (mc1 (by omega) h7 h8 (by omega)) (fun A hA => ⟨_, hA.push, by rw [len1]; exact rc1 (by omega) h4 h5 (by omega)⟩) (by omega) (by rw [h4]; decide) (by omega) G
theorem g_var {v : Nat} (hX : Cx s m n d) (ho : Ok3 f t O C V bW bM) (hc : c ≤ n) (hi : i < 900) (hk : (s.1 0).getD i 0 = 34) (ht : (s.1 1).getD i 0 = nI v) (hv8 : v < 8) (h7 : (s.1 7).getD c 0 = 2) (h8 : (s.1 8).getD c 0 = nI v) (hv : vs.length < 1290)
    (G : ∀ q, Gl s m x y f t O C V bW bM (vs ++ [q]) wt (i + 1) 2 (c + 1) r) : Gl s m x y f t O C V bW bM vs wt i 1 c (r + 1) := by
  obtain ⟨o1, o2, o3, o4, o5, o6, o7⟩ := ho
  have h4 : m 4 c = 2 := (hX.c4 hc h7).trans (by decide)
  have h5 : m 5 c = nI v := (hX.c5 hc h7 h8).trans (if_neg (by decide))
  have hn := hX.1
  have hW := W_var (O := O) (C := C) (V := V) (f := nI f) (x := x) (y := y) (t := nI t) (e := -1) (p := s.2 11) (wt := wt) (vm := s.1 22) (b := bW) (i := i) (v := v) (by omega) hk ht hv8 (by omega) (show vs.length < 1650 by omega)
  rw [o6] at hW
  refine Gl.go hW (mc2 (by omega) h7 h8 hv8 (by omega) (by omega)) (fun A hA => ⟨_, hA.push (v := V.getD (8 * bM.length + v) 0), ?_⟩) (by omega) (by rw [h4]; decide) (by omega) (G _)
  rw [len1, rc2 (by omega) h4 h5 hv8 (by omega) (by omega), hA.2.1 _ (by omega)]
theorem g_in (hX : Cx s m n d) (ho : Ok3 f t O C V bW bM) (hc : c ≤ n) (hi : i < 900) (hk : (s.1 0).getD i 0 = 9) (h7 : (s.1 7).getD c 0 = 5) (hv : vs.length < 1290) (hr : 1 ≤ r)
    (G : ∀ g q, f = g + 1 → t < 2 → Gl s m x y g (t + 1) O C V bW bM (vs ++ [q]) wt (i + 1) 2 (c + 1) (r + 179)) : Gl s m x y f t O C V bW bM vs wt i 1 c r := by
  obtain ⟨o1, o2, o3, o4, o5, o6, o7⟩ := ho
  have h4 : m 4 c = 9 := (hX.c4 hc h7).trans (by decide)
  have hn := hX.1
  cases f with
  | zero => exact Gl.en (e := 1) (by decide) (by decide) o3 o4 o1 hr (W_inz (by omega) hk (by omega)) (mc5z (by omega) h7 (by omega)) (fun A hA => ⟨A, _, _, _, _, rst_z (by omega) h4 (by decide), hA.2.2.2.1, hA.2.2.2.2⟩) (by omega) (by rw [h4]; decide)
  | succ f =>
    by_cases h2 : t < 2
    · exact Gl.go (W_in (by omega) h2 (by omega) hk (by omega)) (mc5 (by omega) h2 (by omega) h7 (by omega)) (fun A hA => ⟨_, hA.push, by rw [len1]; exact rc9 h2 (by omega) (by omega) h4 (by omega)⟩) (by omega) (by rw [h4]; decide) (by omega) (G f _ rfl h2)
    · have e2 : t = 2 := by omega
      subst e2
      refine Gl.en (e := 5) (by decide) (by decide) o3 o4 (by omega) hr (W_inx (by omega) (by omega) hk (by omega)) (mc5x (by omega) (by omega) h7 (by omega)) (fun A hA => ?_) (by omega) (by rw [h4]; decide)
      obtain ⟨v, e⟩ := rc9x (A := A) (D := nI bM.length) (o := nI O.length) (x := x) (y := y) (n := f) (c := c) (h := vs.length) (by omega) (by omega) h4 (by omega)
      exact ⟨_, _, _, _, _, e, fun k hk => by rw [uA_n (by decide)]; exact hA.2.2.2.1 k hk, fun k hk => by rw [uA_n (by decide)]; exact hA.2.2.2.2 k hk⟩
theorem g_op {q : Int32} (hi : i < 900) (hk : (s.1 0).getD i 0 = q) (h : q = 25 ∨ q = 26 ∨ q = 28 ∨ q = 36) (hl : wt.length < 1640)
    (G : Gl s m x y f t O C V bW bM vs (wt ++ [nI i]) (i + 1) 1 c r) : Gl s m x y f t O C V bW bM vs wt i 1 c (r + 1) := Gl.w (W_op (by omega) hk h (by omega)) G
theorem g_fn (hi : i < 800) (hk : (s.1 0).getD i 0 = 35) (h2 : (s.1 0).getD (i + 2) 0 ≠ 29) (hl : wt.length < 1640)
    (G : Gl s m x y f t O C V bW bM vs (wt ++ [nI (i + 1)]) (i + 2) 1 c r) : Gl s m x y f t O C V bW bM vs wt i 1 c (r + 1) := Gl.w (W_fn (by omega) hk h2 (by omega)) G
theorem g_bin (hi : i < 900) (hk : k < 900) (hl : w.length < 1630) (hd : (s.1 0).getD i 0 = kd) (h : StpW s k kd) (h0 : lvK kd ≠ 0) (h23 : kd ≠ 23) (h24 : kd ≠ 24)
    (G : Gl s m x y f t O C V bW bM vs (w ++ [nI k] ++ [nI i]) (i + 1) 1 c r) : Gl s m x y f t O C V bW bM vs (w ++ [nI k]) i 2 c (r + 1) := Gl.w (W_bin (by omega) (by omega) (by omega) hd h h0 h23 h24) G
theorem g_com (hi : i < 900) (hk : k < 900) (hl : w.length < 1630) (hd : (s.1 0).getD i 0 = kd) (h : lvK ((s.1 0).getD k 0) = 0) (h2 : kd = 32 ∨ kd = 27)
    (G : Gl s m x y f t O C V bW bM vs (w ++ [nI k]) (i + 1) 1 c r) : Gl s m x y f t O C V bW bM vs (w ++ [nI k]) i 2 c (r + 1) := Gl.w (W_com (by omega) (by omega) (by omega) hd h h2) G
theorem g_clo (hi : i < 900) (hk : k < 900) (hl : w.length < 1630) (hd : (s.1 0).getD i 0 = 29) (h : (s.1 0).getD k 0 = 28)
    (G : Gl s m x y f t O C V bW bM vs w (i + 1) 2 c r) : Gl s m x y f t O C V bW bM vs (w ++ [nI k]) i 2 c (r + 1) := Gl.w (W_clo (by omega) (by omega) (by omega) hd h) G
theorem g_dec {q : Nat} (hX : Cx s m n d) (ho : Ok3 f t O C V bW bM) (hc : c ≤ n) (hi : i < 900) (hk : k < 900) (hl : w.length < 1630) (hd : (s.1 0).getD i 0 = kd) (h : StpW s k kd) (h2 : kd = 23 ∧ (s.1 7).getD c 0 = 11 ∨ kd = 24 ∧ (s.1 7).getD c 0 = 12) (h8 : (s.1 8).getD c 0 = nI q) {j : Nat} (ht : (s.1 1).getD i 0 = nI j) (hv : vs.length < 1290) (hr : 1 ≤ r)
    (G1 : ∀ g v, f = g + 1 → Gl s m x y g t O C V bW bM (vs ++ [v]) (w ++ [nI k]) j 2 q (r + 179)) (G2 : ∀ g, f = g + 1 → Gl s m x y g t O C V bW bM vs (w ++ [nI k] ++ [nI i]) (i + 1) 1 (c + 1) (r + 179)) : Gl s m x y f t O C V bW bM (vs ++ [z]) (w ++ [nI k]) i 2 c r := by
  obtain ⟨o1, o2, o3, o4, o5, o6, o7⟩ := ho
  have hn := hX.1
  obtain ⟨co, hco, h7, hdc, hkd⟩ : ∃ co, (co = 11 ∨ co = 12) ∧ (s.1 7).getD c 0 = co ∧ dc co = dk kd ∧ (kd = 23 ∨ kd = 24) := by
    rcases h2 with ⟨q1, q2⟩ | ⟨q1, q2⟩
    · exact ⟨11, Or.inl rfl, q2, by rw [q1]; decide, Or.inl q1⟩
    · exact ⟨12, Or.inr rfl, q2, by rw [q1]; decide, Or.inr q1⟩
  have h4 : m 4 c = cm co := hX.c4 hc h7
  have h5 : m 5 c = nI q := (hX.c5 hc h7 h8).trans (if_neg (by rcases hco with q | q <;> subst q <;> decide))
  have h17 : m 4 c ≠ 17 := by rw [h4]; rcases hco with q | q <;> subst q <;> decide
  have hfu : f_12069 (cm co) (fun _ _ => 0) ≠ 0 := by rcases hco with q | q <;> subst q <;> decide
  cases f with
  | zero => exact Gl.en (e := 1) (by decide) (by decide) o3 o4 o1 hr (W_decz (by omega) (by omega) (by omega) hd h hkd) (mc11z hco (by omega) h7) (fun A hA => ⟨A, _, _, _, _, rst_z (by omega) h4 hfu, hA.2.2.2.1, hA.2.2.2.2⟩) (by omega) h17
  | succ f =>
    have hW := W_dec (s := s) (O := O) (C := C) (V := V) (b := bW) (vm := s.1 22) (vw := vs) (w := w) (x := x) (y := y) (t := nI t) (p := s.2 11) (i := i) (k := k) (kd := kd) (z := z) (n := f) (by omega) (by omega) (by omega) (by omega) hd h hkd (by omega)
    have hM := mc11 (s := s) (O := O) (C := C) (V := V) (b := bM) (vm := vs) (vw := s.1 23) (wt := s.1 24) (x := x) (y := y) (t := nI t) (i := s.2 12) (u := s.2 13) (z := z) (n := f) (c := c) (by omega) hco (by omega) h7 h8 (by omega)
    have hR : ∀ A, AR A O C V (vs ++ [z]) bM → _ := fun A hA => rc67 (A := A) (t := nI t) (D := nI bM.length) (o := nI O.length) (x := x) (y := y) (n := f) (c := c) (h := vs.length) (by omega) hco (by omega) h4 h5 (by omega)
    by_cases e : tr z = dk kd
    · rw [if_pos e, ht] at hW
      rw [hdc, if_pos e] at hM
      refine Gl.go hW hM (fun A hA => ?_) (by omega) h17 (by omega) (G1 f _ rfl)
      have := hR A hA
      rw [hA.top, hdc, if_pos e] at this
      exact ⟨_, hA.pop.push, by rw [len1, len1]; exact this⟩
    · rw [if_neg e] at hW
      rw [hdc, if_neg e] at hM
      refine Gl.go hW hM (fun A hA => ?_) (by omega) h17 (by omega) (G2 f rfl)
      have := hR A hA
      rw [hA.top, hdc, if_neg e] at this
      exact ⟨A, hA.pop, by rw [len1]; exact this⟩
theorem W_unz {e vm : List Int32} {p T : Int32} (hi : i < 900) (hk : k < 900) (hl : w.length < 1630) (hd : (s.1 0).getD i 0 = kd) (hmk : (s.1 0).getD k 0 = mk) (h7 : lvK mk = 7) (hlv : lvK kd ≤ 7) (hv : vs.length < 1290) (h23 : mk ≠ 23) (h24 : mk ≠ 24) :
    wst (cS s O C V e vm (vs ++ [z]) (w ++ [nI k]) (nI 0) x y T (-1) p (nI i) 2) = some (cS s O C V e vm (vs ++ [0]) w (nI 0) x y T 1 p (nI i) 2) := by
  rw [wst2, w_7 (by omega) hd, L10_unz (by omega) (by omega) hmk h7 hlv (by omega) h23 h24, L10_en (by omega) (by decide), F7_en (show (1 : Int32) ≠ -1 by decide)]
theorem W_un {g : Nat} {e vm : List Int32} {p T : Int32} (hg : g < 90000) (hi : i < 900) (hk : k < 900) (hl : w.length < 1630) (hd : (s.1 0).getD i 0 = kd) (hmk : (s.1 0).getD k 0 = mk) (h7 : lvK mk = 7) (hlv : lvK kd ≤ 7) (hv : vs.length < 1290) (h23 : mk ≠ 23) (h24 : mk ≠ 24) (he : (o1 C mk z).1 = -1) :
    wst (cS s O C V e vm (vs ++ [z]) (w ++ [nI k]) (nI (g + 1)) x y T (-1) p (nI i) 2) = wst (cS s O C V e vm (vs ++ [(o1 C mk z).2]) w (nI g) x y T (-1) p (nI i) 2) := by
  rw [wst2, w_7 (by omega) hd, L10_un (by omega) (by omega) (by omega) hmk h7 hlv (by omega) h23 h24, he, L10_go (by omega), wst2, w_7 (by omega) hd]
theorem W_unx {g : Nat} {e vm : List Int32} {p T : Int32} (hg : g < 90000) (hi : i < 900) (hk : k < 900) (hl : w.length < 1630) (hd : (s.1 0).getD i 0 = kd) (hmk : (s.1 0).getD k 0 = mk) (h7 : lvK mk = 7) (hlv : lvK kd ≤ 7) (hv : vs.length < 1290) (h23 : mk ≠ 23) (h24 : mk ≠ 24) (he : (o1 C mk z).1 ≠ -1) :
    wst (cS s O C V e vm (vs ++ [z]) (w ++ [nI k]) (nI (g + 1)) x y T (-1) p (nI i) 2) = some (cS s O C V e vm (vs ++ [(o1 C mk z).2]) w (nI g) x y T (o1 C mk z).1 p (nI i) 2) := by
  rw [wst2, w_7 (by omega) hd, L10_un (by omega) (by omega) (by omega) hmk h7 hlv (by omega) h23 h24, L10_en (by omega) he, F7_en he]
theorem g_un (hX : Cx s m n d) (ho : Ok3 f t O C V bW bM) (hc : c ≤ n) (hi : i < 900) (hk : k < 900) (hl : w.length < 1630) (hd : (s.1 0).getD i 0 = kd) (hmk : (s.1 0).getD k 0 = mk) (h3 : mk = 25 ∨ mk = 26 ∨ mk = 36) (hlv : lvK kd ≤ 7) (h7 : (s.1 7).getD c 0 = 8) (h8 : (s.1 8).getD c 0 = mk) (hv : vs.length < 1290) (hr : 1 ≤ r)
    (G : ∀ g v, f = g + 1 → Gl s m x y g t O C V bW bM (vs ++ [v]) w i 2 (c + 1) (r + 179)) : Gl s m x y f t O C V bW bM (vs ++ [z]) (w ++ [nI k]) i 2 c r := by
  obtain ⟨q1, q2, q3, q4, q5, q6, q7⟩ := ho
  have hn := hX.1
  have h4 : m 4 c = 4 := (hX.c4 hc h7).trans (by decide)
  have h5 : m 5 c = wm mk := (hX.c5 hc h7 h8).trans (if_pos (by decide))
  have h17 : m 4 c ≠ 17 := by rw [h4]; decide
  have l7 : lvK mk = 7 := by rcases h3 with q | q | q <;> subst q <;> decide
  have n23 : mk ≠ 23 := by rcases h3 with q | q | q <;> subst q <;> decide
  have n24 : mk ≠ 24 := by rcases h3 with q | q | q <;> subst q <;> decide
  cases f with
  | zero =>
    exact Gl.en (e := 1) (by decide) (by decide) q3 q4 q1 hr (W_unz hi hk hl hd hmk l7 hlv hv n23 n24) (mc8z (by omega) h7 (by omega)) (fun A hA => ⟨A, _, _, _, _, rst_z (by omega) h4 (by decide), hA.2.2.2.1, hA.2.2.2.2⟩) (by omega) h17
  | succ f =>
    have hR : ∀ A, AR A O C V (vs ++ [z]) bM → _ := fun A hA => rc4 (A := A) (t := nI t) (D := nI bM.length) (o := nI O.length) (x := x) (y := y) (n := f) (c := c) (h := vs.length) (C := C) (by omega) (by omega) h4 h5 (by omega) (by rcases h3 with q | q | q <;> simp [q]) hA.top hA.2.2.2.2
    by_cases e : (o1 C mk z).1 = -1
    · have hM := mc8 (s := s) (O := O) (C := C) (V := V) (b := bM) (vm := vs) (vw := s.1 23) (wt := s.1 24) (x := x) (y := y) (t := nI t) (i := s.2 12) (u := s.2 13) (z := z) (n := f) (c := c) (by omega) (by omega) h7 h8 (by omega)
      rw [e] at hM
      refine Gl.fl (W_un (by omega) hi hk hl hd hmk l7 hlv hv n23 n24 e) hM (fun A hA => ⟨_, hA.pop.push, ?_⟩) (by omega) h17 (by omega) (G f _ rfl)
      rw [len1, len1]
      exact (hR A hA).1 e
    · refine Gl.en e (o1_e _ _ _) q3 q4 (by omega) hr (W_unx (by omega) hi hk hl hd hmk l7 hlv hv n23 n24 e) (mc8 (by omega) (by omega) h7 h8 (by omega)) (fun A hA => ?_) (by omega) h17
      obtain ⟨h', eR⟩ := (hR A hA).2 e
      exact ⟨A, _, _, h', _, by rw [len1]; exact eR, hA.2.2.2.1, hA.2.2.2.2⟩
theorem W_biz {e vm : List Int32} {p T : Int32} (hi : i < 900) (hk : k < 900) (hl : w.length < 1630) (hd : (s.1 0).getD i 0 = kd) (hmk : (s.1 0).getD k 0 = mk) (h0 : lvK mk ≠ 0) (h7 : lvK mk ≠ 7) (hlv : lvK kd ≤ lvK mk) (hv : vs.length < 1290) (h23 : mk ≠ 23) (h24 : mk ≠ 24) :
    wst (cS s O C V e vm (vs ++ [z] ++ [z']) (w ++ [nI k]) (nI 0) x y T (-1) p (nI i) 2) = some (cS s O C V e vm (vs ++ [0]) w (nI 0) x y T 1 p (nI i) 2) := by
  rw [wst2, w_7 (by omega) hd, L10_biz (by omega) (by omega) hmk h0 h7 hlv (by omega) h23 h24, L10_en (by omega) (by decide), F7_en (show (1 : Int32) ≠ -1 by decide)]
theorem W_bi {g : Nat} {e vm : List Int32} {p T : Int32} (hg : g < 90000) (hi : i < 900) (hk : k < 900) (hl : w.length < 1630) (hd : (s.1 0).getD i 0 = kd) (hmk : (s.1 0).getD k 0 = mk) (h0 : lvK mk ≠ 0) (h7 : lvK mk ≠ 7) (hlv : lvK kd ≤ lvK mk) (hv : vs.length < 1290) (h23 : mk ≠ 23) (h24 : mk ≠ 24) (he : (o2 mk z z').1 = -1) :
    wst (cS s O C V e vm (vs ++ [z] ++ [z']) (w ++ [nI k]) (nI (g + 1)) x y T (-1) p (nI i) 2) = wst (cS s O C V e vm (vs ++ [(o2 mk z z').2]) w (nI g) x y T (-1) p (nI i) 2) := by
  rw [wst2, w_7 (by omega) hd, L10_bi (by omega) (by omega) (by omega) hmk h0 h7 hlv (by omega) h23 h24, he, L10_go (by omega), wst2, w_7 (by omega) hd]
theorem W_bix {g : Nat} {e vm : List Int32} {p T : Int32} (hg : g < 90000) (hi : i < 900) (hk : k < 900) (hl : w.length < 1630) (hd : (s.1 0).getD i 0 = kd) (hmk : (s.1 0).getD k 0 = mk) (h0 : lvK mk ≠ 0) (h7 : lvK mk ≠ 7) (hlv : lvK kd ≤ lvK mk) (hv : vs.length < 1290) (h23 : mk ≠ 23) (h24 : mk ≠ 24) (he : (o2 mk z z').1 ≠ -1) :
    wst (cS s O C V e vm (vs ++ [z] ++ [z']) (w ++ [nI k]) (nI (g + 1)) x y T (-1) p (nI i) 2) = some (cS s O C V e vm (vs ++ [(o2 mk z z').2]) w (nI g) x y T (o2 mk z z').1 p (nI i) 2) := by
  rw [wst2, w_7 (by omega) hd, L10_bi (by omega) (by omega) (by omega) hmk h0 h7 hlv (by omega) h23 h24, L10_en (by omega) he, F7_en he]
def isO2 (w : Int32) : Prop := w = 12 ∨ w = 13 ∨ w = 14 ∨ w = 15 ∨ w = 16 ∨ w = 17 ∨ w = 18 ∨ w = 19 ∨ w = 20 ∨ w = 21 ∨ w = 22
theorem isO2.lv (h : isO2 mk) : lvK mk ≠ 0 ∧ lvK mk ≠ 7 ∧ mk ≠ 23 ∧ mk ≠ 24 := by
  rcases h with q | q | q | q | q | q | q | q | q | q | q <;> subst q <;> decide
theorem g_bi (hX : Cx s m n d) (ho : Ok3 f t O C V bW bM) (hc : c ≤ n) (hi : i < 900) (hk : k < 900) (hl : w.length < 1630) (hd : (s.1 0).getD i 0 = kd) (hmk : (s.1 0).getD k 0 = mk) (h3 : isO2 mk) (hlv : lvK kd ≤ lvK mk) (h7 : (s.1 7).getD c 0 = 9) (h8 : (s.1 8).getD c 0 = mk) (hv : vs.length < 1290) (hr : 1 ≤ r)
    (G : ∀ g v, f = g + 1 → Gl s m x y g t O C V bW bM (vs ++ [v]) w i 2 (c + 1) (r + 179)) : Gl s m x y f t O C V bW bM (vs ++ [z] ++ [z']) (w ++ [nI k]) i 2 c r := by
  obtain ⟨q1, q2, q3, q4, q5, q6, q7⟩ := ho
  obtain ⟨l0, l7, n23, n24⟩ := h3.lv
  have hn := hX.1
  have h4 : m 4 c = 5 := (hX.c4 hc h7).trans (by decide)
  have h5 : m 5 c = wm mk := (hX.c5 hc h7 h8).trans (if_pos (by decide))
  have h17 : m 4 c ≠ 17 := by rw [h4]; decide
  cases f with
  | zero =>
    exact Gl.en (e := 1) (by decide) (by decide) q3 q4 q1 hr (W_biz hi hk hl hd hmk l0 l7 hlv hv n23 n24) (mc9z (by omega) h7 (by omega)) (fun A hA => ⟨A, _, _, _, _, rst_z (by omega) h4 (by decide), hA.2.2.2.1, hA.2.2.2.2⟩) (by omega) h17
  | succ f =>
    have hR : ∀ A, AR A O C V (vs ++ [z] ++ [z']) bM → _ := fun A hA => rc5 (A := A) (t := nI t) (D := nI bM.length) (o := nI O.length) (x := x) (y := y) (n := f) (c := c) (h := vs.length) (by omega) (by omega) h4 h5 (by omega) h3 hA.pop.top (show A 30 (vs.length + 1) = z' by have := hA.top; rw [len1] at this; exact this)
    by_cases e : (o2 mk z z').1 = -1
    · have hM := mc9 (s := s) (O := O) (C := C) (V := V) (b := bM) (vm := vs) (vw := s.1 23) (wt := s.1 24) (x := x) (y := y) (t := nI t) (i := s.2 12) (u := s.2 13) (z := z) (z' := z') (n := f) (c := c) (by omega) (by omega) h7 h8 (by omega)
      rw [e] at hM
      refine Gl.fl (W_bi (by omega) hi hk hl hd hmk l0 l7 hlv hv n23 n24 e) hM (fun A hA => ⟨_, hA.pop.pop.push, ?_⟩) (by omega) h17 (by omega) (G f _ rfl)
      rw [len1, len1, len1]
      exact (hR A hA).1 e
    · refine Gl.en e (o2_e _ _ _) q3 q4 (by omega) hr (W_bix (by omega) hi hk hl hd hmk l0 l7 hlv hv n23 n24 e) (mc9 (by omega) (by omega) h7 h8 (by omega)) (fun A hA => ?_) (by omega) h17
      obtain ⟨h', eR⟩ := (hR A hA).2 e
      exact ⟨A, _, _, h', _, by rw [len1, len1]; exact eR, hA.2.2.2.1, hA.2.2.2.2⟩
theorem g_tr (hX : Cx s m n d) (hc : c ≤ n) (hi : i < 900) (hk : k < 900) (hl : w.length < 1630) (hd : (s.1 0).getD i 0 = kd) (hmk : (s.1 0).getD k 0 = mk) (h3 : mk = 23 ∨ mk = 24) (hlv : lvK kd ≤ lvK mk) (h7 : (s.1 7).getD c 0 = 10) (hv : vs.length < 1290)
    (G : ∀ v, Gl s m x y f t O C V bW bM (vs ++ [v]) w i 2 (c + 1) r) : Gl s m x y f t O C V bW bM (vs ++ [z]) (w ++ [nI k]) i 2 c (r + 1) := by
  have hn := hX.1
  have h4 : m 4 c = 8 := (hX.c4 hc h7).trans (by decide)
  have h17 : m 4 c ≠ 17 := by rw [h4]; decide
  refine Gl.fl ?_ (mc10 (by omega) h7 (by omega)) (fun A hA => ⟨_, hA.pop.push, ?_⟩) (by omega) h17 (by omega) (G (tr z))
  · rw [wst2, w_7 (by omega) hd, L10_tr (by omega) (by omega) hmk hlv (by omega) h3, L10_go (by omega), wst2, w_7 (by omega) hd]
  · rw [len1, len1, rc8 (by omega) h4 (by omega), hA.top]
end GMX
