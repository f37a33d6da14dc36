/-! contracts of methods over abstract heaps; calls -/
def ab_Pre (D : va_G) (cy : Nat → ClassId) (sp : Nat → Nat) (t0 : Nat) (ρ : Nat → Nat) (G : ab_G) (sz : Nat) : State → Prop := fun U => U.heap.size = sz ∧ va_P D vwCl (ab_ws cy ρ G) U.heap ∧ va_K D vwCl (ab_tys cy) U ∧ va_D (fun _ => True) (ab_ws cy ρ G) ∧ ab_Env (va_A (ab_ws cy ρ G) sz) sp t0 U U.heap
def ab_Aft (D : va_G) (cy : Nat → ClassId) (t0 : Nat) (ρ : Nat → Nat) (G : ab_G) (sz mc : Nat) (ρ' : Nat → Nat) (G' : ab_G) (t : State) : Prop := va_P D vwCl (ab_ws cy ρ' G') t.heap ∧ va_D (va_A (ab_ws cy ρ G) sz) (ab_ws cy ρ' G') ∧ ab_cl G' ∧ gZ G ≤ gZ G' ∧ gZ G' ≤ gZ G + mc ∧ (∀ a, a < gZ G → ρ' a = ρ a) ∧ ρ' 1000000000 = t0
def ab_Qc (D : va_G) (cy : Nat → ClassId) (sp : Nat → Nat) (t0 : Nat) (ρ : Nat → Nat) (G : ab_G) (sz mc : Nat) (P : ab_Pq) : Array Value → State → Outcome → State → Prop := fun _ st oc t => (∃ (r : Option Value) (G' : ab_G) (ρ' : Nat → Nat), oc = .returned (r.map (ab_cv ρ' sp)) ∧ P G' r ∧ (∀ v, r = some v → ab_vo G' v) ∧ ab_Aft D cy t0 ρ G sz mc ρ' G' t) ∧ va_F (va_A (ab_ws cy ρ G) sz) st t
def ab_XC (D : va_G) (cy : Nat → ClassId) (t0 : Nat) (ρ : Nat → Nat) (G : ab_G) (sz mc : Nat) (X : ab_Xq) : String → State → State → Prop := fun E st t => (∃ (G' : ab_G) (ρ' : Nat → Nat), ab_EX E ∧ X G' E ∧ ab_Aft D cy t0 ρ G sz mc ρ' G' t) ∧ va_F (va_A (ab_ws cy ρ G) sz) st t
def ab_Ok (l : Launch) (d y : Nat) (J : ab_Info) (wd : List Jvm.Cond) : Prop := ∀ (D : va_G) (cy : Nat → ClassId) (sp : Nat → Nat) (t0 : Nat) (ρ : Nat → Nat) (vs : List Value) (G : ab_G) (P : ab_Pq) (X : ab_Xq) (sz : Nat), ab_Gam d y vs G P X → ab_cl G → ab_So G vs → gZ G + mMc J vs ≤ 700000 → ρ 1000000000 = t0 →
  vx_Met l (mNm J) wd { frames := d + 4, cells := mMc J vs, slots := mMs J vs, locals := 64 * d + 256 } (va_Pc (vs.map (ab_cv ρ sp)) (ab_Pre D cy sp t0 ρ G sz)) (ab_Qc D cy sp t0 ρ G sz (mMc J vs) P) (ab_XC D cy t0 ρ G sz (mMc J vs) X) (mMc J vs) (mMs J vs) (va_A (ab_ws cy ρ G) sz)
/-- the same, of a state that holds the script -/
def ab_PreS (scL : Nat) (scX : Nat → Int32) (D : va_G) (cy : Nat → ClassId) (sp : Nat → Nat) (t0 : Nat) (ρ : Nat → Nat) (G : ab_G) (sz : Nat) : State → Prop := fun U => ab_Pre D cy sp t0 ρ G sz U ∧ (scL = 0 ∨ (va_X (sp 0) (scL - 1) scX U U.heap ∧ sp 0 < U.heap.size ∧ ¬ va_A (ab_ws cy ρ G) U.heap.size (sp 0)))
/-- the law's own way into the script, as a method -/
def ab_OkS (l : Launch) (d : Nat) : Prop := 1 ≤ d → ∀ (D : va_G) (cy : Nat → ClassId) (sp : Nat → Nat) (t0 : Nat) (ρ : Nat → Nat) (u : UInt32) (k : Int32) (G : ab_G) (P : ab_Pq) (sz scL : Nat) (scX : Nat → Int32), u.toNat = 0 → (scL ≠ 0 ∧ scL ≤ 100000) → 0 ≤ k.toInt → P G (some (.int (ab_at scL scX k))) → ab_cl G → gZ G ≤ 700000 → ρ 1000000000 = t0 →
  vx_Met l (mNm i13000) (ab_wd i13000) { frames := d + 4, cells := 0, slots := 0, locals := 64 * d + 256 } (va_Pc (([.float u, .int k] : List Value).map (ab_cv ρ sp)) (ab_PreS scL scX D cy sp t0 ρ G sz)) (ab_Qc D cy sp t0 ρ G sz 0 P) (ab_XC D cy t0 ρ G sz 0 (fun _ _ => False)) 0 0 (va_A (ab_ws cy ρ G) sz)
section STP
variable {p : Program} {l : Launch} {e : Env} {R : Room} {s : State} {m : MethodId} {args : Array Value} {below : List Frame} {meth : Method} {c : Code} {Q : State → Prop} {A : Nat → Prop} {D : va_G} {cy : Nat → ClassId} {sp ρ0 : Nat → Nat} {z0 z1 t0 : Nat} {I : ab_Info} {d o scL : Nat} {scX : Nat → Int32} {pc : Nat} {L : List (Option Value)} {S r : List Value} {G : ab_G} {bc bs : Nat}
theorem ab_free {ρ H locs ls} (hA : ∀ q, s.heap.size ≤ q → A q) (hr : ab_Rel D cy sp A s.heap (mML I) ρ0 z0 t0 ρ H locs ls L S G) : ∀ q, va_A (ab_ws cy ρ G) H.size q → A q := by
  intro q h
  rcases h with ⟨k, x, h⟩ | h
  · exact hr.DD.2 k (q, x) h
  · exact hA q (Nat.le_trans hr.SS.1 h)
theorem ab_pre_blind {vs : List Value} {ρ : Nat → Nat} {sz : Nat} : FrameBlind (va_Pc (vs.map (ab_cv ρ sp)) (ab_Pre D cy sp t0 ρ G sz)) := by
  intro a U g mk q
  obtain ⟨q1, q2, q3, q4, q5, q6⟩ := q
  exact ⟨q1, q2, q3, va_K.moved (u := U) (U := U.calling g mk a) (Vm.Alike.refl U.vm) q4, q5, q6.same rfl⟩
theorem ab_pre_at {vs : List Value} {ρ H locs ls} (hC : ab_Cx p l e R s m args below meth c Q A D cy sp ρ0 z0 z1 t0 I d o scL scX) (hr : ab_Rel D cy sp A s.heap (mML I) ρ0 z0 t0 ρ H locs ls L S G) : ∀ U : State, U.heap = H → s.WarmedH U.vm → va_Pc (vs.map (ab_cv ρ sp)) (ab_Pre D cy sp t0 ρ G H.size) (vs.map (ab_cv ρ sp)).toArray U := by
  obtain ⟨hx, hb, hml, hown, hts, hK, hA, hE, hX, hin, hRf, hRl, hz1, ho⟩ := hC
  intro U hU hW
  refine ⟨rfl, by rw [hU], by rw [hU]; exact hr.P, va_K.moved hW.alike hK, hr.DD.weaken (fun _ _ _ _ => trivial), ?_⟩
  rw [hU]
  exact ((hE.kept (fun a h1 h2 => hr.SS.2.1 a h1 h2)).narrow (ab_free hA hr)).warm hW
theorem ab_preS_blind {vs : List Value} {ρ : Nat → Nat} {sz : Nat} : FrameBlind (va_Pc (vs.map (ab_cv ρ sp)) (ab_PreS scL scX D cy sp t0 ρ G sz)) := by
  intro a U g mk q
  obtain ⟨q1, ⟨q2, q3, q4, q5, q6⟩, q7⟩ := q
  refine ⟨q1, ⟨q2, q3, va_K.moved (u := U) (U := U.calling g mk a) (Vm.Alike.refl U.vm) q4, q5, q6.same rfl⟩, ?_⟩
  rcases q7 with q7 | ⟨q7, q8, q9⟩
  · exact Or.inl q7
  · exact Or.inr ⟨va_X.moved (u := U) (U := U.calling g mk a) (Vm.Alike.refl U.vm) q7, q8, q9⟩
theorem ab_preS_at {vs : List Value} {ρ H locs ls} (hC : ab_Cx p l e R s m args below meth c Q A D cy sp ρ0 z0 z1 t0 I d o scL scX) (hr : ab_Rel D cy sp A s.heap (mML I) ρ0 z0 t0 ρ H locs ls L S G) : ∀ U : State, U.heap = H → s.WarmedH U.vm → va_Pc (vs.map (ab_cv ρ sp)) (ab_PreS scL scX D cy sp t0 ρ G H.size) (vs.map (ab_cv ρ sp)).toArray U := by
  intro U hU hW
  refine ⟨rfl, (ab_pre_at (vs := vs) hC hr U hU hW).2, ?_⟩
  obtain ⟨hx, hb, hml, hown, hts, hK, hA, hE, hX, hin, hRf, hRl, hz1, ho⟩ := hC
  rcases hX with h0 | ⟨hX, hbl, hbA⟩
  · exact Or.inl h0
  · rw [hU]
    exact Or.inr ⟨(hX.kept (hr.SS.2.1 _ hbl hbA)).moved hW.alike, Nat.lt_of_lt_of_le hbl hr.SS.1, fun z => hbA (ab_free hA hr _ z)⟩
/-- behind a call -/
theorem ab_after {st0 rest : List Value} {ρ : Nat → Nat} {H : Heap} {locs : List Loc} {cells slots mc ms : Nat} {ls : Array Slot} {a : Array Value} {P' : ab_Pq} {X' : ab_Xq} (hC : ab_Cx p l e R s m args below meth c Q A D cy sp ρ0 z0 z1 t0 I d o scL scX)
    (hRun : vx_Run p l e R s m args below meth c H locs cells slots mc ms (F0 m pc ls st0) (rest.map (ab_cv ρ sp)) (ab_Qc D cy sp t0 ρ G H.size mc P' a) (ab_XC D cy t0 ρ G H.size mc X') (va_A (ab_ws cy ρ G) H.size))
    (hr : ab_Rel D cy sp A s.heap (mML I) ρ0 z0 t0 ρ H locs ls L S G) (hrest : ab_So G rest) (hz : gZ G + bc ≤ z1) (hc : cells + bc ≤ R.cells) (hs : slots + bs ≤ R.slots) (hmc : mc ≤ bc) (hms : ms ≤ bs)
    (kk : ∀ G' v, P' G' v → ab_Sem p l e R s m args below meth c Q A D cy sp ρ0 z0 z1 t0 I (pc + 3) L (v.toList ++ rest) G' (bc - mc) (bs - ms))
    (kx : ∀ (G' : ab_G) (E : String) (ρ' : Nat → Nat) (H1 : Heap) (locs1 : List Loc) (ce : Cell) (q9 : Addr), ab_EX E → X' G' E → ab_Rel D cy sp A s.heap (mML I) ρ0 z0 t0 ρ' H1 locs1 ls L [] G' → H1[q9]? = some ce → ce.vm = .none → s.vm.findClass E = some ce.cls → gZ G' + (bc - mc) ≤ z1 → vx_W p l e R s m args below meth c H1 locs1 (cells + mc) (slots + ms) Q (F0 m pc ls (rest.map (ab_cv ρ sp))) q9) :
    W p l e R s m args below meth c H locs cells slots Q (F0 m pc ls st0) := by
  obtain ⟨hx, hb, hml, hown, hts, hK, hA, hE, hX, hin, hRf, hRl, hz1, ho⟩ := hC
  have hf := ab_free hA hr
  have rel : ∀ (ρ' : Nat → Nat) (G' : ab_G) (t T' : State) (Ll : List Loc) (S' : List Value), ab_Aft D cy t0 ρ G H.size mc ρ' G' t → T'.heap = t.heap → va_S A s.heap T'.heap (locs ++ Ll) → ab_So G' S' → ab_Rel D cy sp A s.heap (mML I) ρ0 z0 t0 ρ' T'.heap (locs ++ Ll) ls L S' G' := by
    intro ρ' G' t T' Ll S' hAf e1 hS1 hS'
    obtain ⟨g1, g2, g3, g4, g5, g6, g7⟩ := hAf
    obtain ⟨h1, h2, h3, h4, h5, h6, h7, h8, h9, h10⟩ := hr
    refine ⟨h1.ext (fun v hv => ab_cv_ext g6 (h6 v hv)), by rw [e1]; exact g1, g2.weaken (fun _ q _ h => hf q.1 h), hS1, g3, fun v hv a ha => Nat.lt_of_lt_of_le (h6 v hv a ha) g4, hS', Nat.le_trans h8 g4, fun a ha => ?_, g7⟩
    rw [g6 a (Nat.lt_of_lt_of_le ha h8)]
    exact h9 a ha
  intro T hT X
  rcases hRun T hT X with ⟨v, st₀, t, T', Ll, h0, X', hL, e1, e2, ⟨⟨rv, G', ρ', hv, hp, hvo, hAf⟩, hF⟩, st⟩ | ⟨q, st₀, t, T', Ll, E, ce, h0, X', hL, e1, e2, ⟨⟨G', ρ', hEX, hp, hAf⟩, hF⟩, hce, hcv, hcl, st⟩
  · have hv' : v = rv.map (ab_cv ρ' sp) := by injection hv
    subst hv'
    obtain ⟨k1, k2, k3⟩ := vx_keep h0 e1 hr.SS (fun q _ h => hf q h) hf hL hF
    have g4 := hAf.2.2.2.1
    have g5 := hAf.2.2.2.2.1
    have g6 := hAf.2.2.2.2.2.1
    have hrest' : ab_So G' rest := fun w hw a ha => Nat.lt_of_lt_of_le (hrest w hw a ha) g4
    have hSo : ab_So G' (rv.toList ++ rest) := by
      intro w hw
      rcases List.mem_append.mp hw with h | h
      · cases rv with
        | none => cases h
        | some u =>
          have : w = u := by simpa using h
          subst this
          exact hvo _ rfl
      · exact hrest' w h
    obtain ⟨t2, a1, b1⟩ := kk G' rv hp ρ' T'.heap (locs ++ Ll) (cells + mc) (slots + ms) ls (rel ρ' G' t T' Ll _ hAf e1 k3 hSo) (by omega) (by omega) (by omega) T' rfl X'
    have hstk : (rv.toList ++ rest).map (ab_cv ρ' sp) = (rv.map (ab_cv ρ' sp)).toList ++ rest.map (ab_cv ρ sp) := by
      rw [List.map_append, ab_map_ext g6 hrest]
      cases rv <;> rfl
    rw [hstk] at a1
    exact ⟨t2, st t2 a1, b1⟩
  · obtain ⟨k1, k2, k3⟩ := vx_keep h0 e1 hr.SS (fun q _ h => hf q h) hf hL hF
    have g5 := hAf.2.2.2.2.1
    obtain ⟨t2, a1, b1⟩ := kx G' E ρ' T'.heap (locs ++ Ll) ce q hEX hp (rel ρ' G' t T' Ll [] hAf e1 k3 (fun _ h => by cases h)) (by rw [e1]; exact hce) hcv hcl (by omega) T' rfl X'
    exact ⟨t2, st.trans a1, b1⟩

end STP
