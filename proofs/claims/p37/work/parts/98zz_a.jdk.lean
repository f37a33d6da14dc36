/-! the JDK's own methods, over the whole abstract heap -/
section JDK
def jRel (D : va_G) (cy : Nat → ClassId) (A : Nat → Prop) (H0 : Heap) (ρ0 : Nat → Nat) (z0 t0 : Nat) (ρ : Nat → Nat) (H : Heap) (locs : List _root_.Jvm.Loc) (G : ab_G) : Prop :=
  va_P D vwCl (ab_ws cy ρ G) H ∧ va_D A (ab_ws cy ρ G) ∧ va_S A H0 H locs ∧ ab_cl G ∧ z0 ≤ gZ G ∧ (∀ a, a < z0 → ρ a = ρ0 a) ∧ ρ 1000000000 = t0
/-- the frame in which one of its methods runs -/
def jCx (p : Program) (R : Room) (s : State) (m : MethodId) (args : Array Value) (meth : Method) (c : Code) (A : Nat → Prop) (D : va_G) (cy : Nat → ClassId) (sp : Nat → Nat) (t0 : Nat) (y : MethodName) (cc : ByteArray) (n d : Nat) (ret : Option FieldType) : Prop :=
  p.tables.exec = Jvm.exec ∧ c.code = cc ∧ c.maxLocals = n ∧ s.vm.findClass y.cls = some m.cls ∧ (∀ w ∈ ab_W, w.before args s = true) ∧ va_K D vwCl (ab_tys cy) s ∧ (∀ q, s.heap.size ≤ q → A q) ∧ ab_Env A sp t0 s s.heap ∧ d ≤ R.frames ∧ 64 * d ≤ R.locals ∧ meth.sig.returnType = ret ∧ meth.name = y.name ∧ meth.locks = false
abbrev jP : Type := (Nat → Nat) → ab_G → Option Value → Prop
def jQ (D : va_G) (cy : Nat → ClassId) (t0 : Nat) (ρ : Nat → Nat) (G : ab_G) (sz mc : Nat) (P : jP) : Array Value → State → Outcome → State → Prop := fun _ st oc t => (∃ (r : Option Value) (G' : ab_G) (ρ' : Nat → Nat), oc = .returned r ∧ P ρ' G' r ∧ ab_Aft D cy t0 ρ G sz mc ρ' G' t) ∧ va_F (va_A (ab_ws cy ρ G) sz) st t
def jN : String → State → State → Prop := fun _ _ _ => False
def jM (l : Launch) (y : MethodName) (cc : ByteArray) (ml : Nat) (ret : Option FieldType) (d mc ms : Nat) (D : va_G) (cy : Nat → ClassId) (sp : Nat → Nat) (t0 : Nat) (ρ : Nat → Nat) (G : ab_G) (sz : Nat) (As : List Value) (P : jP) : Prop :=
  vx_Met l y (.code y cc ml ret :: ab_W) { frames := d, cells := mc, slots := ms, locals := 64 * d } (va_Pc As (ab_Pre D cy sp t0 ρ G sz)) (jQ D cy t0 ρ G sz mc P) jN mc ms (va_A (ab_ws cy ρ G) sz)
section JX
variable {p : Program} {l : Launch} {e : Env} {R : Room} {s : State} {m : MethodId} {args : Array Value} {below : List Frame} {meth : Method} {c : Code} {Q : State → Prop} {A : Nat → Prop} {D : va_G} {cy : Nat → ClassId} {sp ρ0 ρ : Nat → Nat} {z0 t0 : Nat} {y : MethodName} {cc : ByteArray} {n d : Nat} {ret : Option FieldType} {H : Heap} {locs : List _root_.Jvm.Loc} {G : ab_G} {cells slots mc ms pc : Nat} {ls : Array Slot} {rest : List Value}
theorem jfree (hA : ∀ q, s.heap.size ≤ q → A q) (hr : jRel D cy A s.heap ρ0 z0 t0 ρ H locs G) : ∀ q, va_A (ab_ws cy ρ G) H.size q → A q := by
  intro q h
  rcases h with ⟨k, x, h⟩ | h
  · exact hr.2.1.2 k (q, x) h
  · exact hA q (Nat.le_trans hr.2.2.1.1 h)
theorem jblind {As : List Value} {sz : Nat} : FrameBlind (va_Pc As (ab_Pre D cy sp t0 ρ G sz)) := by
  intro a U g mk q
  obtain ⟨q1, q2, q3, q4, q5, q6⟩ := q
  exact ⟨q1, q2, q3, va_K.moved (u := U) (U := U.calling g mk a) (Vm.Alike.refl U.vm) q4, q5, q6.same rfl⟩
theorem jpre {As : List Value} (hC : jCx p R s m args meth c A D cy sp t0 y cc n d ret) (hr : jRel D cy A s.heap ρ0 z0 t0 ρ H locs G) : ∀ U : State, U.heap = H → s.WarmedH U.vm → va_Pc As (ab_Pre D cy sp t0 ρ G H.size) As.toArray U := by
  obtain ⟨hx, hb, hml, hown, hts, hK, hA, hE, hRf, hRl, _⟩ := hC
  intro U hU hW
  refine ⟨rfl, by rw [hU], by rw [hU]; exact hr.1, va_K.moved hW.alike hK, hr.2.1.weaken (fun _ _ _ _ => trivial), ?_⟩
  rw [hU]
  exact ((hE.kept (fun a h1 h2 => hr.2.2.1.2.1 a h1 h2)).narrow (jfree hA hr)).warm hW
/-- behind a call -/
theorem jafter {P' : jP} {st0 : List Value} {a : Array Value} (hC : jCx p R s m args meth c A D cy sp t0 y cc n d ret)
    (hRun : vx_Run p l e R s m args below meth c H locs cells slots mc ms (F0 m pc ls st0) rest (jQ D cy t0 ρ G H.size mc P' a) jN (va_A (ab_ws cy ρ G) H.size))
    (hr : jRel D cy A s.heap ρ0 z0 t0 ρ H locs G)
    (kk : ∀ (ρ' : Nat → Nat) (G' : ab_G) (v : Option Value) (H1 : Heap) (locs1 : List _root_.Jvm.Loc), P' ρ' G' v → jRel D cy A s.heap ρ0 z0 t0 ρ' H1 locs1 G' → (∀ a, a < gZ G → ρ' a = ρ a) → gZ G ≤ gZ G' → gZ G' ≤ gZ G + mc → W p l e R s m args below meth c H1 locs1 (cells + mc) (slots + ms) Q (F0 m (pc + 3) ls (v.toList ++ rest))) :
    W p l e R s m args below meth c H locs cells slots Q (F0 m pc ls st0) := by
  obtain ⟨hx, hb, hml, hown, hts, hK, hA, hE, hRf, hRl, _⟩ := hC
  have hf := jfree hA hr
  intro T hT X
  rcases hRun T hT X with ⟨v, st₀, t, T', Ll, h0, X', hL, e1, e2, ⟨⟨rv, G', ρ', hv, hp, hAf⟩, hF⟩, st⟩ | ⟨q, st₀, t, T', Ll, E, ce, h0, X', hL, e1, e2, hN, hce, hcv, hcl, st⟩
  · have hv' : v = rv := by injection hv
    subst hv'
    obtain ⟨k1, k2, k3⟩ := vx_keep h0 e1 hr.2.2.1 (fun q _ h => hf q h) hf hL hF
    obtain ⟨g1, g2, g3, g4, g5, g6, g7⟩ := hAf
    obtain ⟨h1, h2, h3, h4, h5, h6, h7⟩ := hr
    obtain ⟨t2, a1, b1⟩ := kk ρ' G' v T'.heap (locs ++ Ll) hp ⟨by rw [e1]; exact g1, g2.weaken (fun _ q _ h => hf q.1 h), k3, g3, Nat.le_trans h5 g4, fun a ha => by rw [g6 a (Nat.lt_of_lt_of_le ha h5)]; exact h6 a ha, g7⟩ g6 g4 g5 T' rfl X'
    exact ⟨t2, st t2 a1, b1⟩
  · exact hN.elim
/-- a body -/
theorem jbody {sz : Nat} {As : List Value} {P : jP} (hpl : plainName y.cls = true) (ht0 : ρ 1000000000 = t0) (hcl : ab_cl G) (hd : 1 ≤ d)
    (hw : Cond.code y cc n ret ∈ ab_W)
    (body : ∀ (p : Program) (e : Env) (s : State) (m : MethodId) (below : List Frame) (meth : Method) (c : Code), s.heap.size = sz → jCx p { frames := d, cells := mc, slots := ms, locals := 64 * d } s m As.toArray meth c (va_A (ab_ws cy ρ G) s.heap.size) D cy sp t0 y cc n d ret → jRel D cy (va_A (ab_ws cy ρ G) s.heap.size) s.heap ρ (gZ G) t0 ρ s.heap [] G → W p l e { frames := d, cells := mc, slots := ms, locals := 64 * d } s m As.toArray below meth c s.heap [] 0 0 (vx_MQ below (jQ D cy t0 ρ G s.heap.size mc P) jN As.toArray s mc ms (va_A (ab_ws cy ρ G) s.heap.size)) (entryFrame m As.toArray n)) :
    jM l y cc n ret d mc ms D cy sp t0 ρ G sz As P := by
  refine vx_ofW (cc := cc) (maxL := n) (ret := ret) (ws' := ab_W) hpl rfl (fun p e s m args below meth c s₁ B hml hex hv => ?_)
  obtain ⟨rfl, hsz, hP, hK, hD0, hE⟩ := hv
  have hts0 := atoms_spec (ws := .code y cc n ret :: ab_W) B.pre
  subst hsz
  exact body p e s m below meth c rfl ⟨B.exec, B.bytes, hml, findClass_of_methodNamed B.named, fun w hw => hts0 w (List.mem_cons_of_mem _ hw), hK, fun q h => Or.inr h, hE, Nat.le_refl _, Nat.le_refl _, B.returns, (name_of_methodNamed B.named B.method).1, B.notSynchronized⟩ ⟨hP, hD0.self (sz := s.heap.size), va_S.rf, hcl, Nat.le_refl _, fun _ _ => rfl, ht0⟩
/-- its ends -/
theorem jAft {G0 : ab_G} {ρ1 : Nat → Nat} {sz : Nat} {t : State} (hr : jRel D cy (va_A (ab_ws cy ρ1 G0) sz) s.heap ρ1 (gZ G0) t0 ρ H locs G) (hz : gZ G ≤ gZ G0 + mc) (ht : t.heap = H) : ab_Aft D cy t0 ρ1 G0 sz mc ρ G t := by
  obtain ⟨h1, h2, h3, h4, h5, h6, h7⟩ := hr
  exact ⟨by rw [ht]; exact h1, h2, h4, h5, hz, h6, h7⟩
theorem jiret {G0 : ab_G} {ρ1 : Nat → Nat} {P : jP} {x : Int32} {t' : FieldType} (hC : jCx p R s m args meth c (va_A (ab_ws cy ρ1 G0) s.heap.size) D cy sp t0 y cc n d ret) (hd : decode cc pc = .ok (.ireturn, 1)) (ht : ret = some t') (hn : narrow t' (.int x) = .int x) (hr : jRel D cy (va_A (ab_ws cy ρ1 G0) s.heap.size) s.heap ρ1 (gZ G0) t0 ρ H locs G) (hz : gZ G ≤ gZ G0 + mc) (hc : cells ≤ mc) (hs : slots ≤ ms) (hP : P ρ G (some (.int x))) :
    W p l e R s m args below meth c H locs cells slots (vx_MQ below (jQ D cy t0 ρ1 G0 s.heap.size mc P) jN args s mc ms (va_A (ab_ws cy ρ1 G0) s.heap.size)) (F0 m pc ls [.int x]) := by
  obtain ⟨hx, hb, hml, hown, hts, hK, hA, hE, hRf, hRl, hrt, hnm, hlocks⟩ := hC
  exact vx_ret (W.widen hc hs (W.zret hx hb (hrt.trans ht) hn (fun t ht' hW' => ⟨⟨some (.int x), G, ρ, rfl, hP, jAft hr hz ht'⟩, hr.2.2.1.F ht'⟩) hr.2.2.1.2.2 hd))
theorem jaret {G0 : ab_G} {ρ1 : Nat → Nat} {P : jP} {v : Value} {t' : FieldType} (hC : jCx p R s m args meth c (va_A (ab_ws cy ρ1 G0) s.heap.size) D cy sp t0 y cc n d ret) (hd : decode cc pc = .ok (.areturn, 1)) (ht : ret = some t') (hR : ab_isR t' = true) (hv : v = .null ∨ ∃ a, v = .ref a) (hr : jRel D cy (va_A (ab_ws cy ρ1 G0) s.heap.size) s.heap ρ1 (gZ G0) t0 ρ H locs G) (hz : gZ G ≤ gZ G0 + mc) (hc : cells ≤ mc) (hs : slots ≤ ms) (hP : P ρ G (some v)) :
    W p l e R s m args below meth c H locs cells slots (vx_MQ below (jQ D cy t0 ρ1 G0 s.heap.size mc P) jN args s mc ms (va_A (ab_ws cy ρ1 G0) s.heap.size)) (F0 m pc ls [v]) := by
  obtain ⟨hx, hb, hml, hown, hts, hK, hA, hE, hRf, hRl, hrt, hnm, hlocks⟩ := hC
  refine vx_ret (W.widen hc hs (W.aret hx hb (hrt.trans ht) ?_ ?_ (fun t ht' hW' => ⟨⟨some v, G, ρ, rfl, hP, jAft hr hz ht'⟩, hr.2.2.1.F ht'⟩) hr.2.2.1.2.2 hd))
  · cases t' <;> first | exact Or.inl ⟨_, rfl⟩ | exact Or.inr ⟨_, rfl⟩ | cases hR
  · exact hv
theorem jvret {G0 : ab_G} {ρ1 : Nat → Nat} {P : jP} (hC : jCx p R s m args meth c (va_A (ab_ws cy ρ1 G0) s.heap.size) D cy sp t0 y cc n d ret) (hd : decode cc pc = .ok (.return_, 1)) (ht : ret = none) (hr : jRel D cy (va_A (ab_ws cy ρ1 G0) s.heap.size) s.heap ρ1 (gZ G0) t0 ρ H locs G) (hz : gZ G ≤ gZ G0 + mc) (hc : cells ≤ mc) (hs : slots ≤ ms) (hP : P ρ G none) :
    W p l e R s m args below meth c H locs cells slots (vx_MQ below (jQ D cy t0 ρ1 G0 s.heap.size mc P) jN args s mc ms (va_A (ab_ws cy ρ1 G0) s.heap.size)) (F0 m pc ls []) := by
  obtain ⟨hx, hb, hml, hown, hts, hK, hA, hE, hRf, hRl, hrt, hnm, hlocks⟩ := hC
  exact vx_ret (W.widen hc hs (W.vret hx hb (hrt.trans ht) (fun t ht' hW' => ⟨⟨none, G, ρ, rfl, hP, jAft hr hz ht'⟩, hr.2.2.1.F ht'⟩) hr.2.2.1.2.2 hd))
/-- a call's words -/
theorem jcall {y' : MethodName} {cc' : ByteArray} {n' d' k i : Nat} {ret' : Option FieldType} (hC : jCx p R s m args meth c A D cy sp t0 y cc n d ret) (hd : d' + 1 ≤ d) (hn : n' + 19 ≤ 64) (hw : Cond.code y' cc' n' ret' ∈ ab_W) (hi : Cond.initialized y'.cls ∈ ab_W) (hl : Cond.methodLink y.cls i y' ∈ ab_W) (hs : (parseMethodDescriptor y'.desc).map (fun q => q.parameters.length) = some k) (hy : y'.cls ≠ "java/lang/invoke/MethodHandle" ∧ y'.cls ≠ "java/lang/invoke/VarHandle") :
    CallB R s args y.cls i y' cc' n' ret' (.code y' cc' n' ret' :: ab_W) { frames := d', cells := mc, slots := ms, locals := 64 * d' } mc ms k := by
  obtain ⟨hx, hb, hml, hown, hts, hK, hA, hE, hRf, hRl, hrt, hnm, hlocks⟩ := hC
  refine ⟨rfl, rfl, ?_, ?_, pay_in hts (fun w h => ?_), List.mem_cons_self, hts _ hw, hts _ hi, hy, ?_, hts _ hl⟩
  · show d' + 1 ≤ R.frames
    omega
  · show 8 + (n' + 11) + 64 * d' ≤ R.locals
    omega
  · rcases List.mem_cons.mp h with rfl | h
    · exact ab_W_good _ hw
    · exact ab_W_good _ h
  · intro sig h
    rw [h] at hs
    exact (Option.some.inj hs).symm
end JX
end JDK
