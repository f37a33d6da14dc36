/-! the keywords' texts: methods of strings, that change nothing -/
def kCx (p : Program) (R : Room) (s : State) (m : MethodId) (args : Array Value) (meth : Method) (c : Code) (A : Nat → Prop) (sp : Nat → Nat) (t0 : Nat) (y : MethodName) (cc : ByteArray) (n d : Nat) (ret : Option FieldType) : Prop :=
  p.tables.exec = Jvm.exec ∧ c.code = cc ∧ c.maxLocals = n ∧ s.vm.findClass y.cls = some m.cls ∧ (∀ w ∈ ab_W, w.before args s = true) ∧ ab_Env A sp t0 s s.heap ∧ d ≤ R.frames ∧ 64 * d ≤ R.locals ∧ meth.sig.returnType = ret ∧ meth.locks = false
def kQ (v : Option Value) : Array Value → State → Outcome → State → Prop := fun _ st oc t => oc = .returned v ∧ t.heap = st.heap
def kM (l : Launch) (y : MethodName) (cc : ByteArray) (ml : Nat) (ret : Option FieldType) (d : Nat) (A : Nat → Prop) (sp : Nat → Nat) (t0 : Nat) (As : List Value) (v : Option Value) : Prop :=
  vx_Met l y (.code y cc ml ret :: ab_W) { frames := d, cells := 0, slots := 0, locals := 64 * d } (va_Pc As (fun U => ab_Env A sp t0 U U.heap)) (kQ v) jN 0 0 A
section KX
variable {p : Program} {l : Launch} {e : Env} {R : Room} {s : State} {m : MethodId} {args : Array Value} {below : List Frame} {meth : Method} {c : Code} {Q : State → Prop} {A : Nat → Prop} {sp : Nat → Nat} {t0 : Nat} {y : MethodName} {cc : ByteArray} {n d : Nat} {ret : Option FieldType} {locs : List _root_.Jvm.Loc} {cells slots pc : Nat} {ls : Array Slot} {rest : List Value}
theorem kblind {As : List Value} : FrameBlind (va_Pc As (fun U => ab_Env A sp t0 U U.heap)) := by
  intro a U g mk q
  exact ⟨q.1, q.2.same rfl⟩
theorem kpre {As : List Value} {H : Heap} (hE : ab_Env A sp t0 s H) : ∀ U : State, U.heap = H → s.WarmedH U.vm → va_Pc As (fun U => ab_Env A sp t0 U U.heap) As.toArray U := by
  intro U hU hW
  refine ⟨rfl, ?_⟩
  show ab_Env A sp t0 U U.heap
  rw [hU]
  exact hE.warm hW
theorem kafter {st0 : List Value} {a : Array Value} {v : Option Value} {H H0 : Heap}
    (hRun : vx_Run p l e R s m args below meth c H locs cells slots 0 0 (F0 m pc ls st0) rest (kQ v a) jN A) (hS : va_S A H0 H locs)
    (kk : ∀ locs1 : List _root_.Jvm.Loc, va_S A H0 H locs1 → W p l e R s m args below meth c H locs1 cells slots Q (F0 m (pc + 3) ls (v.toList ++ rest))) :
    W p l e R s m args below meth c H locs cells slots Q (F0 m pc ls st0) := by
  intro T hT X
  rcases hRun T hT X with ⟨v', st₀, t, T', Ll, h0, X', hL, e1, e2, ⟨hv, hh⟩, st⟩ | ⟨q, st₀, t, T', Ll, E, ce, h0, X', hL, e1, e2, hN, hce, hcv, hcl, st⟩
  · have hv' : v' = v := by injection hv
    subst hv'
    have hT' : T'.heap = H := by rw [e1, hh, h0]
    obtain ⟨t2, a1, b1⟩ := kk (locs ++ Ll) ⟨hS.1, hS.2.1, fun z hz => (List.mem_append.mp hz).elim (hS.2.2 z) (hL z)⟩ T' hT' X'
    exact ⟨t2, st t2 a1, b1⟩
  · exact (show False from hN).elim
theorem kbody {As : List Value} {v : Option Value} (hpl : plainName y.cls = true) (hd : 1 ≤ d)
    (body : ∀ (p : Program) (e : Env) (s : State) (m : MethodId) (below : List Frame) (meth : Method) (c : Code), kCx p { frames := d, cells := 0, slots := 0, locals := 64 * d } s m As.toArray meth c A sp t0 y cc n d ret → W p l e { frames := d, cells := 0, slots := 0, locals := 64 * d } s m As.toArray below meth c s.heap [] 0 0 (vx_MQ below (kQ v) jN As.toArray s 0 0 A) (entryFrame m As.toArray n)) :
    kM l y cc n ret d A sp t0 As v := by
  refine vx_ofW (cc := cc) (maxL := n) (ret := ret) (ws' := ab_W) hpl rfl (fun p e s m args below meth c s₁ B hml hex hv => ?_)
  obtain ⟨rfl, hE⟩ := hv
  have hts0 := atoms_spec (ws := .code y cc n ret :: ab_W) B.pre
  exact body p e s m below meth c ⟨B.exec, B.bytes, hml, findClass_of_methodNamed B.named, fun w hw => hts0 w (List.mem_cons_of_mem _ hw), hE, Nat.le_refl _, Nat.le_refl _, B.returns, B.notSynchronized⟩
theorem kiret {x : Int32} {t' : FieldType} (hC : kCx p R s m args meth c A sp t0 y cc n d ret) (hd : decode cc pc = .ok (.ireturn, 1)) (ht : ret = some t') (hn : narrow t' (.int x) = .int x) (hS : va_S A s.heap s.heap locs) (hc : cells ≤ 0) (hs : slots ≤ 0) :
    W p l e R s m args below meth c s.heap locs cells slots (vx_MQ below (kQ (some (.int x))) jN args s 0 0 A) (F0 m pc ls [.int x]) := by
  obtain ⟨hx, hb, hml, hown, hts, hE, hRf, hRl, hrt, hlocks⟩ := hC
  exact vx_ret (W.widen hc hs (W.zret hx hb (hrt.trans ht) hn (fun t ht' hW' => ⟨rfl, ht'⟩) hS.2.2 hd))
theorem kvret (hC : kCx p R s m args meth c A sp t0 y cc n d ret) (hd : decode cc pc = .ok (.return_, 1)) (ht : ret = none) (hS : va_S A s.heap s.heap locs) (hc : cells ≤ 0) (hs : slots ≤ 0) :
    W p l e R s m args below meth c s.heap locs cells slots (vx_MQ below (kQ none) jN args s 0 0 A) (F0 m pc ls []) := by
  obtain ⟨hx, hb, hml, hown, hts, hE, hRf, hRl, hrt, hlocks⟩ := hC
  exact vx_ret (W.widen hc hs (W.vret hx hb (hrt.trans ht) (fun t ht' hW' => ⟨rfl, ht'⟩) hS.2.2 hd))
theorem kcall {y' : MethodName} {cc' : ByteArray} {own : String} {n' d' k i : Nat} {ret' : Option FieldType} (hts : ∀ w ∈ ab_W, w.before args s = true) (hRf : d' + 1 ≤ R.frames) (hRl : 64 * d' + 64 ≤ R.locals) (hn : n' + 19 ≤ 64) (hw : Cond.code y' cc' n' ret' ∈ ab_W) (hi : Cond.initialized y'.cls ∈ ab_W) (hl : Cond.methodLink own i y' ∈ ab_W) (hs : (parseMethodDescriptor y'.desc).map (fun q => q.parameters.length) = some k) (hy : y'.cls ≠ "java/lang/invoke/MethodHandle" ∧ y'.cls ≠ "java/lang/invoke/VarHandle") :
    CallB R s args own i y' cc' n' ret' (.code y' cc' n' ret' :: ab_W) { frames := d', cells := 0, slots := 0, locals := 64 * d' } 0 0 k := by
  refine ⟨rfl, rfl, hRf, ?_, pay_in hts (fun w h => ?_), List.mem_cons_self, hts _ hw, hts _ hi, hy, ?_, hts _ hl⟩
  · show 8 + (n' + 11) + 64 * d' ≤ R.locals
    omega
  · rcases List.mem_cons.mp h with rfl | h
    · exact ab_W_good _ hw
    · exact ab_W_good _ h
  · intro sig h
    rw [h] at hs
    exact (Option.some.inj hs).symm
end KX
section KY
variable {A : Nat → Prop} {sp : Nat → Nat} {t0 : Nat}
theorem k_pre (l : Launch) {i n : Int32} {v : Value} (hv : v = .null ∨ ∃ a, v = .ref a) (h0 : ¬ i < 0) (h1 : i < n) : kM l ⟨"jdk/internal/util/Preconditions", "checkIndex", "(IILjava/util/function/BiFunction;)I"⟩ cJ3_checkIndex_8e157 3 (some .int) 1 A sp t0 [.int i, .int n, v] (some (.int i)) := by
  refine kbody (by decide +kernel) (Nat.le_refl _) (fun p e s m below meth c hC => ?_)
  obtain ⟨hx, hb, hml, hown, hts, hE, hRf, hRl, hrt, hlk⟩ := id hC
  have hl := lv_entry [.int i, .int n, v] (n := 3) (by rcases hv with rfl | ⟨a, rfl⟩ <;> exact Nat.le_of_ble_eq_true rfl)
  rw [lg_entry_eq]
  generalize (lg_sl [.int i, .int n, v] ++ List.replicate (3 - (lg_sl [.int i, .int n, v]).length) Slot.unset).toArray = ls at hl ⊢
  refine lv_iload_n hx hb dJ3_checkIndex_8e157_0 rfl (lv_at hl 0 rfl) (lv_if_lt hx hb dJ3_checkIndex_8e157_1 (tgt := 9) rfl (fun h => absurd h h0) fun _ => ?_)
  refine lv_iload_n hx hb dJ3_checkIndex_8e157_4 rfl (lv_at hl 0 rfl) (lv_iload_n hx hb dJ3_checkIndex_8e157_5 rfl (lv_at hl 1 rfl) (lv_icmp_lt hx hb dJ3_checkIndex_8e157_6 (tgt := 16) rfl (fun _ => ?_) (fun h => absurd h1 h)))
  refine lv_iload_n hx hb dJ3_checkIndex_8e157_16 rfl (lv_at hl 0 rfl) ?_
  exact kiret hC dJ3_checkIndex_8e157_17 rfl rfl va_S.rf (Nat.le_refl _) (Nat.le_refl _)
theorem k_chk (l : Launch) {i n : Int32} (h0 : ¬ i < 0) (h1 : i < n) : kM l ⟨"java/lang/String", "checkIndex", "(II)V"⟩ cJ0_checkIndex_df160 2 none 2 A sp t0 [.int i, .int n] none := by
  refine kbody (by decide +kernel) (by decide) (fun p e s m below meth c hC => ?_)
  obtain ⟨hx, hb, hml, hown, hts, hE, hRf, hRl, hrt, hlk⟩ := id hC
  have hl := lv_entry [.int i, .int n] (n := 2) (Nat.le_of_ble_eq_true rfl)
  rw [lg_entry_eq]
  generalize (lg_sl [.int i, .int n] ++ List.replicate (2 - (lg_sl [.int i, .int n]).length) Slot.unset).toArray = ls at hl ⊢
  refine lv_iload_n hx hb dJ0_checkIndex_df160_0 rfl (lv_at hl 0 rfl) (lv_iload_n hx hb dJ0_checkIndex_df160_1 rfl (lv_at hl 1 rfl) ?_)
  have key : ∀ v : Value, (v = .null ∨ ∃ a, v = .ref a) → W p l e { frames := 2, cells := 0, slots := 0, locals := 64 * 2 } s m [.int i, .int n].toArray below meth c s.heap [] 0 0 (vx_MQ below (kQ none) jN [.int i, .int n].toArray s 0 0 A) (F0 m 5 ls [v, .int n, .int i]) := by
    intro v hv
    refine kafter (vx_runS (As := [.int i, .int n, v]) (rest := []) (nL := 2) (cc := cJ0_checkIndex_df160) ⟨hx, hb, hml, hown, hts⟩ (k_pre l hv h0 h1) ⟨kcall (k := 3) hts (by decide) (by decide) (by decide) (ab_W_of (i := 509) (by decide +kernel) rfl) (ab_W_of (i := 76) (by decide +kernel) rfl) (ab_W_of (i := 878) (by decide +kernel) rfl) (by decide +kernel) (by decide), hts _ (ab_W_of (i := 508) (by decide +kernel) rfl)⟩ ⟨kblind, kpre hE⟩ rfl rfl hl.1 rfl (lv_room (by decide)) dJ0_checkIndex_df160_5 ⟨by decide, by decide⟩) va_S.rf (fun locs1 hS1 => ?_)
    refine lv_pop hx hb dJ0_checkIndex_df160_8 rfl ?_
    exact kvret hC dJ0_checkIndex_df160_9 rfl hS1 (Nat.le_refl _) (Nat.le_refl _)
  rcases hE.2.2.2.2.2.2.2.2.2.2.2.2.1.1 with hz | ⟨t, hz⟩
  · exact va_gets hx hb hz va_S.rf hown (hts _ (ab_W_of (i := 876) (by decide +kernel) rfl)) (fun _ h => h) dJ0_checkIndex_df160_2 (key _ (Or.inl rfl))
  · exact va_gets hx hb hz va_S.rf hown (hts _ (ab_W_of (i := 876) (by decide +kernel) rfl)) (fun _ h => h) dJ0_checkIndex_df160_2 (key _ (Or.inr ⟨t, rfl⟩))
theorem k_lat (l : Launch) {u : Nat} (hu : u < 7) : kM l ⟨"java/lang/String", "isLatin1", "()Z"⟩ cJ0_isLatin1_aae02 1 (some .boolean) 1 A sp t0 [.ref (sp (u + 1))] (some (.int 1)) := by
  refine kbody (by decide +kernel) (by decide) (fun p e s m below meth c hC => ?_)
  obtain ⟨hx, hb, hml, hown, hts, hE, hRf, hRl, hrt, hlk⟩ := id hC
  have hl := lv_entry [.ref (sp (u + 1))] (n := 1) (Nat.le_of_ble_eq_true rfl)
  rw [lg_entry_eq]
  generalize (lg_sl [.ref (sp (u + 1))] ++ List.replicate (1 - (lg_sl [.ref (sp (u + 1))]).length) Slot.unset).toArray = ls at hl ⊢
  obtain ⟨av, g1, g2, g3, g4⟩ := hE.2.2.2.2.1 u hu
  refine va_gets hx hb hE.2.2.2.2.2.1 va_S.rf hown (hts _ (ab_W_of (i := 860) (by decide +kernel) rfl)) (fun _ h => h) dJ0_isLatin1_aae02_0 (lv_if_eq hx hb dJ0_isLatin1_aae02_3 (tgt := 17) rfl (fun h => absurd h (by decide)) fun _ => ?_)
  refine lv_aload_n hx hb dJ0_isLatin1_aae02_6 rfl (lv_at hl 0 rfl) (vk_getf hx hb g2 va_S.rf hown (hts _ (ab_W_of (i := 1604) (by decide +kernel) rfl)) (fun _ h => h) dJ0_isLatin1_aae02_7 (lv_if_ne hx hb dJ0_isLatin1_aae02_10 (tgt := 17) rfl (fun h => absurd rfl h) fun _ => ?_))
  refine lv_iconst (v := 1) hx hb dJ0_isLatin1_aae02_13 rfl (lv_goto hx hb dJ0_isLatin1_aae02_14 (tgt := 18) rfl ?_)
  exact kiret hC dJ0_isLatin1_aae02_18 rfl rfl va_S.rf (Nat.le_refl _) (Nat.le_refl _)
theorem k_cod (l : Launch) {u : Nat} (hu : u < 7) : kM l ⟨"java/lang/String", "coder", "()B"⟩ cJ0_coder_7d493 1 (some .byte) 1 A sp t0 [.ref (sp (u + 1))] (some (.int 0)) := by
  refine kbody (by decide +kernel) (by decide) (fun p e s m below meth c hC => ?_)
  obtain ⟨hx, hb, hml, hown, hts, hE, hRf, hRl, hrt, hlk⟩ := id hC
  have hl := lv_entry [.ref (sp (u + 1))] (n := 1) (Nat.le_of_ble_eq_true rfl)
  rw [lg_entry_eq]
  generalize (lg_sl [.ref (sp (u + 1))] ++ List.replicate (1 - (lg_sl [.ref (sp (u + 1))]).length) Slot.unset).toArray = ls at hl ⊢
  obtain ⟨av, g1, g2, g3, g4⟩ := hE.2.2.2.2.1 u hu
  refine va_gets hx hb hE.2.2.2.2.2.1 va_S.rf hown (hts _ (ab_W_of (i := 860) (by decide +kernel) rfl)) (fun _ h => h) dJ0_coder_7d493_0 (lv_if_eq hx hb dJ0_coder_7d493_3 (tgt := 13) rfl (fun h => absurd h (by decide)) fun _ => ?_)
  refine lv_aload_n hx hb dJ0_coder_7d493_6 rfl (lv_at hl 0 rfl) (vk_getf hx hb g2 va_S.rf hown (hts _ (ab_W_of (i := 1604) (by decide +kernel) rfl)) (fun _ h => h) dJ0_coder_7d493_7 (lv_goto hx hb dJ0_coder_7d493_10 (tgt := 14) rfl ?_))
  exact kiret hC dJ0_coder_7d493_14 rfl rfl va_S.rf (Nat.le_refl _) (Nat.le_refl _)
theorem k_recv {s : State} {H0 H : Heap} {locs : List _root_.Jvm.Loc} {t : Nat} (hO : va_O "java/lang/String" t A s H0) (hS : va_S A H0 H locs) : ∃ cell : Cell, H[t]? = some cell ∧ cell.vm.isStatics = false ∧ s.vm.findClass "java/lang/String" = some cell.cls := by
  obtain ⟨cell, h1, h2, h3, h4⟩ := hO
  exact ⟨cell, by rw [hS.2.1 t (Array.getElem?_eq_some_iff.mp h1).1 h4]; exact h1, h2, h3⟩
theorem k_len (l : Launch) {u : Nat} (hu : u < 7) : kM l ⟨"java/lang/String", "length", "()I"⟩ cJ0_length_8abf5 1 (some .int) 2 A sp t0 [.ref (sp (u + 1))] (some (.int (Int32.ofNat (ab_tx u).length))) := by
  refine kbody (by decide +kernel) (by decide) (fun p e s m below meth c hC => ?_)
  obtain ⟨hx, hb, hml, hown, hts, hE, hRf, hRl, hrt, hlk⟩ := id hC
  have hl := lv_entry [.ref (sp (u + 1))] (n := 1) (Nat.le_of_ble_eq_true rfl)
  rw [lg_entry_eq]
  generalize (lg_sl [.ref (sp (u + 1))] ++ List.replicate (1 - (lg_sl [.ref (sp (u + 1))]).length) Slot.unset).toArray = ls at hl ⊢
  obtain ⟨av, g1, g2, g3, g4⟩ := hE.2.2.2.2.1 u hu
  have hlen : ∀ u, u < 7 → Int32.ofNat (ab_len.getD u 0) = Int32.ofNat (ab_tx u).length := by decide
  refine lv_aload_n hx hb dJ0_length_8abf5_0 rfl (lv_at hl 0 rfl) (vk_getf hx hb g3 va_S.rf hown (hts _ (ab_W_of (i := 1603) (by decide +kernel) rfl)) (fun _ h => h) dJ0_length_8abf5_1 (va_tlen hx hb g4 va_S.rf (hlen u hu) dJ0_length_8abf5_4 (lv_aload_n hx hb dJ0_length_8abf5_5 rfl (lv_at hl 0 rfl) ?_)))
  refine kafter (vx_runV (b := sp (u + 1)) (C := "java/lang/String") (As := []) (rest := [.int (Int32.ofNat (ab_tx u).length)]) (nL := 1) (cc := cJ0_length_8abf5) ⟨hx, hb, hml, hown, hts⟩ (k_cod (A := A) (t0 := t0) l hu) ⟨kcall (k := 0) hts (by decide) (by decide) (by decide) (ab_W_of (i := 859) (by decide +kernel) rfl) (ab_W_of (i := 74) (by decide +kernel) rfl) (ab_W_of (i := 856) (by decide +kernel) rfl) (by decide +kernel) (by decide), hts _ (ab_W_of (i := 857) (by decide +kernel) rfl), hts _ (ab_W_of (i := 858) (by decide +kernel) rfl)⟩ ⟨kblind, k_recv g1 va_S.rf, kpre hE⟩ rfl rfl hl.1 rfl (lv_room (Nat.le_of_ble_eq_true rfl)) dJ0_length_8abf5_6 ⟨by decide, by decide⟩) va_S.rf (fun locs1 hS1 => ?_)
  refine lv_ishr hx hb dJ0_length_8abf5_9 ?_
  have hsh : ∀ u, u < 7 → (Int32.ofNat (ab_tx u).length) >>> ((0 : Int32) &&& 31) = Int32.ofNat (ab_tx u).length := by decide
  rw [hsh u hu]
  exact kiret hC dJ0_length_8abf5_10 rfl rfl hS1 (Nat.le_refl _) (Nat.le_refl _)
def kBy (A : Nat → Prop) (u av : Nat) (U : State) : Prop := va_T .byte av (ab_len.getD u 0) (fun j => .int ((ab_byt.getD u []).getD j 0)) A U U.heap
theorem kblind2 {As : List Value} {u av : Nat} : FrameBlind (va_Pc As (fun U => ab_Env A sp t0 U U.heap ∧ kBy A u av U)) := by
  intro a U g mk q
  obtain ⟨q1, q2, q3⟩ := q
  exact ⟨q1, q2.same rfl, va_T.moved (u := U) (U := U.calling g mk a) (Vm.Alike.refl U.vm) q3⟩
theorem k_lch (l : Launch) {u av : Nat} {x : Int32} (hu : u < 7) (hin : vp_in x (ab_tx u).length) : vx_Met l ⟨"java/lang/StringLatin1", "charAt", "([BI)C"⟩ (.code ⟨"java/lang/StringLatin1", "charAt", "([BI)C"⟩ cJ1_charAt_3b067 2 (some .char) :: ab_W) { frames := 3, cells := 0, slots := 0, locals := 64 * 3 } (va_Pc [.ref av, .int x] (fun U => ab_Env A sp t0 U U.heap ∧ kBy A u av U)) (kQ (some (.int ((ab_tx u).getD x.toNatClampNeg 0)))) jN 0 0 A := by
  refine vx_ofW (cc := cJ1_charAt_3b067) (maxL := 2) (ret := some .char) (ws' := ab_W) (by decide +kernel) rfl (fun p e s m args below meth c s₁ B hml hex hv => ?_)
  obtain ⟨rfl, hE0, g4⟩ := hv
  have hts0 := atoms_spec (ws := .code ⟨"java/lang/StringLatin1", "charAt", "([BI)C"⟩ cJ1_charAt_3b067 2 (some .char) :: ab_W) B.pre
  have hC : kCx p { frames := 3, cells := 0, slots := 0, locals := 64 * 3 } s m [.ref av, .int x].toArray meth c A sp t0 ⟨"java/lang/StringLatin1", "charAt", "([BI)C"⟩ cJ1_charAt_3b067 2 3 (some .char) := ⟨B.exec, B.bytes, hml, findClass_of_methodNamed B.named, fun w hw => hts0 w (List.mem_cons_of_mem _ hw), hE0, Nat.le_refl _, Nat.le_refl _, B.returns, B.notSynchronized⟩
  obtain ⟨hx, hb, hml, hown, hts, hE, hRf, hRl, hrt, hlk⟩ := id hC
  have hl := lv_entry [.ref av, .int x] (n := 2) (Nat.le_of_ble_eq_true rfl)
  rw [lg_entry_eq]
  generalize (lg_sl [.ref av, .int x] ++ List.replicate (2 - (lg_sl [.ref av, .int x]).length) Slot.unset).toArray = ls at hl ⊢
  have hlen : ∀ u, u < 7 → ab_len.getD u 0 = (ab_tx u).length ∧ (ab_tx u).length < 1000 := by decide
  have h0 : ¬ x < 0 := fun q => hin (Or.inl q)
  have hlt : x.toNatClampNeg < (ab_tx u).length := Nat.not_le.mp fun q => hin (Or.inr q)
  have hxn : x = Int32.ofNat x.toNatClampNeg := by
    apply Int32.toInt_inj.mp
    rw [jn_T (Nat.lt_trans hlt (hlen u hu).2)]
    show x.toInt = ((x.toInt.toNat : Nat) : Int)
    have hz0 : (0 : Int) ≤ x.toInt := by
      have := Int32.not_lt.mp h0
      simpa using Int32.le_iff_toInt_le.mp this
    omega
  have h1 : x < Int32.ofNat (ab_tx u).length := by
    rw [hxn]
    exact (jn_lt (Nat.lt_trans hlt (hlen u hu).2) (hlen u hu).2).mpr hlt
  refine lv_iload_n hx hb dJ1_charAt_3b067_0 rfl (lv_at hl 1 rfl) (lv_aload_n hx hb dJ1_charAt_3b067_1 rfl (lv_at hl 0 rfl) (va_tlen hx hb g4 va_S.rf (v := Int32.ofNat (ab_tx u).length) (by rw [(hlen u hu).1]) dJ1_charAt_3b067_2 ?_))
  refine kafter (vx_runS (As := [.int x, .int (Int32.ofNat (ab_tx u).length)]) (rest := []) (nL := 2) (cc := cJ1_charAt_3b067) ⟨hx, hb, hml, hown, hts⟩ (k_chk (A := A) (sp := sp) (t0 := t0) l h0 h1) ⟨kcall (k := 2) hts (by decide) (by decide) (by decide) (ab_W_of (i := 875) (by decide +kernel) rfl) (ab_W_of (i := 74) (by decide +kernel) rfl) (ab_W_of (i := 873) (by decide +kernel) rfl) (by decide +kernel) (by decide), hts _ (ab_W_of (i := 874) (by decide +kernel) rfl)⟩ ⟨kblind, kpre hE⟩ rfl rfl hl.1 rfl (lv_room (by decide)) dJ1_charAt_3b067_3 ⟨by decide, by decide⟩) va_S.rf (fun locs1 hS1 => ?_)
  have hbt : ∀ u, u < 7 → ∀ j, j < (ab_tx u).length → (ab_byt.getD u []).getD j 0 = (ab_tx u).getD j 0 ∧ ((ab_tx u).getD j 0 &&& 255).toUInt32.toUInt16.toUInt32.toInt32 = (ab_tx u).getD j 0 ∧ narrow .char (.int ((ab_tx u).getD j 0)) = .int ((ab_tx u).getD j 0) := by decide
  obtain ⟨b1, b2, b3⟩ := hbt u hu _ hlt
  refine lv_aload_n hx hb dJ1_charAt_3b067_6 rfl (lv_at hl 0 rfl) (lv_iload_n hx hb dJ1_charAt_3b067_7 rfl (lv_at hl 1 rfl) (va_tb hx hb g4 hS1 (by rw [(hlen u hu).1]; exact hin) (v := .int ((ab_tx u).getD x.toNatClampNeg 0)) (congrArg Value.int b1) dJ1_charAt_3b067_8 ?_))
  refine lv_sipush (v := 255) hx hb dJ1_charAt_3b067_9 rfl (lv_iand hx hb dJ1_charAt_3b067_12 (lv_i2c (v := (ab_tx u).getD x.toNatClampNeg 0) hx hb dJ1_charAt_3b067_13 b2 ?_))
  exact kiret hC dJ1_charAt_3b067_14 rfl b3 hS1 (Nat.le_refl _) (Nat.le_refl _)
theorem k_cha (l : Launch) {u : Nat} {x : Int32} (hu : u < 7) (hin : vp_in x (ab_tx u).length) : kM l ⟨"java/lang/String", "charAt", "(I)C"⟩ cJ0_charAt_5068e 2 (some .char) 4 A sp t0 [.ref (sp (u + 1)), .int x] (some (.int ((ab_tx u).getD x.toNatClampNeg 0))) := by
  refine kbody (by decide +kernel) (by decide) (fun p e s m below meth c hC => ?_)
  obtain ⟨hx, hb, hml, hown, hts, hE, hRf, hRl, hrt, hlk⟩ := id hC
  have hl := lv_entry [.ref (sp (u + 1)), .int x] (n := 2) (Nat.le_of_ble_eq_true rfl)
  rw [lg_entry_eq]
  generalize (lg_sl [.ref (sp (u + 1)), .int x] ++ List.replicate (2 - (lg_sl [.ref (sp (u + 1)), .int x]).length) Slot.unset).toArray = ls at hl ⊢
  obtain ⟨av, g1, g2, g3, g4⟩ := hE.2.2.2.2.1 u hu
  refine lv_aload_n hx hb dJ0_charAt_5068e_0 rfl (lv_at hl 0 rfl) ?_
  refine kafter (vx_runV (b := sp (u + 1)) (C := "java/lang/String") (As := []) (rest := []) (nL := 2) (cc := cJ0_charAt_5068e) ⟨hx, hb, hml, hown, hts⟩ (k_lat (A := A) (t0 := t0) l hu) ⟨kcall (k := 0) hts (by decide) (by decide) (by decide) (ab_W_of (i := 869) (by decide +kernel) rfl) (ab_W_of (i := 74) (by decide +kernel) rfl) (ab_W_of (i := 866) (by decide +kernel) rfl) (by decide +kernel) (by decide), hts _ (ab_W_of (i := 867) (by decide +kernel) rfl), hts _ (ab_W_of (i := 868) (by decide +kernel) rfl)⟩ ⟨kblind, k_recv g1 va_S.rf, kpre hE⟩ rfl rfl hl.1 rfl (lv_room (by decide)) dJ0_charAt_5068e_1 ⟨by decide, by decide⟩) va_S.rf (fun locs1 hS1 => ?_)
  refine lv_if_eq hx hb dJ0_charAt_5068e_4 (tgt := 16) rfl (fun h => absurd h (by decide)) fun _ => ?_
  refine lv_aload_n hx hb dJ0_charAt_5068e_7 rfl (lv_at hl 0 rfl) (vk_getf hx hb g3 hS1 hown (hts _ (ab_W_of (i := 1603) (by decide +kernel) rfl)) (fun _ h => h) dJ0_charAt_5068e_8 (lv_iload_n hx hb dJ0_charAt_5068e_11 rfl (lv_at hl 1 rfl) ?_))
  have hM := k_lch (A := A) (sp := sp) (t0 := t0) (av := av) l hu hin
  refine kafter (vx_runS (As := [.ref av, .int x]) (rest := []) (nL := 2) (cc := cJ0_charAt_5068e) ⟨hx, hb, hml, hown, hts⟩ hM ⟨kcall (k := 2) hts (by decide) (by decide) (by decide) (ab_W_of (i := 872) (by decide +kernel) rfl) (ab_W_of (i := 75) (by decide +kernel) rfl) (ab_W_of (i := 870) (by decide +kernel) rfl) (by decide +kernel) (by decide), hts _ (ab_W_of (i := 871) (by decide +kernel) rfl)⟩ ⟨kblind2, fun U hU hW => ?_⟩ rfl rfl hl.1 rfl (lv_room (by decide)) dJ0_charAt_5068e_12 ⟨by decide, by decide⟩) hS1 (fun locs2 hS2 => ?_)
  · refine ⟨rfl, (kpre (As := [.ref av, .int x]) hE U hU hW).2, ?_⟩
    show va_T .byte av _ _ A U U.heap
    rw [hU]
    exact g4.moved hW.alike
  · have hbt : ∀ u, u < 7 → ∀ j, j < (ab_tx u).length → narrow .char (.int ((ab_tx u).getD j 0)) = .int ((ab_tx u).getD j 0) := by decide
    exact kiret hC dJ0_charAt_5068e_15 rfl (hbt u hu _ (Nat.not_le.mp fun q => hin (Or.inr q))) hS2 (Nat.le_refl _) (Nat.le_refl _)
end KY
theorem strP (l : Launch) : ab_StrP l := by
  intro p e R s m args below meth c Q A D cy sp ρ0 z0 z1 t0 I d o scL scX hC ρ G H locs cells slots ls L S r pc i u hd h1 h7 hcat hc hs hr
  obtain ⟨hx, hb, hml, hown, hts, hK, hA, hE, hX, hin, hRf, hRl, hz1, ho⟩ := hC
  obtain ⟨v, rfl⟩ : ∃ v, u = v + 1 := ⟨u - 1, by omega⟩
  have hE1 := hE.kept (fun a q1 q2 => hr.SS.2.1 a q1 q2)
  obtain ⟨av, g1, g2, g3, g4⟩ := hE.2.2.2.2.1 v (by omega)
  rw [Nat.add_sub_cancel]
  have hls : ls.size = mML I := hr.1.1.1
  refine ⟨fun hk kk => ?_, fun hk x hin2 kk => ?_⟩
  · have hlk : Cond.methodLink (ab_own o) i ⟨"java/lang/String", "length", "()I"⟩ ∈ ab_W := (ab_mR_w hk).2 (by omega)
    refine kafter (vx_runV (b := sp (v + 1)) (C := "java/lang/String") (As := []) (rest := r.map (ab_cv ρ sp)) (nL := mML I) (cc := mCd I) ⟨hx, hb, hml, hown, hts⟩ (k_len (A := A) (sp := sp) (t0 := t0) l (show v < 7 by omega)) ⟨kcall (k := 0) hts (by omega) (by omega) (by decide) (ab_W_of (i := 855) (by decide +kernel) rfl) (ab_W_of (i := 74) (by decide +kernel) rfl) hlk (by decide +kernel) (by decide), hts _ (ab_W_of (i := 853) (by decide +kernel) rfl), hts _ (ab_W_of (i := 854) (by decide +kernel) rfl)⟩ ⟨kblind, k_recv g1 hr.SS, kpre hE1⟩ rfl rfl hls rfl (lv_room (by rw [ab_cat_map]; exact hcat)) hd ⟨hc, hs⟩) hr.SS (fun locs1 hS1 => ?_)
    exact kk H locs1 rfl hS1
  · have hlk : Cond.methodLink (ab_own o) i ⟨"java/lang/String", "charAt", "(I)C"⟩ ∈ ab_W := (ab_mR_w hk).2 (by omega)
    refine kafter (vx_runV (b := sp (v + 1)) (C := "java/lang/String") (As := [.int x]) (rest := r.map (ab_cv ρ sp)) (nL := mML I) (cc := mCd I) ⟨hx, hb, hml, hown, hts⟩ (k_cha (A := A) (sp := sp) (t0 := t0) l (show v < 7 by omega) hin2) ⟨kcall (k := 1) hts (by omega) (by omega) (by decide) (ab_W_of (i := 865) (by decide +kernel) rfl) (ab_W_of (i := 74) (by decide +kernel) rfl) hlk (by decide +kernel) (by decide), hts _ (ab_W_of (i := 863) (by decide +kernel) rfl), hts _ (ab_W_of (i := 864) (by decide +kernel) rfl)⟩ ⟨kblind, k_recv g1 hr.SS, kpre hE1⟩ rfl rfl hls rfl (lv_room (by rw [ab_cat_map]; exact hcat)) hd ⟨hc, hs⟩) hr.SS (fun locs1 hS1 => ?_)
    exact kk H locs1 rfl hS1
