/-! what the machine's start gives besides the heap, and the steps' soundness -/
def ab_len : List Nat := [2, 4, 5, 3, 2, 3, 6]
def ab_byt : List (List Int32) := [ab_tx 0, ab_tx 1, ab_tx 2, ab_tx 3, ab_tx 4, ab_tx 5, ab_tx 6]
def ab_EX (E : String) : Prop := E = "java/lang/IllegalArgumentException" ∨ E = "java/lang/IndexOutOfBoundsException" ∨ E = "java/lang/IllegalStateException"
/-- the words of a throw that are no good words -/
def ab_nmX : List String := ["java/lang/RuntimeException", "java/lang/Exception"]
/-- further words that are no good words: what lies in a list is an object; getClass -/
def ab_Bx : List Cond := [.castable RJx4a65c "java/lang/Object", .castable RX0 "java/lang/Object", .castable RX1 "java/lang/Object", .castable RX2 "java/lang/Object", .castable RX3 "java/lang/Object", .castable RX4 "java/lang/Object", .castable RX5 "java/lang/Object", .castable RX6 "java/lang/Object", .castable RX7 "java/lang/Object", .castable RX8 "java/lang/Object", .castable RX9 "java/lang/Object", .castable RX10 "java/lang/Object", .castable RX7 "java/lang/Object", .declares ⟨"java/lang/Object", "getClass", "()Ljava/lang/Class;"⟩]
def ab_B : List Cond := (vx_atS RX10 84 "java/lang/IllegalArgumentException" ab_nmX ++ vx_atS RX10 110 "java/lang/IndexOutOfBoundsException" ab_nmX ++ vx_atS RX10 177 "java/lang/IllegalStateException" ab_nmX).filter (fun w => !goodWord w) ++ ab_Bx
theorem ab_B_c : ab_B.all (fun w => match w with
  | .castable _ _ => true
  | .declares _ => true
  | _ => false) = true := by decide +kernel
theorem ab_B_is {w : Cond} (h : w ∈ ab_B) : (∃ C T, w = .castable C T) ∨ ∃ x, w = .declares x := by
  have h1 := List.all_eq_true.mp ab_B_c w h
  cases w <;> first | exact Or.inl ⟨_, _, rfl⟩ | exact Or.inr ⟨_, rfl⟩ | cases h1
theorem ab_B_on {w : Cond} (h : w ∈ ab_B) : w.onTables = true := by
  rcases ab_B_is h with ⟨C, T, rfl⟩ | ⟨x, rfl⟩ <;> rfl
def ab_Env (A : Nat → Prop) (sp : Nat → Nat) (t0 : Nat) (U : State) (H : Heap) : Prop :=
  vx_Zq Bundle.tN "UNASSIGNED_STACK" Bundle.steD A U H ∧ vx_Zq Bundle.tN "SUPPRESSED_SENTINEL" Bundle.listD A U H ∧
  (∀ i tx, ab_xR 11 i = some tx → ∃ a, vk_R (ab_own 11) i tx a U) ∧
  (∀ o i j, ab_sR o i = some j → ∃ tx, vk_R (ab_own o) i tx (sp (j + 1)) U) ∧
  (∀ i, i < 7 → ∃ av, va_O "java/lang/String" (sp (i + 1)) A U H ∧ va_OF "java/lang/String" "coder" "B" (.int 0) (sp (i + 1)) A U H ∧ va_OF "java/lang/String" "value" "[B" (.ref av) (sp (i + 1)) A U H ∧ va_T .byte av (ab_len.getD i 0) (fun j => .int ((ab_byt.getD i []).getD j 0)) A U H) ∧
  va_Z "java/lang/String" "COMPACT_STRINGS" "Z" (.int 1) A U H ∧
  va_Z "java/util/ArrayList" "DEFAULTCAPACITY_EMPTY_ELEMENTDATA" "[Ljava/lang/Object;" (.ref t0) A U H ∧
  va_T (.object "java/lang/Object") t0 0 (fun _ => .null) A U H ∧
  (∀ E F, ab_EX E → ab_EX F → E ≠ F → va_Nc E F U) ∧
  (∀ o i y J, ab_nR o i = some y → ab_M y = some J → va_Nw (.methodLinkNest (ab_own o) i (mNm J) "ProgramSchool") U) ∧
  (∀ w ∈ ab_B, va_Nw w U) ∧
  (∃ mi, va_Mi "[Ljava/lang/Object;" mi U) ∧
  vx_Zq "jdk/internal/util/Preconditions" "SIOOBE_FORMATTER" "Ljava/util/function/BiFunction;" A U H ∧ va_AO "java/lang/Object" U
theorem ab_Env.kept {A sp t0 U H H1} (h : ab_Env A sp t0 U H) (hq : ∀ a : Nat, a < H.size → ¬ A a → H1[a]? = H[a]?) : ab_Env A sp t0 U H1 := by
  obtain ⟨h1, h2, h3, h4, h5, h6, h7, h8, h9, h10, h11, h12, h13, h14⟩ := h
  exact ⟨h1.kept hq, h2.kept hq, h3, h4, (fun i hi => (h5 i hi).elim fun v hv => ⟨v, hv.1.kept hq, hv.2.1.kept hq, hv.2.2.1.kept hq, hv.2.2.2.kept hq⟩), h6.kept hq, h7.kept hq, h8.kept hq, h9, h10, h11, h12, h13.kept hq, h14⟩
theorem ab_Env.narrow {A B : Nat → Prop} {sp t0 U H} (h : ab_Env A sp t0 U H) (hAB : ∀ q, B q → A q) : ab_Env B sp t0 U H := by
  obtain ⟨h1, h2, h3, h4, h5, h6, h7, h8, h9, h10, h11, h12, h13, h14⟩ := h
  exact ⟨h1.narrow hAB, h2.narrow hAB, h3, h4, (fun i hi => (h5 i hi).elim fun v hv => ⟨v, hv.1.narrow hAB, hv.2.1.narrow hAB, hv.2.2.1.narrow hAB, hv.2.2.2.narrow hAB⟩), h6.narrow hAB, h7.narrow hAB, h8.narrow hAB, h9, h10, h11, h12, h13.narrow hAB, h14⟩
theorem ab_Env.warm {A sp t0 U V H} (h : ab_Env A sp t0 U H) (hW : U.WarmedH V.vm) : ab_Env A sp t0 V H := by
  obtain ⟨h1, h2, h3, h4, h5, h6, h7, h8, h9, h10, h11, h12, h13, h14⟩ := h
  exact ⟨h1.moved hW.alike, h2.moved hW.alike, fun i tx hi => (h3 i tx hi).elim fun a ha => ⟨a, ha.warm hW⟩, fun o i j hi => (h4 o i j hi).elim fun a ha => ⟨a, ha.warm hW⟩, (fun i hi => (h5 i hi).elim fun v hv => ⟨v, hv.1.moved hW.alike, hv.2.1.moved hW.alike, hv.2.2.1.moved hW.alike, hv.2.2.2.moved hW.alike⟩), h6.moved hW.alike, h7.moved hW.alike, h8.moved hW.alike, fun E F hE hF hne => (h9 E F hE hF hne).moved hW.alike, fun o i y J h1 h2 => va_Nw.warmM hW (h10 o i y J h1 h2), (fun w hw => by
      have h15 := h11 w hw
      rcases ab_B_is hw with ⟨C, T, rfl⟩ | ⟨x, rfl⟩
      · exact va_Nw.warmC hW h15
      · exact va_Nw.warmD hW h15), h12.elim (fun mi hmi => ⟨mi, hmi.moved hW.alike⟩), h13.moved hW.alike, h14.moved hW.alike⟩
theorem ab_Env.same {A sp t0 U V H} (h : ab_Env A sp t0 U H) (hv : V.vm = U.vm) : ab_Env A sp t0 V H := h.warm (by rw [hv]; exact State.WarmedH.refl U)
def ab_Sem (p : Program) (l : Launch) (e : Env) (R : Room) (s : State) (m : MethodId) (args : Array Value) (below : List Frame) (meth : Method) (c : Code) (Q : State → Prop) (A : Nat → Prop) (D : va_G) (cy : Nat → ClassId) (sp ρ0 : Nat → Nat) (z0 z1 t0 : Nat) (I : ab_Info) : ab_K := fun pc L S G bc bs =>
  ∀ (ρ : Nat → Nat) (H : Heap) (locs : List Loc) (cells slots : Nat) (ls : Array Slot), ab_Rel D cy sp A s.heap (mML I) ρ0 z0 t0 ρ H locs ls L S G → gZ G + bc ≤ z1 → cells + bc ≤ R.cells → slots + bs ≤ R.slots → W p l e R s m args below meth c H locs cells slots Q (F0 m pc ls (S.map (ab_cv ρ sp)))
/-- the frame in which a method runs -/
def ab_Cx (p : Program) (l : Launch) (e : Env) (R : Room) (s : State) (m : MethodId) (args : Array Value) (below : List Frame) (meth : Method) (c : Code) (Q : State → Prop) (A : Nat → Prop) (D : va_G) (cy : Nat → ClassId) (sp ρ0 : Nat → Nat) (z0 z1 t0 : Nat) (I : ab_Info) (d o scL : Nat) (scX : Nat → Int32) : Prop :=
  p.tables.exec = Jvm.exec ∧ c.code = mCd I ∧ c.maxLocals = mML I ∧ s.vm.findClass (ab_own o) = some m.cls ∧ (∀ w ∈ ab_W, w.before args s = true) ∧ va_K D vwCl (ab_tys cy) s ∧ (∀ q, s.heap.size ≤ q → A q) ∧ ab_Env A sp t0 s s.heap ∧
  (scL = 0 ∨ (va_X (sp 0) (scL - 1) scX s s.heap ∧ sp 0 < s.heap.size ∧ ¬ A (sp 0))) ∧ (ab_ini I = true → meth.name = "<init>") ∧ d + 5 ≤ R.frames ∧ 64 * d + 320 ≤ R.locals ∧ z1 ≤ 700000 ∧ o < 14

theorem ab_rem (x y : Int32) : x - x / y * y = x % y := by
  refine Int32.toInt_inj.mp ?_
  have h1 := Int32.le_toInt (x % y)
  have h2 := Int32.toInt_lt (x % y)
  rw [Int32.toInt_sub, Int32.toInt_mul, Int32.toInt_div, Int.bmod_mul_bmod, Int.sub_bmod_bmod, Int.mul_comm (x.toInt.tdiv y.toInt), ← Int.tmod_def, ← Int32.toInt_mod]
  exact Int.bmod_eq_of_le_mul_two (by omega) (by omega)
section SND
variable {p : Program} {l : Launch} {e : Env} {R : Room} {s : State} {m : MethodId} {args : Array Value} {below : List Frame} {meth : Method} {c : Code} {Q : State → Prop} {A : Nat → Prop} {D : va_G} {cy : Nat → ClassId} {sp ρ0 : Nat → Nat} {z0 z1 t0 : Nat} {I : ab_Info} {d o scL : Nat} {scX : Nat → Int32} {pc : Nat} {L : List (Option Value)} {S r : List Value} {G : ab_G} {bc bs : Nat}
theorem ab_s_null (hC : ab_Cx p l e R s m args below meth c Q A D cy sp ρ0 z0 z1 t0 I d o scL scX) (hd : decode (mCd I) pc = .ok (.aconst_null, 1))  (k : ab_Sem p l e R s m args below meth c Q A D cy sp ρ0 z0 z1 t0 I (pc + 1) L (.null :: S) G bc bs) : ab_Sem p l e R s m args below meth c Q A D cy sp ρ0 z0 z1 t0 I pc L (S) G bc bs := by
  obtain ⟨hx, hb, hml, hown, hts, hK, hA, hE, hX, hin, hRf, hRl, hz1, ho⟩ := hC
  intro ρ H locs cells slots ls hr hz hc hs
  exact lv_null hx hb hd (k ρ H locs cells slots ls (hr.S (ab_So_c ab_von hr.So)) hz hc hs)
theorem ab_s_aloadR (hC : ab_Cx p l e R s m args below meth c Q A D cy sp ρ0 z0 z1 t0 I d o scL scX) {i : Nat} (hd : decode (mCd I) pc = .ok (.aload i, 2)) {a : Nat} (hl : L.getD i none = some (.ref a)) (k : ab_Sem p l e R s m args below meth c Q A D cy sp ρ0 z0 z1 t0 I (pc + 2) L (.ref a :: S) G bc bs) : ab_Sem p l e R s m args below meth c Q A D cy sp ρ0 z0 z1 t0 I pc L (S) G bc bs := by
  obtain ⟨hx, hb, hml, hown, hts, hK, hA, hE, hX, hin, hRf, hRl, hz1, ho⟩ := hC
  intro ρ H locs cells slots ls hr hz hc hs
  exact lv_aload hx hb hd (hr.1.at hl) (k ρ H locs cells slots ls (hr.S (ab_So_c (hr.Lo _ (ab_getD_mem hl)) hr.So)) hz hc hs)
theorem ab_s_aloadN (hC : ab_Cx p l e R s m args below meth c Q A D cy sp ρ0 z0 z1 t0 I d o scL scX) {i : Nat} (hd : decode (mCd I) pc = .ok (.aload i, 2)) (hl : L.getD i none = some .null) (k : ab_Sem p l e R s m args below meth c Q A D cy sp ρ0 z0 z1 t0 I (pc + 2) L (.null :: S) G bc bs) : ab_Sem p l e R s m args below meth c Q A D cy sp ρ0 z0 z1 t0 I pc L (S) G bc bs := by
  obtain ⟨hx, hb, hml, hown, hts, hK, hA, hE, hX, hin, hRf, hRl, hz1, ho⟩ := hC
  intro ρ H locs cells slots ls hr hz hc hs
  exact lv_aloadN hx hb hd (hr.1.at hl) (k ρ H locs cells slots ls (hr.S (ab_So_c ab_von hr.So)) hz hc hs)
theorem ab_s_aloadF (hC : ab_Cx p l e R s m args below meth c Q A D cy sp ρ0 z0 z1 t0 I d o scL scX) {i : Nat} (hd : decode (mCd I) pc = .ok (.aload i, 2)) {u : UInt32} (hl : L.getD i none = some (.float u)) (k : ab_Sem p l e R s m args below meth c Q A D cy sp ρ0 z0 z1 t0 I (pc + 2) L (.float u :: S) G bc bs) : ab_Sem p l e R s m args below meth c Q A D cy sp ρ0 z0 z1 t0 I pc L (S) G bc bs := by
  obtain ⟨hx, hb, hml, hown, hts, hK, hA, hE, hX, hin, hRf, hRl, hz1, ho⟩ := hC
  intro ρ H locs cells slots ls hr hz hc hs
  exact lv_aload hx hb hd (hr.1.at hl) (k ρ H locs cells slots ls (hr.S (ab_So_c ab_vof hr.So)) hz hc hs)
theorem ab_s_aload_nR (hC : ab_Cx p l e R s m args below meth c Q A D cy sp ρ0 z0 z1 t0 I d o scL scX) {i : Fin 4} (hd : decode (mCd I) pc = .ok (.aload_n i, 1)) {a : Nat} (hl : L.getD (i : Nat) none = some (.ref a)) (k : ab_Sem p l e R s m args below meth c Q A D cy sp ρ0 z0 z1 t0 I (pc + 1) L (.ref a :: S) G bc bs) : ab_Sem p l e R s m args below meth c Q A D cy sp ρ0 z0 z1 t0 I pc L (S) G bc bs := by
  obtain ⟨hx, hb, hml, hown, hts, hK, hA, hE, hX, hin, hRf, hRl, hz1, ho⟩ := hC
  intro ρ H locs cells slots ls hr hz hc hs
  exact lv_aload_n hx hb hd rfl (hr.1.at hl) (k ρ H locs cells slots ls (hr.S (ab_So_c (hr.Lo _ (ab_getD_mem hl)) hr.So)) hz hc hs)
theorem ab_s_aload_nN (hC : ab_Cx p l e R s m args below meth c Q A D cy sp ρ0 z0 z1 t0 I d o scL scX) {i : Fin 4} (hd : decode (mCd I) pc = .ok (.aload_n i, 1)) (hl : L.getD (i : Nat) none = some .null) (k : ab_Sem p l e R s m args below meth c Q A D cy sp ρ0 z0 z1 t0 I (pc + 1) L (.null :: S) G bc bs) : ab_Sem p l e R s m args below meth c Q A D cy sp ρ0 z0 z1 t0 I pc L (S) G bc bs := by
  obtain ⟨hx, hb, hml, hown, hts, hK, hA, hE, hX, hin, hRf, hRl, hz1, ho⟩ := hC
  intro ρ H locs cells slots ls hr hz hc hs
  exact lv_aload_nN hx hb hd rfl (hr.1.at hl) (k ρ H locs cells slots ls (hr.S (ab_So_c ab_von hr.So)) hz hc hs)
theorem ab_s_aload_nF (hC : ab_Cx p l e R s m args below meth c Q A D cy sp ρ0 z0 z1 t0 I d o scL scX) {i : Fin 4} (hd : decode (mCd I) pc = .ok (.aload_n i, 1)) {u : UInt32} (hl : L.getD (i : Nat) none = some (.float u)) (k : ab_Sem p l e R s m args below meth c Q A D cy sp ρ0 z0 z1 t0 I (pc + 1) L (.float u :: S) G bc bs) : ab_Sem p l e R s m args below meth c Q A D cy sp ρ0 z0 z1 t0 I pc L (S) G bc bs := by
  obtain ⟨hx, hb, hml, hown, hts, hK, hA, hE, hX, hin, hRf, hRl, hz1, ho⟩ := hC
  intro ρ H locs cells slots ls hr hz hc hs
  exact lv_aload_n hx hb hd rfl (hr.1.at hl) (k ρ H locs cells slots ls (hr.S (ab_So_c ab_vof hr.So)) hz hc hs)
theorem ab_s_iload (hC : ab_Cx p l e R s m args below meth c Q A D cy sp ρ0 z0 z1 t0 I d o scL scX) {i : Nat} (hd : decode (mCd I) pc = .ok (.iload i, 2)) {x : Int32} (hl : L.getD i none = some (.int x)) (k : ab_Sem p l e R s m args below meth c Q A D cy sp ρ0 z0 z1 t0 I (pc + 2) L (.int x :: S) G bc bs) : ab_Sem p l e R s m args below meth c Q A D cy sp ρ0 z0 z1 t0 I pc L (S) G bc bs := by
  obtain ⟨hx, hb, hml, hown, hts, hK, hA, hE, hX, hin, hRf, hRl, hz1, ho⟩ := hC
  intro ρ H locs cells slots ls hr hz hc hs
  exact lv_iload hx hb hd (hr.1.at hl) (k ρ H locs cells slots ls (hr.S (ab_So_c ab_voi hr.So)) hz hc hs)
theorem ab_s_iload_n (hC : ab_Cx p l e R s m args below meth c Q A D cy sp ρ0 z0 z1 t0 I d o scL scX) {i : Fin 4} (hd : decode (mCd I) pc = .ok (.iload_n i, 1)) {x : Int32} (hl : L.getD (i : Nat) none = some (.int x)) (k : ab_Sem p l e R s m args below meth c Q A D cy sp ρ0 z0 z1 t0 I (pc + 1) L (.int x :: S) G bc bs) : ab_Sem p l e R s m args below meth c Q A D cy sp ρ0 z0 z1 t0 I pc L (S) G bc bs := by
  obtain ⟨hx, hb, hml, hown, hts, hK, hA, hE, hX, hin, hRf, hRl, hz1, ho⟩ := hC
  intro ρ H locs cells slots ls hr hz hc hs
  exact lv_iload_n hx hb hd rfl (hr.1.at hl) (k ρ H locs cells slots ls (hr.S (ab_So_c ab_voi hr.So)) hz hc hs)
theorem ab_s_lload (hC : ab_Cx p l e R s m args below meth c Q A D cy sp ρ0 z0 z1 t0 I d o scL scX) {i : Nat} (hd : decode (mCd I) pc = .ok (.lload i, 2)) {x : Int64} (hl : L.getD i none = some (.long x)) (k : ab_Sem p l e R s m args below meth c Q A D cy sp ρ0 z0 z1 t0 I (pc + 2) L (.long x :: S) G bc bs) : ab_Sem p l e R s m args below meth c Q A D cy sp ρ0 z0 z1 t0 I pc L (S) G bc bs := by
  obtain ⟨hx, hb, hml, hown, hts, hK, hA, hE, hX, hin, hRf, hRl, hz1, ho⟩ := hC
  intro ρ H locs cells slots ls hr hz hc hs
  exact lv_lload hx hb hd (hr.1.at hl) (k ρ H locs cells slots ls (hr.S (ab_So_c ab_vol hr.So)) hz hc hs)
theorem ab_s_lload_n (hC : ab_Cx p l e R s m args below meth c Q A D cy sp ρ0 z0 z1 t0 I d o scL scX) {i : Fin 4} (hd : decode (mCd I) pc = .ok (.lload_n i, 1)) {x : Int64} (hl : L.getD (i : Nat) none = some (.long x)) (k : ab_Sem p l e R s m args below meth c Q A D cy sp ρ0 z0 z1 t0 I (pc + 1) L (.long x :: S) G bc bs) : ab_Sem p l e R s m args below meth c Q A D cy sp ρ0 z0 z1 t0 I pc L (S) G bc bs := by
  obtain ⟨hx, hb, hml, hown, hts, hK, hA, hE, hX, hin, hRf, hRl, hz1, ho⟩ := hC
  intro ρ H locs cells slots ls hr hz hc hs
  exact lv_lload_n hx hb hd rfl (hr.1.at hl) (k ρ H locs cells slots ls (hr.S (ab_So_c ab_vol hr.So)) hz hc hs)
theorem ab_s_iconst (hC : ab_Cx p l e R s m args below meth c Q A D cy sp ρ0 z0 z1 t0 I d o scL scX) {n : Int} (hd : decode (mCd I) pc = .ok (.iconst n, 1))  (k : ab_Sem p l e R s m args below meth c Q A D cy sp ρ0 z0 z1 t0 I (pc + 1) L (.int (Int32.ofInt n) :: S) G bc bs) : ab_Sem p l e R s m args below meth c Q A D cy sp ρ0 z0 z1 t0 I pc L (S) G bc bs := by
  obtain ⟨hx, hb, hml, hown, hts, hK, hA, hE, hX, hin, hRf, hRl, hz1, ho⟩ := hC
  intro ρ H locs cells slots ls hr hz hc hs
  exact lv_iconst hx hb hd rfl (k ρ H locs cells slots ls (hr.S (ab_So_c ab_voi hr.So)) hz hc hs)
theorem ab_s_bipush (hC : ab_Cx p l e R s m args below meth c Q A D cy sp ρ0 z0 z1 t0 I d o scL scX) {n : Int} (hd : decode (mCd I) pc = .ok (.bipush n, 2))  (k : ab_Sem p l e R s m args below meth c Q A D cy sp ρ0 z0 z1 t0 I (pc + 2) L (.int (Int8.ofInt n).toInt32 :: S) G bc bs) : ab_Sem p l e R s m args below meth c Q A D cy sp ρ0 z0 z1 t0 I pc L (S) G bc bs := by
  obtain ⟨hx, hb, hml, hown, hts, hK, hA, hE, hX, hin, hRf, hRl, hz1, ho⟩ := hC
  intro ρ H locs cells slots ls hr hz hc hs
  exact lv_bipush hx hb hd rfl (k ρ H locs cells slots ls (hr.S (ab_So_c ab_voi hr.So)) hz hc hs)
theorem ab_s_sipush (hC : ab_Cx p l e R s m args below meth c Q A D cy sp ρ0 z0 z1 t0 I d o scL scX) {n : Int} (hd : decode (mCd I) pc = .ok (.sipush n, 3))  (k : ab_Sem p l e R s m args below meth c Q A D cy sp ρ0 z0 z1 t0 I (pc + 3) L (.int (Int16.ofInt n).toInt32 :: S) G bc bs) : ab_Sem p l e R s m args below meth c Q A D cy sp ρ0 z0 z1 t0 I pc L (S) G bc bs := by
  obtain ⟨hx, hb, hml, hown, hts, hK, hA, hE, hX, hin, hRf, hRl, hz1, ho⟩ := hC
  intro ρ H locs cells slots ls hr hz hc hs
  exact lv_sipush hx hb hd rfl (k ρ H locs cells slots ls (hr.S (ab_So_c ab_voi hr.So)) hz hc hs)
theorem ab_s_lconst (hC : ab_Cx p l e R s m args below meth c Q A D cy sp ρ0 z0 z1 t0 I d o scL scX) {n : Fin 2} (hd : decode (mCd I) pc = .ok (.lconst n, 1))  (k : ab_Sem p l e R s m args below meth c Q A D cy sp ρ0 z0 z1 t0 I (pc + 1) L (.long (Int64.ofNat (n : Nat)) :: S) G bc bs) : ab_Sem p l e R s m args below meth c Q A D cy sp ρ0 z0 z1 t0 I pc L (S) G bc bs := by
  obtain ⟨hx, hb, hml, hown, hts, hK, hA, hE, hX, hin, hRf, hRl, hz1, ho⟩ := hC
  intro ρ H locs cells slots ls hr hz hc hs
  exact lv_lconst hx hb hd rfl (k ρ H locs cells slots ls (hr.S (ab_So_c ab_vol hr.So)) hz hc hs)
theorem ab_s_istore (hC : ab_Cx p l e R s m args below meth c Q A D cy sp ρ0 z0 z1 t0 I d o scL scX) {i : Nat} (hd : decode (mCd I) pc = .ok (.istore i, 2)) {x : Int32} (hi : i < L.length) (k : ab_Sem p l e R s m args below meth c Q A D cy sp ρ0 z0 z1 t0 I (pc + 2) (ab_st1 L i (.int x)) r G bc bs) : ab_Sem p l e R s m args below meth c Q A D cy sp ρ0 z0 z1 t0 I pc L (.int x :: r) G bc bs := by
  obtain ⟨hx, hb, hml, hown, hts, hK, hA, hE, hX, hin, hRf, hRl, hz1, ho⟩ := hC
  intro ρ H locs cells slots ls hr hz hc hs
  refine lv_istore hx hb hd hr.1.has (by have := hr.1.2.1; omega) rfl (fun ls' hl' => ?_)
  exact k ρ H locs cells slots ls' (hr.L (ab_LV.st1 (f := ab_cv ρ sp) (v := .int x) (ab_cv_cat ρ sp) hr.1.2.1 hl') (ab_Lo_st hr.Lo (ab_So_h hr.So)) (ab_So_t hr.So)) hz hc hs
theorem ab_s_istore_n (hC : ab_Cx p l e R s m args below meth c Q A D cy sp ρ0 z0 z1 t0 I d o scL scX) {i : Fin 4} (hd : decode (mCd I) pc = .ok (.istore_n i, 1)) {x : Int32} (hi : (i : Nat) < L.length) (k : ab_Sem p l e R s m args below meth c Q A D cy sp ρ0 z0 z1 t0 I (pc + 1) (ab_st1 L (i : Nat) (.int x)) r G bc bs) : ab_Sem p l e R s m args below meth c Q A D cy sp ρ0 z0 z1 t0 I pc L (.int x :: r) G bc bs := by
  obtain ⟨hx, hb, hml, hown, hts, hK, hA, hE, hX, hin, hRf, hRl, hz1, ho⟩ := hC
  intro ρ H locs cells slots ls hr hz hc hs
  refine lv_istore_n hx hb hd rfl hr.1.has (by have := hr.1.2.1; omega) rfl (fun ls' hl' => ?_)
  exact k ρ H locs cells slots ls' (hr.L (ab_LV.st1 (f := ab_cv ρ sp) (v := .int x) (ab_cv_cat ρ sp) hr.1.2.1 hl') (ab_Lo_st hr.Lo (ab_So_h hr.So)) (ab_So_t hr.So)) hz hc hs
theorem ab_s_astore (hC : ab_Cx p l e R s m args below meth c Q A D cy sp ρ0 z0 z1 t0 I d o scL scX) {i : Nat} (hd : decode (mCd I) pc = .ok (.astore i, 2)) {x : Nat} (hi : i < L.length) (k : ab_Sem p l e R s m args below meth c Q A D cy sp ρ0 z0 z1 t0 I (pc + 2) (ab_st1 L i (.ref x)) r G bc bs) : ab_Sem p l e R s m args below meth c Q A D cy sp ρ0 z0 z1 t0 I pc L (.ref x :: r) G bc bs := by
  obtain ⟨hx, hb, hml, hown, hts, hK, hA, hE, hX, hin, hRf, hRl, hz1, ho⟩ := hC
  intro ρ H locs cells slots ls hr hz hc hs
  refine lv_astore hx hb hd hr.1.has (by have := hr.1.2.1; omega) rfl (fun ls' hl' => ?_)
  exact k ρ H locs cells slots ls' (hr.L (ab_LV.st1 (f := ab_cv ρ sp) (v := .ref x) (ab_cv_cat ρ sp) hr.1.2.1 hl') (ab_Lo_st hr.Lo (ab_So_h hr.So)) (ab_So_t hr.So)) hz hc hs
theorem ab_s_astore_n (hC : ab_Cx p l e R s m args below meth c Q A D cy sp ρ0 z0 z1 t0 I d o scL scX) {i : Fin 4} (hd : decode (mCd I) pc = .ok (.astore_n i, 1)) {x : Nat} (hi : (i : Nat) < L.length) (k : ab_Sem p l e R s m args below meth c Q A D cy sp ρ0 z0 z1 t0 I (pc + 1) (ab_st1 L (i : Nat) (.ref x)) r G bc bs) : ab_Sem p l e R s m args below meth c Q A D cy sp ρ0 z0 z1 t0 I pc L (.ref x :: r) G bc bs := by
  obtain ⟨hx, hb, hml, hown, hts, hK, hA, hE, hX, hin, hRf, hRl, hz1, ho⟩ := hC
  intro ρ H locs cells slots ls hr hz hc hs
  refine lv_astore_n hx hb hd rfl hr.1.has (by have := hr.1.2.1; omega) rfl (fun ls' hl' => ?_)
  exact k ρ H locs cells slots ls' (hr.L (ab_LV.st1 (f := ab_cv ρ sp) (v := .ref x) (ab_cv_cat ρ sp) hr.1.2.1 hl') (ab_Lo_st hr.Lo (ab_So_h hr.So)) (ab_So_t hr.So)) hz hc hs
theorem ab_s_astoreN (hC : ab_Cx p l e R s m args below meth c Q A D cy sp ρ0 z0 z1 t0 I d o scL scX) {i : Nat} (hd : decode (mCd I) pc = .ok (.astore i, 2)) (hi : i < L.length) (k : ab_Sem p l e R s m args below meth c Q A D cy sp ρ0 z0 z1 t0 I (pc + 2) (ab_st1 L i .null) r G bc bs) : ab_Sem p l e R s m args below meth c Q A D cy sp ρ0 z0 z1 t0 I pc L (.null :: r) G bc bs := by
  obtain ⟨hx, hb, hml, hown, hts, hK, hA, hE, hX, hin, hRf, hRl, hz1, ho⟩ := hC
  intro ρ H locs cells slots ls hr hz hc hs
  refine lv_astoreN hx hb hd hr.1.has (by have := hr.1.2.1; omega) rfl (fun ls' hl' => ?_)
  exact k ρ H locs cells slots ls' (hr.L (ab_LV.st1 (f := ab_cv ρ sp) (v := .null) (ab_cv_cat ρ sp) hr.1.2.1 hl') (ab_Lo_st hr.Lo (ab_So_h hr.So)) (ab_So_t hr.So)) hz hc hs
theorem ab_s_lstore (hC : ab_Cx p l e R s m args below meth c Q A D cy sp ρ0 z0 z1 t0 I d o scL scX) {i : Nat} (hd : decode (mCd I) pc = .ok (.lstore i, 2)) {x : Int64} (hi : i + 1 < L.length) (k : ab_Sem p l e R s m args below meth c Q A D cy sp ρ0 z0 z1 t0 I (pc + 2) (ab_st2 L i (.long x)) r G bc bs) : ab_Sem p l e R s m args below meth c Q A D cy sp ρ0 z0 z1 t0 I pc L (.long x :: r) G bc bs := by
  obtain ⟨hx, hb, hml, hown, hts, hK, hA, hE, hX, hin, hRf, hRl, hz1, ho⟩ := hC
  intro ρ H locs cells slots ls hr hz hc hs
  refine lv_lstore hx hb hd hr.1.has (by have := hr.1.2.1; omega) rfl (fun ls' hl' => ?_)
  exact k ρ H locs cells slots ls' (hr.L (ab_LV.st2 (f := ab_cv ρ sp) (v := .long x) (ab_cv_cat ρ sp) hr.1.2.1 hl') (ab_Lo_st2 hr.Lo ab_vol) (ab_So_t hr.So)) hz hc hs
theorem ab_s_astoreN_n (hC : ab_Cx p l e R s m args below meth c Q A D cy sp ρ0 z0 z1 t0 I d o scL scX) {i : Fin 4} (hd : decode (mCd I) pc = .ok (.astore_n i, 1)) (hi : (i : Nat) < L.length) (k : ab_Sem p l e R s m args below meth c Q A D cy sp ρ0 z0 z1 t0 I (pc + 1) (ab_st1 L (i : Nat) .null) r G bc bs) : ab_Sem p l e R s m args below meth c Q A D cy sp ρ0 z0 z1 t0 I pc L (.null :: r) G bc bs := by
  obtain ⟨hx, hb, hml, hown, hts, hK, hA, hE, hX, hin, hRf, hRl, hz1, ho⟩ := hC
  intro ρ H locs cells slots ls hr hz hc hs
  refine lv_astore_nN hx hb hd rfl hr.1.has (by have := hr.1.2.1; omega) rfl (fun ls' hl' => ?_)
  exact k ρ H locs cells slots ls' (hr.L (ab_LV.st1 (f := ab_cv ρ sp) (v := .null) (ab_cv_cat ρ sp) hr.1.2.1 hl') (ab_Lo_st hr.Lo (ab_So_h hr.So)) (ab_So_t hr.So)) hz hc hs
theorem ab_s_lstore_n (hC : ab_Cx p l e R s m args below meth c Q A D cy sp ρ0 z0 z1 t0 I d o scL scX) {i : Fin 4} (hd : decode (mCd I) pc = .ok (.lstore_n i, 1)) {x : Int64} (hi : (i : Nat) + 1 < L.length) (k : ab_Sem p l e R s m args below meth c Q A D cy sp ρ0 z0 z1 t0 I (pc + 1) (ab_st2 L (i : Nat) (.long x)) r G bc bs) : ab_Sem p l e R s m args below meth c Q A D cy sp ρ0 z0 z1 t0 I pc L (.long x :: r) G bc bs := by
  obtain ⟨hx, hb, hml, hown, hts, hK, hA, hE, hX, hin, hRf, hRl, hz1, ho⟩ := hC
  intro ρ H locs cells slots ls hr hz hc hs
  refine lv_lstore_n hx hb hd rfl hr.1.has (by have := hr.1.2.1; omega) rfl (fun ls' hl' => ?_)
  exact k ρ H locs cells slots ls' (hr.L (ab_LV.st2 (f := ab_cv ρ sp) (v := .long x) (ab_cv_cat ρ sp) hr.1.2.1 hl') (ab_Lo_st2 hr.Lo ab_vol) (ab_So_t hr.So)) hz hc hs
theorem ab_s_iinc (hC : ab_Cx p l e R s m args below meth c Q A D cy sp ρ0 z0 z1 t0 I d o scL scX) {i : Nat} {n : Int} (hd : decode (mCd I) pc = .ok (.iinc i n, 3)) {x : Int32} (hl : L.getD i none = some (.int x)) (hi : i < L.length) (k : ab_Sem p l e R s m args below meth c Q A D cy sp ρ0 z0 z1 t0 I (pc + 3) (ab_st1 L i (.int (x + Int32.ofInt n))) S G bc bs) : ab_Sem p l e R s m args below meth c Q A D cy sp ρ0 z0 z1 t0 I pc L (S) G bc bs := by
  obtain ⟨hx, hb, hml, hown, hts, hK, hA, hE, hX, hin, hRf, hRl, hz1, ho⟩ := hC
  intro ρ H locs cells slots ls hr hz hc hs
  have hm : L[i]? = some (some (.int x)) := by
    rw [List.getD_eq_getElem?_getD] at hl
    cases hq : L[i]? with
    | none => rw [hq] at hl; cases hl
    | some w => rw [hq] at hl; exact congrArg some hl
  have hm2 := ab_prs_mem (ab_cv ρ sp) L 0 i (.int x) hm
  rw [Nat.zero_add] at hm2
  obtain ⟨j, hj⟩ := List.getElem?_of_mem hm2
  refine lv_iinc hx hb hd hr.1.has (k := j) hj rfl (by have := hr.1.2.1; omega) rfl (fun ls' hl' => ?_)
  exact k ρ H locs cells slots ls' (hr.L (ab_LV.st1 (f := ab_cv ρ sp) (v := .int (x + Int32.ofInt n)) (ab_cv_cat ρ sp) hr.1.2.1 hl') (ab_Lo_st hr.Lo ab_voi) hr.So) hz hc hs
theorem ab_s_iadd (hC : ab_Cx p l e R s m args below meth c Q A D cy sp ρ0 z0 z1 t0 I d o scL scX) (hd : decode (mCd I) pc = .ok (.iadd, 1)) {x y : Int32} (k : ab_Sem p l e R s m args below meth c Q A D cy sp ρ0 z0 z1 t0 I (pc + 1) L (.int (x + y) :: r) G bc bs) : ab_Sem p l e R s m args below meth c Q A D cy sp ρ0 z0 z1 t0 I pc L (.int y :: .int x :: r) G bc bs := by
  obtain ⟨hx, hb, hml, hown, hts, hK, hA, hE, hX, hin, hRf, hRl, hz1, ho⟩ := hC
  intro ρ H locs cells slots ls hr hz hc hs
  exact lv_iadd hx hb hd (k ρ H locs cells slots ls (hr.S (ab_So_c ab_voi (ab_So_t (ab_So_t hr.So)))) hz hc hs)
theorem ab_s_isub (hC : ab_Cx p l e R s m args below meth c Q A D cy sp ρ0 z0 z1 t0 I d o scL scX) (hd : decode (mCd I) pc = .ok (.isub, 1)) {x y : Int32} (k : ab_Sem p l e R s m args below meth c Q A D cy sp ρ0 z0 z1 t0 I (pc + 1) L (.int (x - y) :: r) G bc bs) : ab_Sem p l e R s m args below meth c Q A D cy sp ρ0 z0 z1 t0 I pc L (.int y :: .int x :: r) G bc bs := by
  obtain ⟨hx, hb, hml, hown, hts, hK, hA, hE, hX, hin, hRf, hRl, hz1, ho⟩ := hC
  intro ρ H locs cells slots ls hr hz hc hs
  exact lv_isub hx hb hd (k ρ H locs cells slots ls (hr.S (ab_So_c ab_voi (ab_So_t (ab_So_t hr.So)))) hz hc hs)
theorem ab_s_imul (hC : ab_Cx p l e R s m args below meth c Q A D cy sp ρ0 z0 z1 t0 I d o scL scX) (hd : decode (mCd I) pc = .ok (.imul, 1)) {x y : Int32} (k : ab_Sem p l e R s m args below meth c Q A D cy sp ρ0 z0 z1 t0 I (pc + 1) L (.int (x * y) :: r) G bc bs) : ab_Sem p l e R s m args below meth c Q A D cy sp ρ0 z0 z1 t0 I pc L (.int y :: .int x :: r) G bc bs := by
  obtain ⟨hx, hb, hml, hown, hts, hK, hA, hE, hX, hin, hRf, hRl, hz1, ho⟩ := hC
  intro ρ H locs cells slots ls hr hz hc hs
  exact lv_imul hx hb hd (k ρ H locs cells slots ls (hr.S (ab_So_c ab_voi (ab_So_t (ab_So_t hr.So)))) hz hc hs)
theorem ab_s_iand (hC : ab_Cx p l e R s m args below meth c Q A D cy sp ρ0 z0 z1 t0 I d o scL scX) (hd : decode (mCd I) pc = .ok (.iand, 1)) {x y : Int32} (k : ab_Sem p l e R s m args below meth c Q A D cy sp ρ0 z0 z1 t0 I (pc + 1) L (.int (x &&& y) :: r) G bc bs) : ab_Sem p l e R s m args below meth c Q A D cy sp ρ0 z0 z1 t0 I pc L (.int y :: .int x :: r) G bc bs := by
  obtain ⟨hx, hb, hml, hown, hts, hK, hA, hE, hX, hin, hRf, hRl, hz1, ho⟩ := hC
  intro ρ H locs cells slots ls hr hz hc hs
  exact lv_iand hx hb hd (k ρ H locs cells slots ls (hr.S (ab_So_c ab_voi (ab_So_t (ab_So_t hr.So)))) hz hc hs)
theorem ab_s_idiv (hC : ab_Cx p l e R s m args below meth c Q A D cy sp ρ0 z0 z1 t0 I d o scL scX) (hd : decode (mCd I) pc = .ok (.idiv, 1)) {x y : Int32} (hne : ¬ y = 0) (k : ab_Sem p l e R s m args below meth c Q A D cy sp ρ0 z0 z1 t0 I (pc + 1) L (.int (x / y) :: r) G bc bs) : ab_Sem p l e R s m args below meth c Q A D cy sp ρ0 z0 z1 t0 I pc L (.int y :: .int x :: r) G bc bs := by
  obtain ⟨hx, hb, hml, hown, hts, hK, hA, hE, hX, hin, hRf, hRl, hz1, ho⟩ := hC
  intro ρ H locs cells slots ls hr hz hc hs
  exact lv_idiv hx hb hd hne (k ρ H locs cells slots ls (hr.S (ab_So_c ab_voi (ab_So_t (ab_So_t hr.So)))) hz hc hs)
theorem ab_s_irem (hC : ab_Cx p l e R s m args below meth c Q A D cy sp ρ0 z0 z1 t0 I d o scL scX) (hd : decode (mCd I) pc = .ok (.irem, 1)) {x y : Int32} (hne : ¬ y = 0) (k : ab_Sem p l e R s m args below meth c Q A D cy sp ρ0 z0 z1 t0 I (pc + 1) L (.int (x % y) :: r) G bc bs) : ab_Sem p l e R s m args below meth c Q A D cy sp ρ0 z0 z1 t0 I pc L (.int y :: .int x :: r) G bc bs := by
  obtain ⟨hx, hb, hml, hown, hts, hK, hA, hE, hX, hin, hRf, hRl, hz1, ho⟩ := hC
  intro ρ H locs cells slots ls hr hz hc hs
  exact lv_irem hx hb hd hne (by rw [ab_rem]; exact k ρ H locs cells slots ls (hr.S (ab_So_c ab_voi (ab_So_t (ab_So_t hr.So)))) hz hc hs)
theorem ab_s_ishr (hC : ab_Cx p l e R s m args below meth c Q A D cy sp ρ0 z0 z1 t0 I d o scL scX) (hd : decode (mCd I) pc = .ok (.ishr, 1)) {x y : Int32} (k : ab_Sem p l e R s m args below meth c Q A D cy sp ρ0 z0 z1 t0 I (pc + 1) L (.int (x >>> (y &&& 31)) :: r) G bc bs) : ab_Sem p l e R s m args below meth c Q A D cy sp ρ0 z0 z1 t0 I pc L (.int y :: .int x :: r) G bc bs := by
  obtain ⟨hx, hb, hml, hown, hts, hK, hA, hE, hX, hin, hRf, hRl, hz1, ho⟩ := hC
  intro ρ H locs cells slots ls hr hz hc hs
  exact lv_ishr hx hb hd (k ρ H locs cells slots ls (hr.S (ab_So_c ab_voi (ab_So_t (ab_So_t hr.So)))) hz hc hs)
theorem ab_s_ladd (hC : ab_Cx p l e R s m args below meth c Q A D cy sp ρ0 z0 z1 t0 I d o scL scX) (hd : decode (mCd I) pc = .ok (.ladd, 1)) {x y : Int64} (k : ab_Sem p l e R s m args below meth c Q A D cy sp ρ0 z0 z1 t0 I (pc + 1) L (.long (x + y) :: r) G bc bs) : ab_Sem p l e R s m args below meth c Q A D cy sp ρ0 z0 z1 t0 I pc L (.long y :: .long x :: r) G bc bs := by
  obtain ⟨hx, hb, hml, hown, hts, hK, hA, hE, hX, hin, hRf, hRl, hz1, ho⟩ := hC
  intro ρ H locs cells slots ls hr hz hc hs
  exact lv_ladd hx hb hd (k ρ H locs cells slots ls (hr.S (ab_So_c ab_vol (ab_So_t (ab_So_t hr.So)))) hz hc hs)
theorem ab_s_lsub (hC : ab_Cx p l e R s m args below meth c Q A D cy sp ρ0 z0 z1 t0 I d o scL scX) (hd : decode (mCd I) pc = .ok (.lsub, 1)) {x y : Int64} (k : ab_Sem p l e R s m args below meth c Q A D cy sp ρ0 z0 z1 t0 I (pc + 1) L (.long (x - y) :: r) G bc bs) : ab_Sem p l e R s m args below meth c Q A D cy sp ρ0 z0 z1 t0 I pc L (.long y :: .long x :: r) G bc bs := by
  obtain ⟨hx, hb, hml, hown, hts, hK, hA, hE, hX, hin, hRf, hRl, hz1, ho⟩ := hC
  intro ρ H locs cells slots ls hr hz hc hs
  exact lv_lsub hx hb hd (k ρ H locs cells slots ls (hr.S (ab_So_c ab_vol (ab_So_t (ab_So_t hr.So)))) hz hc hs)
theorem ab_s_lmul (hC : ab_Cx p l e R s m args below meth c Q A D cy sp ρ0 z0 z1 t0 I d o scL scX) (hd : decode (mCd I) pc = .ok (.lmul, 1)) {x y : Int64} (k : ab_Sem p l e R s m args below meth c Q A D cy sp ρ0 z0 z1 t0 I (pc + 1) L (.long (x * y) :: r) G bc bs) : ab_Sem p l e R s m args below meth c Q A D cy sp ρ0 z0 z1 t0 I pc L (.long y :: .long x :: r) G bc bs := by
  obtain ⟨hx, hb, hml, hown, hts, hK, hA, hE, hX, hin, hRf, hRl, hz1, ho⟩ := hC
  intro ρ H locs cells slots ls hr hz hc hs
  exact lv_lmul hx hb hd (k ρ H locs cells slots ls (hr.S (ab_So_c ab_vol (ab_So_t (ab_So_t hr.So)))) hz hc hs)
theorem ab_s_land (hC : ab_Cx p l e R s m args below meth c Q A D cy sp ρ0 z0 z1 t0 I d o scL scX) (hd : decode (mCd I) pc = .ok (.land, 1)) {x y : Int64} (k : ab_Sem p l e R s m args below meth c Q A D cy sp ρ0 z0 z1 t0 I (pc + 1) L (.long (x &&& y) :: r) G bc bs) : ab_Sem p l e R s m args below meth c Q A D cy sp ρ0 z0 z1 t0 I pc L (.long y :: .long x :: r) G bc bs := by
  obtain ⟨hx, hb, hml, hown, hts, hK, hA, hE, hX, hin, hRf, hRl, hz1, ho⟩ := hC
  intro ρ H locs cells slots ls hr hz hc hs
  exact lv_land hx hb hd (k ρ H locs cells slots ls (hr.S (ab_So_c ab_vol (ab_So_t (ab_So_t hr.So)))) hz hc hs)
theorem ab_s_lor (hC : ab_Cx p l e R s m args below meth c Q A D cy sp ρ0 z0 z1 t0 I d o scL scX) (hd : decode (mCd I) pc = .ok (.lor, 1)) {x y : Int64} (k : ab_Sem p l e R s m args below meth c Q A D cy sp ρ0 z0 z1 t0 I (pc + 1) L (.long (x ||| y) :: r) G bc bs) : ab_Sem p l e R s m args below meth c Q A D cy sp ρ0 z0 z1 t0 I pc L (.long y :: .long x :: r) G bc bs := by
  obtain ⟨hx, hb, hml, hown, hts, hK, hA, hE, hX, hin, hRf, hRl, hz1, ho⟩ := hC
  intro ρ H locs cells slots ls hr hz hc hs
  exact lv_lor hx hb hd (k ρ H locs cells slots ls (hr.S (ab_So_c ab_vol (ab_So_t (ab_So_t hr.So)))) hz hc hs)
theorem ab_s_ldiv (hC : ab_Cx p l e R s m args below meth c Q A D cy sp ρ0 z0 z1 t0 I d o scL scX) (hd : decode (mCd I) pc = .ok (.ldiv, 1)) {x y : Int64} (hne : ¬ y = 0) (k : ab_Sem p l e R s m args below meth c Q A D cy sp ρ0 z0 z1 t0 I (pc + 1) L (.long (x / y) :: r) G bc bs) : ab_Sem p l e R s m args below meth c Q A D cy sp ρ0 z0 z1 t0 I pc L (.long y :: .long x :: r) G bc bs := by
  obtain ⟨hx, hb, hml, hown, hts, hK, hA, hE, hX, hin, hRf, hRl, hz1, ho⟩ := hC
  intro ρ H locs cells slots ls hr hz hc hs
  exact lv_ldiv hx hb hd hne (k ρ H locs cells slots ls (hr.S (ab_So_c ab_vol (ab_So_t (ab_So_t hr.So)))) hz hc hs)
theorem ab_s_lrem (hC : ab_Cx p l e R s m args below meth c Q A D cy sp ρ0 z0 z1 t0 I d o scL scX) (hd : decode (mCd I) pc = .ok (.lrem, 1)) {x y : Int64} (hne : ¬ y = 0) (k : ab_Sem p l e R s m args below meth c Q A D cy sp ρ0 z0 z1 t0 I (pc + 1) L (.long (x - x / y * y) :: r) G bc bs) : ab_Sem p l e R s m args below meth c Q A D cy sp ρ0 z0 z1 t0 I pc L (.long y :: .long x :: r) G bc bs := by
  obtain ⟨hx, hb, hml, hown, hts, hK, hA, hE, hX, hin, hRf, hRl, hz1, ho⟩ := hC
  intro ρ H locs cells slots ls hr hz hc hs
  exact lv_lrem hx hb hd hne (k ρ H locs cells slots ls (hr.S (ab_So_c ab_vol (ab_So_t (ab_So_t hr.So)))) hz hc hs)
theorem ab_s_ineg (hC : ab_Cx p l e R s m args below meth c Q A D cy sp ρ0 z0 z1 t0 I d o scL scX) (hd : decode (mCd I) pc = .ok (.ineg, 1)) {x : Int32} (k : ab_Sem p l e R s m args below meth c Q A D cy sp ρ0 z0 z1 t0 I (pc + 1) L (.int (-x) :: r) G bc bs) : ab_Sem p l e R s m args below meth c Q A D cy sp ρ0 z0 z1 t0 I pc L (.int x :: r) G bc bs := by
  obtain ⟨hx, hb, hml, hown, hts, hK, hA, hE, hX, hin, hRf, hRl, hz1, ho⟩ := hC
  intro ρ H locs cells slots ls hr hz hc hs
  exact lv_ineg hx hb hd (k ρ H locs cells slots ls (hr.S (ab_So_c ab_voi (ab_So_t hr.So))) hz hc hs)
theorem ab_s_lneg (hC : ab_Cx p l e R s m args below meth c Q A D cy sp ρ0 z0 z1 t0 I d o scL scX) (hd : decode (mCd I) pc = .ok (.lneg, 1)) {x : Int64} (k : ab_Sem p l e R s m args below meth c Q A D cy sp ρ0 z0 z1 t0 I (pc + 1) L (.long (-x) :: r) G bc bs) : ab_Sem p l e R s m args below meth c Q A D cy sp ρ0 z0 z1 t0 I pc L (.long x :: r) G bc bs := by
  obtain ⟨hx, hb, hml, hown, hts, hK, hA, hE, hX, hin, hRf, hRl, hz1, ho⟩ := hC
  intro ρ H locs cells slots ls hr hz hc hs
  exact lv_lneg hx hb hd (k ρ H locs cells slots ls (hr.S (ab_So_c ab_vol (ab_So_t hr.So))) hz hc hs)
theorem ab_s_i2l (hC : ab_Cx p l e R s m args below meth c Q A D cy sp ρ0 z0 z1 t0 I d o scL scX) (hd : decode (mCd I) pc = .ok (.i2l, 1)) {x : Int32} (k : ab_Sem p l e R s m args below meth c Q A D cy sp ρ0 z0 z1 t0 I (pc + 1) L (.long (x.toInt64) :: r) G bc bs) : ab_Sem p l e R s m args below meth c Q A D cy sp ρ0 z0 z1 t0 I pc L (.int x :: r) G bc bs := by
  obtain ⟨hx, hb, hml, hown, hts, hK, hA, hE, hX, hin, hRf, hRl, hz1, ho⟩ := hC
  intro ρ H locs cells slots ls hr hz hc hs
  exact lv_i2l hx hb hd rfl (k ρ H locs cells slots ls (hr.S (ab_So_c ab_vol (ab_So_t hr.So))) hz hc hs)
theorem ab_s_l2i (hC : ab_Cx p l e R s m args below meth c Q A D cy sp ρ0 z0 z1 t0 I d o scL scX) (hd : decode (mCd I) pc = .ok (.l2i, 1)) {x : Int64} (k : ab_Sem p l e R s m args below meth c Q A D cy sp ρ0 z0 z1 t0 I (pc + 1) L (.int (x.toInt32) :: r) G bc bs) : ab_Sem p l e R s m args below meth c Q A D cy sp ρ0 z0 z1 t0 I pc L (.long x :: r) G bc bs := by
  obtain ⟨hx, hb, hml, hown, hts, hK, hA, hE, hX, hin, hRf, hRl, hz1, ho⟩ := hC
  intro ρ H locs cells slots ls hr hz hc hs
  exact lv_l2i hx hb hd rfl (k ρ H locs cells slots ls (hr.S (ab_So_c ab_voi (ab_So_t hr.So))) hz hc hs)
theorem ab_s_i2c (hC : ab_Cx p l e R s m args below meth c Q A D cy sp ρ0 z0 z1 t0 I d o scL scX) (hd : decode (mCd I) pc = .ok (.i2c, 1)) {x : Int32} (k : ab_Sem p l e R s m args below meth c Q A D cy sp ρ0 z0 z1 t0 I (pc + 1) L (.int ((x.toUInt32 % 65536).toInt32) :: r) G bc bs) : ab_Sem p l e R s m args below meth c Q A D cy sp ρ0 z0 z1 t0 I pc L (.int x :: r) G bc bs := by
  obtain ⟨hx, hb, hml, hown, hts, hK, hA, hE, hX, hin, hRf, hRl, hz1, ho⟩ := hC
  intro ρ H locs cells slots ls hr hz hc hs
  exact lv_i2c hx hb hd rfl (k ρ H locs cells slots ls (hr.S (ab_So_c ab_voi (ab_So_t hr.So))) hz hc hs)
theorem ab_s_lshl (hC : ab_Cx p l e R s m args below meth c Q A D cy sp ρ0 z0 z1 t0 I d o scL scX) (hd : decode (mCd I) pc = .ok (.lshl, 1)) {x : Int64} {y : Int32} (k : ab_Sem p l e R s m args below meth c Q A D cy sp ρ0 z0 z1 t0 I (pc + 1) L (.long (x <<< (y.toInt64 &&& 63)) :: r) G bc bs) : ab_Sem p l e R s m args below meth c Q A D cy sp ρ0 z0 z1 t0 I pc L (.int y :: .long x :: r) G bc bs := by
  obtain ⟨hx, hb, hml, hown, hts, hK, hA, hE, hX, hin, hRf, hRl, hz1, ho⟩ := hC
  intro ρ H locs cells slots ls hr hz hc hs
  exact lv_lshl hx hb hd rfl (k ρ H locs cells slots ls (hr.S (ab_So_c ab_vol (ab_So_t (ab_So_t hr.So)))) hz hc hs)
theorem ab_s_lushr (hC : ab_Cx p l e R s m args below meth c Q A D cy sp ρ0 z0 z1 t0 I d o scL scX) (hd : decode (mCd I) pc = .ok (.lushr, 1)) {x : Int64} {y : Int32} (k : ab_Sem p l e R s m args below meth c Q A D cy sp ρ0 z0 z1 t0 I (pc + 1) L (.long ((x.toUInt64 >>> (y.toInt64.toUInt64 &&& Int64.toUInt64 63)).toInt64) :: r) G bc bs) : ab_Sem p l e R s m args below meth c Q A D cy sp ρ0 z0 z1 t0 I pc L (.int y :: .long x :: r) G bc bs := by
  obtain ⟨hx, hb, hml, hown, hts, hK, hA, hE, hX, hin, hRf, hRl, hz1, ho⟩ := hC
  intro ρ H locs cells slots ls hr hz hc hs
  exact lv_lushr hx hb hd rfl (k ρ H locs cells slots ls (hr.S (ab_So_c ab_vol (ab_So_t (ab_So_t hr.So)))) hz hc hs)
theorem ab_s_lcmp (hC : ab_Cx p l e R s m args below meth c Q A D cy sp ρ0 z0 z1 t0 I d o scL scX) (hd : decode (mCd I) pc = .ok (.lcmp, 1)) {x y : Int64} (k : ab_Sem p l e R s m args below meth c Q A D cy sp ρ0 z0 z1 t0 I (pc + 1) L (.int (lg_cmp x y) :: r) G bc bs) : ab_Sem p l e R s m args below meth c Q A D cy sp ρ0 z0 z1 t0 I pc L (.long y :: .long x :: r) G bc bs := by
  obtain ⟨hx, hb, hml, hown, hts, hK, hA, hE, hX, hin, hRf, hRl, hz1, ho⟩ := hC
  intro ρ H locs cells slots ls hr hz hc hs
  exact W.lcmp hx hb hd (k ρ H locs cells slots ls (hr.S (ab_So_c ab_voi (ab_So_t (ab_So_t hr.So)))) hz hc hs)
theorem ab_s_dup (hC : ab_Cx p l e R s m args below meth c Q A D cy sp ρ0 z0 z1 t0 I d o scL scX) (hd : decode (mCd I) pc = .ok (.dup, 1)) {v : Value} (hv : v.category = 1) (k : ab_Sem p l e R s m args below meth c Q A D cy sp ρ0 z0 z1 t0 I (pc + 1) L (v :: v :: r) G bc bs) : ab_Sem p l e R s m args below meth c Q A D cy sp ρ0 z0 z1 t0 I pc L (v :: r) G bc bs := by
  obtain ⟨hx, hb, hml, hown, hts, hK, hA, hE, hX, hin, hRf, hRl, hz1, ho⟩ := hC
  intro ρ H locs cells slots ls hr hz hc hs
  exact lv_dup hx hb hd (by rw [ab_cv_cat]; exact hv) (k ρ H locs cells slots ls (hr.S (ab_So_c (ab_So_h hr.So) hr.So)) hz hc hs)
theorem ab_s_pop (hC : ab_Cx p l e R s m args below meth c Q A D cy sp ρ0 z0 z1 t0 I d o scL scX) (hd : decode (mCd I) pc = .ok (.pop, 1)) {v : Value} (hv : v.category = 1) (k : ab_Sem p l e R s m args below meth c Q A D cy sp ρ0 z0 z1 t0 I (pc + 1) L r G bc bs) : ab_Sem p l e R s m args below meth c Q A D cy sp ρ0 z0 z1 t0 I pc L (v :: r) G bc bs := by
  obtain ⟨hx, hb, hml, hown, hts, hK, hA, hE, hX, hin, hRf, hRl, hz1, ho⟩ := hC
  intro ρ H locs cells slots ls hr hz hc hs
  exact lv_pop hx hb hd (by rw [ab_cv_cat]; exact hv) (k ρ H locs cells slots ls (hr.S (ab_So_t hr.So)) hz hc hs)
theorem ab_s_dup2 (hC : ab_Cx p l e R s m args below meth c Q A D cy sp ρ0 z0 z1 t0 I d o scL scX) (hd : decode (mCd I) pc = .ok (.dup2, 1)) {v w : Value} (hv : v.category = 1) (hw : w.category = 1) (k : ab_Sem p l e R s m args below meth c Q A D cy sp ρ0 z0 z1 t0 I (pc + 1) L (v :: w :: v :: w :: r) G bc bs) : ab_Sem p l e R s m args below meth c Q A D cy sp ρ0 z0 z1 t0 I pc L (v :: w :: r) G bc bs := by
  obtain ⟨hx, hb, hml, hown, hts, hK, hA, hE, hX, hin, hRf, hRl, hz1, ho⟩ := hC
  intro ρ H locs cells slots ls hr hz hc hs
  exact lv_dup2_11 hx hb hd (by rw [ab_cv_cat]; exact hv) (by rw [ab_cv_cat]; exact hw) (k ρ H locs cells slots ls (hr.S (ab_So_c (ab_So_h hr.So) (ab_So_c (ab_So_h (ab_So_t hr.So)) hr.So))) hz hc hs)
theorem ab_s_goto (hC : ab_Cx p l e R s m args below meth c Q A D cy sp ρ0 z0 z1 t0 I d o scL scX) {off : Int} (hd : decode (mCd I) pc = .ok (.goto off, 3)) (k : ab_jmp pc off (fun t => ab_Sem p l e R s m args below meth c Q A D cy sp ρ0 z0 z1 t0 I t L S G bc bs)) : ab_Sem p l e R s m args below meth c Q A D cy sp ρ0 z0 z1 t0 I pc L (S) G bc bs := by
  obtain ⟨hx, hb, hml, hown, hts, hK, hA, hE, hX, hin, hRf, hRl, hz1, ho⟩ := hC
  intro ρ H locs cells slots ls hr hz hc hs
  exact lv_goto hx hb hd (Int.toNat_of_nonneg k.1).symm (k.2 ρ H locs cells slots ls hr hz hc hs)
theorem ab_s_if_eq (hC : ab_Cx p l e R s m args below meth c Q A D cy sp ρ0 z0 z1 t0 I d o scL scX) {off : Int} (hd : decode (mCd I) pc = .ok (.ifCond .eq off, 3)) {x : Int32} (hp : 0 ≤ (pc : Int) + off) (k1 : x = 0 → ab_Sem p l e R s m args below meth c Q A D cy sp ρ0 z0 z1 t0 I ((pc : Int) + off).toNat L r G bc bs) (k2 : ¬ x = 0 → ab_Sem p l e R s m args below meth c Q A D cy sp ρ0 z0 z1 t0 I (pc + 3) L r G bc bs) : ab_Sem p l e R s m args below meth c Q A D cy sp ρ0 z0 z1 t0 I pc L (.int x :: r) G bc bs := by
  obtain ⟨hx, hb, hml, hown, hts, hK, hA, hE, hX, hin, hRf, hRl, hz1, ho⟩ := hC
  intro ρ H locs cells slots ls hr hz hc hs
  exact lv_if_eq hx hb hd (Int.toNat_of_nonneg hp).symm (fun q => k1 q ρ H locs cells slots ls (hr.S (ab_So_t hr.So)) hz hc hs) (fun q => k2 q ρ H locs cells slots ls (hr.S (ab_So_t hr.So)) hz hc hs)
theorem ab_s_icmp_eq (hC : ab_Cx p l e R s m args below meth c Q A D cy sp ρ0 z0 z1 t0 I d o scL scX) {off : Int} (hd : decode (mCd I) pc = .ok (.if_icmp .eq off, 3)) {x y : Int32} (hp : 0 ≤ (pc : Int) + off) (k1 : x = y → ab_Sem p l e R s m args below meth c Q A D cy sp ρ0 z0 z1 t0 I ((pc : Int) + off).toNat L r G bc bs) (k2 : ¬ x = y → ab_Sem p l e R s m args below meth c Q A D cy sp ρ0 z0 z1 t0 I (pc + 3) L r G bc bs) : ab_Sem p l e R s m args below meth c Q A D cy sp ρ0 z0 z1 t0 I pc L (.int y :: .int x :: r) G bc bs := by
  obtain ⟨hx, hb, hml, hown, hts, hK, hA, hE, hX, hin, hRf, hRl, hz1, ho⟩ := hC
  intro ρ H locs cells slots ls hr hz hc hs
  exact lv_icmp_eq hx hb hd (Int.toNat_of_nonneg hp).symm (fun q => k1 q ρ H locs cells slots ls (hr.S (ab_So_t (ab_So_t hr.So))) hz hc hs) (fun q => k2 q ρ H locs cells slots ls (hr.S (ab_So_t (ab_So_t hr.So))) hz hc hs)
theorem ab_s_if_ne (hC : ab_Cx p l e R s m args below meth c Q A D cy sp ρ0 z0 z1 t0 I d o scL scX) {off : Int} (hd : decode (mCd I) pc = .ok (.ifCond .ne off, 3)) {x : Int32} (hp : 0 ≤ (pc : Int) + off) (k1 : ¬ x = 0 → ab_Sem p l e R s m args below meth c Q A D cy sp ρ0 z0 z1 t0 I ((pc : Int) + off).toNat L r G bc bs) (k2 : x = 0 → ab_Sem p l e R s m args below meth c Q A D cy sp ρ0 z0 z1 t0 I (pc + 3) L r G bc bs) : ab_Sem p l e R s m args below meth c Q A D cy sp ρ0 z0 z1 t0 I pc L (.int x :: r) G bc bs := by
  obtain ⟨hx, hb, hml, hown, hts, hK, hA, hE, hX, hin, hRf, hRl, hz1, ho⟩ := hC
  intro ρ H locs cells slots ls hr hz hc hs
  exact lv_if_ne hx hb hd (Int.toNat_of_nonneg hp).symm (fun q => k1 q ρ H locs cells slots ls (hr.S (ab_So_t hr.So)) hz hc hs) (fun q => k2 q ρ H locs cells slots ls (hr.S (ab_So_t hr.So)) hz hc hs)
theorem ab_s_icmp_ne (hC : ab_Cx p l e R s m args below meth c Q A D cy sp ρ0 z0 z1 t0 I d o scL scX) {off : Int} (hd : decode (mCd I) pc = .ok (.if_icmp .ne off, 3)) {x y : Int32} (hp : 0 ≤ (pc : Int) + off) (k1 : ¬ x = y → ab_Sem p l e R s m args below meth c Q A D cy sp ρ0 z0 z1 t0 I ((pc : Int) + off).toNat L r G bc bs) (k2 : x = y → ab_Sem p l e R s m args below meth c Q A D cy sp ρ0 z0 z1 t0 I (pc + 3) L r G bc bs) : ab_Sem p l e R s m args below meth c Q A D cy sp ρ0 z0 z1 t0 I pc L (.int y :: .int x :: r) G bc bs := by
  obtain ⟨hx, hb, hml, hown, hts, hK, hA, hE, hX, hin, hRf, hRl, hz1, ho⟩ := hC
  intro ρ H locs cells slots ls hr hz hc hs
  exact lv_icmp_ne hx hb hd (Int.toNat_of_nonneg hp).symm (fun q => k1 q ρ H locs cells slots ls (hr.S (ab_So_t (ab_So_t hr.So))) hz hc hs) (fun q => k2 q ρ H locs cells slots ls (hr.S (ab_So_t (ab_So_t hr.So))) hz hc hs)
theorem ab_s_if_lt (hC : ab_Cx p l e R s m args below meth c Q A D cy sp ρ0 z0 z1 t0 I d o scL scX) {off : Int} (hd : decode (mCd I) pc = .ok (.ifCond .lt off, 3)) {x : Int32} (hp : 0 ≤ (pc : Int) + off) (k1 : x < 0 → ab_Sem p l e R s m args below meth c Q A D cy sp ρ0 z0 z1 t0 I ((pc : Int) + off).toNat L r G bc bs) (k2 : ¬ x < 0 → ab_Sem p l e R s m args below meth c Q A D cy sp ρ0 z0 z1 t0 I (pc + 3) L r G bc bs) : ab_Sem p l e R s m args below meth c Q A D cy sp ρ0 z0 z1 t0 I pc L (.int x :: r) G bc bs := by
  obtain ⟨hx, hb, hml, hown, hts, hK, hA, hE, hX, hin, hRf, hRl, hz1, ho⟩ := hC
  intro ρ H locs cells slots ls hr hz hc hs
  exact lv_if_lt hx hb hd (Int.toNat_of_nonneg hp).symm (fun q => k1 q ρ H locs cells slots ls (hr.S (ab_So_t hr.So)) hz hc hs) (fun q => k2 q ρ H locs cells slots ls (hr.S (ab_So_t hr.So)) hz hc hs)
theorem ab_s_icmp_lt (hC : ab_Cx p l e R s m args below meth c Q A D cy sp ρ0 z0 z1 t0 I d o scL scX) {off : Int} (hd : decode (mCd I) pc = .ok (.if_icmp .lt off, 3)) {x y : Int32} (hp : 0 ≤ (pc : Int) + off) (k1 : x < y → ab_Sem p l e R s m args below meth c Q A D cy sp ρ0 z0 z1 t0 I ((pc : Int) + off).toNat L r G bc bs) (k2 : ¬ x < y → ab_Sem p l e R s m args below meth c Q A D cy sp ρ0 z0 z1 t0 I (pc + 3) L r G bc bs) : ab_Sem p l e R s m args below meth c Q A D cy sp ρ0 z0 z1 t0 I pc L (.int y :: .int x :: r) G bc bs := by
  obtain ⟨hx, hb, hml, hown, hts, hK, hA, hE, hX, hin, hRf, hRl, hz1, ho⟩ := hC
  intro ρ H locs cells slots ls hr hz hc hs
  exact lv_icmp_lt hx hb hd (Int.toNat_of_nonneg hp).symm (fun q => k1 q ρ H locs cells slots ls (hr.S (ab_So_t (ab_So_t hr.So))) hz hc hs) (fun q => k2 q ρ H locs cells slots ls (hr.S (ab_So_t (ab_So_t hr.So))) hz hc hs)
theorem ab_s_if_ge (hC : ab_Cx p l e R s m args below meth c Q A D cy sp ρ0 z0 z1 t0 I d o scL scX) {off : Int} (hd : decode (mCd I) pc = .ok (.ifCond .ge off, 3)) {x : Int32} (hp : 0 ≤ (pc : Int) + off) (k1 : 0 ≤ x → ab_Sem p l e R s m args below meth c Q A D cy sp ρ0 z0 z1 t0 I ((pc : Int) + off).toNat L r G bc bs) (k2 : ¬ 0 ≤ x → ab_Sem p l e R s m args below meth c Q A D cy sp ρ0 z0 z1 t0 I (pc + 3) L r G bc bs) : ab_Sem p l e R s m args below meth c Q A D cy sp ρ0 z0 z1 t0 I pc L (.int x :: r) G bc bs := by
  obtain ⟨hx, hb, hml, hown, hts, hK, hA, hE, hX, hin, hRf, hRl, hz1, ho⟩ := hC
  intro ρ H locs cells slots ls hr hz hc hs
  exact lv_if_ge hx hb hd (Int.toNat_of_nonneg hp).symm (fun q => k1 q ρ H locs cells slots ls (hr.S (ab_So_t hr.So)) hz hc hs) (fun q => k2 q ρ H locs cells slots ls (hr.S (ab_So_t hr.So)) hz hc hs)
theorem ab_s_icmp_ge (hC : ab_Cx p l e R s m args below meth c Q A D cy sp ρ0 z0 z1 t0 I d o scL scX) {off : Int} (hd : decode (mCd I) pc = .ok (.if_icmp .ge off, 3)) {x y : Int32} (hp : 0 ≤ (pc : Int) + off) (k1 : y ≤ x → ab_Sem p l e R s m args below meth c Q A D cy sp ρ0 z0 z1 t0 I ((pc : Int) + off).toNat L r G bc bs) (k2 : ¬ y ≤ x → ab_Sem p l e R s m args below meth c Q A D cy sp ρ0 z0 z1 t0 I (pc + 3) L r G bc bs) : ab_Sem p l e R s m args below meth c Q A D cy sp ρ0 z0 z1 t0 I pc L (.int y :: .int x :: r) G bc bs := by
  obtain ⟨hx, hb, hml, hown, hts, hK, hA, hE, hX, hin, hRf, hRl, hz1, ho⟩ := hC
  intro ρ H locs cells slots ls hr hz hc hs
  exact lv_icmp_ge hx hb hd (Int.toNat_of_nonneg hp).symm (fun q => k1 q ρ H locs cells slots ls (hr.S (ab_So_t (ab_So_t hr.So))) hz hc hs) (fun q => k2 q ρ H locs cells slots ls (hr.S (ab_So_t (ab_So_t hr.So))) hz hc hs)
theorem ab_s_if_gt (hC : ab_Cx p l e R s m args below meth c Q A D cy sp ρ0 z0 z1 t0 I d o scL scX) {off : Int} (hd : decode (mCd I) pc = .ok (.ifCond .gt off, 3)) {x : Int32} (hp : 0 ≤ (pc : Int) + off) (k1 : 0 < x → ab_Sem p l e R s m args below meth c Q A D cy sp ρ0 z0 z1 t0 I ((pc : Int) + off).toNat L r G bc bs) (k2 : ¬ 0 < x → ab_Sem p l e R s m args below meth c Q A D cy sp ρ0 z0 z1 t0 I (pc + 3) L r G bc bs) : ab_Sem p l e R s m args below meth c Q A D cy sp ρ0 z0 z1 t0 I pc L (.int x :: r) G bc bs := by
  obtain ⟨hx, hb, hml, hown, hts, hK, hA, hE, hX, hin, hRf, hRl, hz1, ho⟩ := hC
  intro ρ H locs cells slots ls hr hz hc hs
  exact lv_if_gt hx hb hd (Int.toNat_of_nonneg hp).symm (fun q => k1 q ρ H locs cells slots ls (hr.S (ab_So_t hr.So)) hz hc hs) (fun q => k2 q ρ H locs cells slots ls (hr.S (ab_So_t hr.So)) hz hc hs)
theorem ab_s_icmp_gt (hC : ab_Cx p l e R s m args below meth c Q A D cy sp ρ0 z0 z1 t0 I d o scL scX) {off : Int} (hd : decode (mCd I) pc = .ok (.if_icmp .gt off, 3)) {x y : Int32} (hp : 0 ≤ (pc : Int) + off) (k1 : y < x → ab_Sem p l e R s m args below meth c Q A D cy sp ρ0 z0 z1 t0 I ((pc : Int) + off).toNat L r G bc bs) (k2 : ¬ y < x → ab_Sem p l e R s m args below meth c Q A D cy sp ρ0 z0 z1 t0 I (pc + 3) L r G bc bs) : ab_Sem p l e R s m args below meth c Q A D cy sp ρ0 z0 z1 t0 I pc L (.int y :: .int x :: r) G bc bs := by
  obtain ⟨hx, hb, hml, hown, hts, hK, hA, hE, hX, hin, hRf, hRl, hz1, ho⟩ := hC
  intro ρ H locs cells slots ls hr hz hc hs
  exact lv_icmp_gt hx hb hd (Int.toNat_of_nonneg hp).symm (fun q => k1 q ρ H locs cells slots ls (hr.S (ab_So_t (ab_So_t hr.So))) hz hc hs) (fun q => k2 q ρ H locs cells slots ls (hr.S (ab_So_t (ab_So_t hr.So))) hz hc hs)
theorem ab_s_if_le (hC : ab_Cx p l e R s m args below meth c Q A D cy sp ρ0 z0 z1 t0 I d o scL scX) {off : Int} (hd : decode (mCd I) pc = .ok (.ifCond .le off, 3)) {x : Int32} (hp : 0 ≤ (pc : Int) + off) (k1 : x ≤ 0 → ab_Sem p l e R s m args below meth c Q A D cy sp ρ0 z0 z1 t0 I ((pc : Int) + off).toNat L r G bc bs) (k2 : ¬ x ≤ 0 → ab_Sem p l e R s m args below meth c Q A D cy sp ρ0 z0 z1 t0 I (pc + 3) L r G bc bs) : ab_Sem p l e R s m args below meth c Q A D cy sp ρ0 z0 z1 t0 I pc L (.int x :: r) G bc bs := by
  obtain ⟨hx, hb, hml, hown, hts, hK, hA, hE, hX, hin, hRf, hRl, hz1, ho⟩ := hC
  intro ρ H locs cells slots ls hr hz hc hs
  exact lv_if_le hx hb hd (Int.toNat_of_nonneg hp).symm (fun q => k1 q ρ H locs cells slots ls (hr.S (ab_So_t hr.So)) hz hc hs) (fun q => k2 q ρ H locs cells slots ls (hr.S (ab_So_t hr.So)) hz hc hs)
theorem ab_s_icmp_le (hC : ab_Cx p l e R s m args below meth c Q A D cy sp ρ0 z0 z1 t0 I d o scL scX) {off : Int} (hd : decode (mCd I) pc = .ok (.if_icmp .le off, 3)) {x y : Int32} (hp : 0 ≤ (pc : Int) + off) (k1 : x ≤ y → ab_Sem p l e R s m args below meth c Q A D cy sp ρ0 z0 z1 t0 I ((pc : Int) + off).toNat L r G bc bs) (k2 : ¬ x ≤ y → ab_Sem p l e R s m args below meth c Q A D cy sp ρ0 z0 z1 t0 I (pc + 3) L r G bc bs) : ab_Sem p l e R s m args below meth c Q A D cy sp ρ0 z0 z1 t0 I pc L (.int y :: .int x :: r) G bc bs := by
  obtain ⟨hx, hb, hml, hown, hts, hK, hA, hE, hX, hin, hRf, hRl, hz1, ho⟩ := hC
  intro ρ H locs cells slots ls hr hz hc hs
  exact lv_icmp_le hx hb hd (Int.toNat_of_nonneg hp).symm (fun q => k1 q ρ H locs cells slots ls (hr.S (ab_So_t (ab_So_t hr.So))) hz hc hs) (fun q => k2 q ρ H locs cells slots ls (hr.S (ab_So_t (ab_So_t hr.So))) hz hc hs)
theorem ab_s_ifnonnull (hC : ab_Cx p l e R s m args below meth c Q A D cy sp ρ0 z0 z1 t0 I d o scL scX) {off : Int} (hd : decode (mCd I) pc = .ok (.ifnonnull off, 3)) {a : Nat} (k : ab_jmp pc off (fun t => ab_Sem p l e R s m args below meth c Q A D cy sp ρ0 z0 z1 t0 I t L r G bc bs)) : ab_Sem p l e R s m args below meth c Q A D cy sp ρ0 z0 z1 t0 I pc L (.ref a :: r) G bc bs := by
  obtain ⟨hx, hb, hml, hown, hts, hK, hA, hE, hX, hin, hRf, hRl, hz1, ho⟩ := hC
  intro ρ H locs cells slots ls hr hz hc hs
  exact lv_ifnonnull hx hb hd (Int.toNat_of_nonneg k.1).symm (k.2 ρ H locs cells slots ls (hr.S (ab_So_t hr.So)) hz hc hs)
theorem ab_s_ifnonnullN (hC : ab_Cx p l e R s m args below meth c Q A D cy sp ρ0 z0 z1 t0 I d o scL scX) {off : Int} (hd : decode (mCd I) pc = .ok (.ifnonnull off, 3)) (k : ab_Sem p l e R s m args below meth c Q A D cy sp ρ0 z0 z1 t0 I (pc + 3) L r G bc bs) : ab_Sem p l e R s m args below meth c Q A D cy sp ρ0 z0 z1 t0 I pc L (.null :: r) G bc bs := by
  obtain ⟨hx, hb, hml, hown, hts, hK, hA, hE, hX, hin, hRf, hRl, hz1, ho⟩ := hC
  intro ρ H locs cells slots ls hr hz hc hs
  exact lv_ifnonnullN hx hb hd (k ρ H locs cells slots ls (hr.S (ab_So_t hr.So)) hz hc hs)
theorem ab_tsw_get {pc : Nat} {x : Int32} {k : Nat → Prop} : ∀ (l : List Int) (lo : Int), ab_tsw pc x k lo l → ∀ (j : Nat) (off : Int), l[j]? = some off → x.toInt = lo + j → ab_jmp pc off k
  | [], _, _, j, off, h, _ => by simp at h
  | q :: r, lo, h, 0, off, hj, hx => by
    have : q = off := by simpa using hj
    subst this
    exact h.1 (by rw [hx]; simp)
  | q :: r, lo, h, j + 1, off, hj, hx => ab_tsw_get r (lo + 1) h.2 j off (by simpa using hj) (by rw [hx]; push_cast; omega)
theorem ab_lsw_get {pc : Nat} {x : Int32} {k : Nat → Prop} {d : Int} : ∀ (l : List (Int × Int)), ab_lsw pc x k d l → ab_jmp pc (Op.lookupswitch.offset l d x.toInt) k
  | [], h => h
  | (a, q) :: r, h => by
    by_cases c : x.toInt = a
    · have e : Op.lookupswitch.offset ((a, q) :: r) d x.toInt = q := by simp [Op.lookupswitch.offset, c]
      rw [e]
      exact h.1 c
    · have e : Op.lookupswitch.offset ((a, q) :: r) d x.toInt = Op.lookupswitch.offset r d x.toInt := by
        simp only [Op.lookupswitch.offset]
        exact if_neg (fun h => c h.symm)
      rw [e]
      exact ab_lsw_get r (h.2 c)
theorem ab_s_tsw (hC : ab_Cx p l e R s m args below meth c Q A D cy sp ρ0 z0 z1 t0 I d o scL scX) {df lo hi : Int} {offs : Array Int} {len : Nat} {x : Int32} (hd : decode (mCd I) pc = .ok (.tableswitch df lo hi offs, len)) (k0 : x.toInt < lo ∨ hi < x.toInt → ab_jmp pc df (fun t => ab_Sem p l e R s m args below meth c Q A D cy sp ρ0 z0 z1 t0 I t L r G bc bs)) (k1 : hi < lo + (offs.toList.length : Int)) (k2 : ab_tsw pc x (fun t => ab_Sem p l e R s m args below meth c Q A D cy sp ρ0 z0 z1 t0 I t L r G bc bs) lo offs.toList) : ab_Sem p l e R s m args below meth c Q A D cy sp ρ0 z0 z1 t0 I pc L (.int x :: r) G bc bs := by
  obtain ⟨hx, hb, hml, hown, hts, hK, hA, hE, hX, hin, hRf, hRl, hz1, ho⟩ := hC
  intro ρ H locs cells slots ls hr hz hc hs
  by_cases hcnd : x.toInt < lo ∨ hi < x.toInt
  · exact lv_tableOut hx hb hd hcnd (Int.toNat_of_nonneg (k0 hcnd).1).symm ((k0 hcnd).2 ρ H locs cells slots ls (hr.S (ab_So_t hr.So)) hz hc hs)
  · have h1 : ¬ x.toInt < lo := fun q => hcnd (Or.inl q)
    have h2 : ¬ hi < x.toInt := fun q => hcnd (Or.inr q)
    have hlt : (x.toInt - lo).toNat < offs.toList.length := by omega
    have hget : offs.toList[(x.toInt - lo).toNat]? = some (offs.toList[(x.toInt - lo).toNat]'hlt) := List.getElem?_eq_getElem hlt
    have hj := ab_tsw_get offs.toList lo k2 _ _ hget (by omega)
    exact lv_tableIn hx hb hd h1 h2 (by rw [← Array.getElem?_toList]; exact hget) (Int.toNat_of_nonneg hj.1).symm (hj.2 ρ H locs cells slots ls (hr.S (ab_So_t hr.So)) hz hc hs)
theorem ab_s_lsw (hC : ab_Cx p l e R s m args below meth c Q A D cy sp ρ0 z0 z1 t0 I d o scL scX) {df : Int} {ps : Array (Int × Int)} {len : Nat} {x : Int32} (hd : decode (mCd I) pc = .ok (.lookupswitch df ps, len)) (hp : (ps.toList.zip (ps.toList.drop 1)).all (fun (a, next) => a.1 < next.1) = true) (k : ab_lsw pc x (fun t => ab_Sem p l e R s m args below meth c Q A D cy sp ρ0 z0 z1 t0 I t L r G bc bs) df ps.toList) : ab_Sem p l e R s m args below meth c Q A D cy sp ρ0 z0 z1 t0 I pc L (.int x :: r) G bc bs := by
  obtain ⟨hx, hb, hml, hown, hts, hK, hA, hE, hX, hin, hRf, hRl, hz1, ho⟩ := hC
  intro ρ H locs cells slots ls hr hz hc hs
  have hj := ab_lsw_get ps.toList k
  exact lv_lookup hx hb hd hp rfl (Int.toNat_of_nonneg hj.1).symm (hj.2 ρ H locs cells slots ls (hr.S (ab_So_t hr.So)) hz hc hs)
theorem ab_find {α : Type} {l : List α} {f : α → Bool} {q : α} (h : l.find? f = some q) : q ∈ l ∧ f q = true := ⟨List.mem_of_find?_eq_some h, List.find?_some h⟩
theorem ab_fT_ok2 : ab_fT.all (fun q => decide (q.2.2.1 ≠ 0)) = true := by decide +kernel
theorem ab_fR_w {o i ci f : Nat} (h : ab_fR o i = some (ci, f)) : Cond.fieldLink (ab_own o) i (ab_T ci f).1 (ab_T ci f).2.1 (ab_T ci f).2.2.1 ∈ ab_W ∧ f < ab_nf ci ∧ ci < 13 ∧ ci ≠ 0 := by
  unfold ab_fR at h
  cases hq : ab_fT.find? (fun q => q.2.1 == i && q.1 == o) with
  | none => rw [hq] at h; cases h
  | some q =>
    rw [hq] at h
    obtain ⟨hm, hp⟩ := ab_find hq
    have h1 := List.all_eq_true.mp ab_fT_ok q hm
    have h2 := List.all_eq_true.mp ab_fT_ok2 q hm
    simp only [Bool.and_eq_true, decide_eq_true_eq, beq_iff_eq] at h1 h2 hp
    simp only [Option.map_some, Option.some.injEq, Prod.mk.injEq] at h
    obtain ⟨e1, e2⟩ := h
    obtain ⟨e3, e4⟩ := hp
    subst e1; subst e2; subst e3; subst e4
    exact ⟨ab_W_of h1.1.1.1 rfl, h1.1.1.2, h1.1.2, h2⟩
theorem ab_kR_w {o i : Nat} {v : Int32} (h : ab_kR o i = some v) : Cond.constant (ab_own o) i v ∈ ab_W := by
  unfold ab_kR at h
  cases hq : ab_kT.find? (fun q => q.2.1 == i && q.1 == o) with
  | none => rw [hq] at h; cases h
  | some q =>
    rw [hq] at h
    obtain ⟨hm, hp⟩ := ab_find hq
    have h1 := List.all_eq_true.mp ab_kT_ok q hm
    simp only [Bool.and_eq_true, decide_eq_true_eq, beq_iff_eq] at h1 hp
    simp only [Option.map_some, Option.some.injEq] at h
    obtain ⟨e3, e4⟩ := hp
    subst h; subst e3; subst e4
    exact ab_W_of h1 rfl
theorem ab_jR_w {o i : Nat} {v : Int64} (h : ab_jR o i = some v) : Cond.constantLong (ab_own o) i v ∈ ab_W := by
  unfold ab_jR at h
  cases hq : ab_jT.find? (fun q => q.2.1 == i && q.1 == o) with
  | none => rw [hq] at h; cases h
  | some q =>
    rw [hq] at h
    obtain ⟨hm, hp⟩ := ab_find hq
    have h1 := List.all_eq_true.mp ab_jT_ok q hm
    simp only [Bool.and_eq_true, decide_eq_true_eq, beq_iff_eq] at h1 hp
    simp only [Option.map_some, Option.some.injEq] at h
    obtain ⟨e3, e4⟩ := hp
    subst h; subst e3; subst e4
    exact ab_W_of h1 rfl
theorem ab_cR_w {o i ci : Nat} (h : ab_cR o i = some ci) : Cond.classLink (ab_own o) i (ab_own ci) ∈ ab_W := by
  unfold ab_cR at h
  cases hq : ab_cT.find? (fun q => q.2.1 == i && q.1 == o) with
  | none => rw [hq] at h; cases h
  | some q =>
    rw [hq] at h
    obtain ⟨hm, hp⟩ := ab_find hq
    have h1 := List.all_eq_true.mp ab_cT_ok q hm
    simp only [Bool.and_eq_true, decide_eq_true_eq, beq_iff_eq] at h1 hp
    simp only [Option.map_some, Option.some.injEq] at h
    obtain ⟨e3, e4⟩ := hp
    subst h; subst e3; subst e4
    exact ab_W_of h1 rfl
theorem ab_s_ldcI (hC : ab_Cx p l e R s m args below meth c Q A D cy sp ρ0 z0 z1 t0 I d o scL scX) {i : Nat} (hd : decode (mCd I) pc = .ok (.ldc i, 2)) {v : Int32} (hk : ab_kR o i = some v) (k : ab_Sem p l e R s m args below meth c Q A D cy sp ρ0 z0 z1 t0 I (pc + 2) L (.int v :: S) G bc bs) : ab_Sem p l e R s m args below meth c Q A D cy sp ρ0 z0 z1 t0 I pc L (S) G bc bs := by
  obtain ⟨hx, hb, hml, hown, hts, hK, hA, hE, hX, hin, hRf, hRl, hz1, ho⟩ := hC
  intro ρ H locs cells slots ls hr hz hc hs
  exact lv_ldc hx hb hown (hts _ (ab_kR_w hk)) hd (k ρ H locs cells slots ls (hr.S (ab_So_c ab_voi hr.So)) hz hc hs)
theorem ab_s_ldc2 (hC : ab_Cx p l e R s m args below meth c Q A D cy sp ρ0 z0 z1 t0 I d o scL scX) {i : Nat} (hd : decode (mCd I) pc = .ok (.ldc2_w i, 3)) {v : Int64} (hk : ab_jR o i = some v) (k : ab_Sem p l e R s m args below meth c Q A D cy sp ρ0 z0 z1 t0 I (pc + 3) L (.long v :: S) G bc bs) : ab_Sem p l e R s m args below meth c Q A D cy sp ρ0 z0 z1 t0 I pc L (S) G bc bs := by
  obtain ⟨hx, hb, hml, hown, hts, hK, hA, hE, hX, hin, hRf, hRl, hz1, ho⟩ := hC
  intro ρ H locs cells slots ls hr hz hc hs
  exact lv_ldc2 hx hb hown (hts _ (ab_jR_w hk)) hd (k ρ H locs cells slots ls (hr.S (ab_So_c ab_vol hr.So)) hz hc hs)
theorem ab_s_ldcS (hC : ab_Cx p l e R s m args below meth c Q A D cy sp ρ0 z0 z1 t0 I d o scL scX) {i j : Nat} (hd : decode (mCd I) pc = .ok (.ldc i, 2)) (hk : ab_sR o i = some j) (k : ab_Sem p l e R s m args below meth c Q A D cy sp ρ0 z0 z1 t0 I (pc + 2) L (.float (UInt32.ofNat (j + 1)) :: S) G bc bs) : ab_Sem p l e R s m args below meth c Q A D cy sp ρ0 z0 z1 t0 I pc L (S) G bc bs := by
  obtain ⟨hx, hb, hml, hown, hts, hK, hA, hE, hX, hin, hRf, hRl, hz1, ho⟩ := hC
  intro ρ H locs cells slots ls hr hz hc hs
  obtain ⟨tx, htx⟩ := hE.2.2.2.1 o i j hk
  have hj : (UInt32.ofNat (j + 1)).toNat = j + 1 := by
    have hj7 : j < 7 := by
      unfold ab_sR at hk
      cases hq : ab_sT.find? (fun q => q.2.1 == i && q.1 == o) with
      | none => rw [hq] at hk; cases hk
      | some q =>
        rw [hq] at hk
        have h1 := List.all_eq_true.mp (show ab_sT.all (fun q => decide (q.2.2.1 < 7)) = true by decide +kernel) q (ab_find hq).1
        simp only [Option.map_some, Option.some.injEq] at hk
        simp only [decide_eq_true_eq] at h1
        omega
    simp
    omega
  refine va_ldcS hx hb hown htx hd ?_
  have hk2 := k ρ H locs cells slots ls (hr.S (ab_So_c ab_vof hr.So)) hz hc hs
  rw [List.map_cons, show ab_cv ρ sp (.float (UInt32.ofNat (j + 1))) = .ref (sp (j + 1)) from congrArg (fun n => Value.ref (sp n)) hj] at hk2
  exact hk2
theorem ab_Rel.P {D cy sp A H0 n ρ0 z0 t0 ρ H locs ls L S G} (h : ab_Rel D cy sp A H0 n ρ0 z0 t0 ρ H locs ls L S G) : va_P D vwCl (ab_ws cy ρ G) H := h.2.1
theorem ab_Rel.DD {D cy sp A H0 n ρ0 z0 t0 ρ H locs ls L S G} (h : ab_Rel D cy sp A H0 n ρ0 z0 t0 ρ H locs ls L S G) : va_D A (ab_ws cy ρ G) := h.2.2.1
theorem ab_Rel.SS {D cy sp A H0 n ρ0 z0 t0 ρ H locs ls L S G} (h : ab_Rel D cy sp A H0 n ρ0 z0 t0 ρ H locs ls L S G) : va_S A H0 H locs := h.2.2.2.1
theorem ab_Rel.cl {D cy sp A H0 n ρ0 z0 t0 ρ H locs ls L S G} (h : ab_Rel D cy sp A H0 n ρ0 z0 t0 ρ H locs ls L S G) : ab_cl G := h.2.2.2.2.1
theorem ab_ws_o {cy ρ G a ci} (ha : a < gZ G) (h : gK G a = ci) (hc : ci < 13) : (ab_ws cy ρ G)[a]? = some (ρ a, .inr (ci, ab_fs ρ G ci a)) := by
  rw [ab_ws_get cy ρ G ha, ab_cel_o h hc]
theorem ab_ws_i {cy ρ G a kd} (ha : a < gZ G) (h : gK G a = kd) (hk : kd = 13 ∨ kd = 14 ∨ kd = 15) : (ab_ws cy ρ G)[a]? = some (ρ a, .inl (cy kd, gN G a, .inl (gI G a))) := by
  rw [ab_ws_get cy ρ G ha, ab_cel_i h hk]
theorem ab_ws_l {cy ρ G a} (ha : a < gZ G) (h : gK G a = 17) : (ab_ws cy ρ G)[a]? = some (ρ a, .inl (cy 17, gN G a, .inr (.inl (gJ G a)))) := by
  rw [ab_ws_get cy ρ G ha, ab_cel_l h]
theorem ab_Rel.up {D cy sp A H0 n ρ0 z0 t0 ρ H H1 locs locs1 ls L S S' G G'} (h : ab_Rel D cy sp A H0 n ρ0 z0 t0 ρ H locs ls L S G) (hz : gZ G' = gZ G) (hP : va_P D vwCl (ab_ws cy ρ G') H1) (hD : va_D A (ab_ws cy ρ G')) (hS : va_S A H0 H1 locs1) (hcl : ab_cl G') (hS' : ab_So G S') : ab_Rel D cy sp A H0 n ρ0 z0 t0 ρ H1 locs1 ls L S' G' := by
  obtain ⟨h1, h2, h3, h4, h5, h6, h7, h8, h9, h10⟩ := h
  refine ⟨h1, hP, hD, hS, hcl, ?_, ?_, by rw [hz]; exact h8, h9, h10⟩
  · intro v hv a ha
    rw [hz]
    exact h6 v hv a ha
  · intro v hv a ha
    rw [hz]
    exact hS' v hv a ha
theorem ab_s_getfield (hC : ab_Cx p l e R s m args below meth c Q A D cy sp ρ0 z0 z1 t0 I d o scL scX) {i ci f a : Nat} (hd : decode (mCd I) pc = .ok (.getfield i, 3)) (hf : ab_fR o i = some (ci, f)) (hk : gK G a = ci) (k : ab_Sem p l e R s m args below meth c Q A D cy sp ρ0 z0 z1 t0 I (pc + 3) L (ab_gv G ci a f :: r) G bc bs) : ab_Sem p l e R s m args below meth c Q A D cy sp ρ0 z0 z1 t0 I pc L (.ref a :: r) G bc bs := by
  obtain ⟨hx, hb, hml, hown, hts, hK, hA, hE, hX, hin, hRf, hRl, hz1, ho⟩ := hC
  intro ρ H locs cells slots ls hr hz hc hs
  obtain ⟨hw, hn, hci, h0⟩ := ab_fR_w hf
  have ha : a < gZ G := ab_So_h hr.So a rfl
  have hvo : ab_vo G (ab_gv G ci a f) := by
    unfold ab_gv
    split
    · intro b hb'
      cases hq : gR G a f with
      | none => rw [hq] at hb'; cases hb'
      | some b' =>
        rw [hq] at hb'
        have : b' = b := by injection hb'
        subst this
        rcases hr.cl a ha f b' hq with ⟨h, -⟩ | ⟨h, -⟩
        · exact h
        · exact absurd (hk.symm.trans h) h0
    · exact ab_voi
  refine va_get (D := D) (ci := ci) (C := ab_own ci) (T := ab_T ci) (N := ab_nf ci) hx hb hts (ab_inW hci) hown hK hr.P a (ab_ws_o ha hk hci) (ab_cl_get hci) f hn (hts _ hw) (fun _ h => h) (ab_fs_get ρ G ci a hn) hd ?_
  have hk2 := k ρ H locs cells slots ls (hr.S (ab_So_c hvo (ab_So_t hr.So))) hz hc hs
  rw [List.map_cons, ab_cv_gv] at hk2
  exact hk2
theorem ab_s_putI (hC : ab_Cx p l e R s m args below meth c Q A D cy sp ρ0 z0 z1 t0 I d o scL scX) {i ci f a : Nat} {x : Int32} (hd : decode (mCd I) pc = .ok (.putfield i, 3)) (hf : ab_fR o i = some (ci, f)) (hfin : (ab_T ci f).2.2.2 = false ∨ (ab_ini I = true ∧ ci = o)) (hk : gK G a = ci) (hR : ab_isR (ab_ty ci f) = false) (hnr : narrow (ab_ty ci f) (.int x) = .int x) (k : ab_Sem p l e R s m args below meth c Q A D cy sp ρ0 z0 z1 t0 I (pc + 3) L r (sI G a f x) bc bs) : ab_Sem p l e R s m args below meth c Q A D cy sp ρ0 z0 z1 t0 I pc L (.int x :: .ref a :: r) G bc bs := by
  obtain ⟨hx, hb, hml, hown, hts, hK, hA, hE, hX, hin, hRf, hRl, hz1, ho⟩ := hC
  intro ρ H locs cells slots ls hr hz hc hs
  obtain ⟨hw, hn, hci, h0⟩ := ab_fR_w hf
  have ha : a < gZ G := ab_So_h (ab_So_t hr.So) a rfl
  have hnw := (ab_fit2 (ab_okTs hci f hn))
  have kk : ∀ (H1 : Heap) (locs1 : List Loc), va_P D vwCl ((ab_ws cy ρ G).set a (ρ a, .inr (ci, (ab_fs ρ G ci a).set f (.int x)))) H1 → va_D A ((ab_ws cy ρ G).set a (ρ a, .inr (ci, (ab_fs ρ G ci a).set f (.int x)))) → va_S A s.heap H1 locs1 → W p l e R s m args below meth c H1 locs1 cells slots Q (F0 m (pc + 3) ls (r.map (ab_cv ρ sp))) := by
    intro H1 locs1 q1 q2 q3
    rw [← ab_ws_sIo hk hci hR] at q1 q2
    exact k ρ H1 locs1 cells slots ls (hr.up rfl q1 q2 q3 (ab_cl_sI hr.cl) (ab_So_t (ab_So_t hr.So))) hz hc hs
  rcases (show (ab_T ci f).2.2.2 = false ∨ (ab_T ci f).2.2.2 = true by cases (ab_T ci f).2.2.2 <;> simp) with hff | hff
  · exact va_put (D := D) (ci := ci) (C := ab_own ci) (T := ab_T ci) (N := ab_nf ci) hx hb hts (ab_inW hci) (ab_ty ci) (ab_tyok hci) (ab_nmok hci) hown hK hr.P hr.DD hr.SS a (ab_ws_o ha hk hci) (ab_cl_get hci) f hn (hts _ hw) (fun _ h => h) hff (ab_tyok hci f hn) hnr (hnw.1 x hR hnr) (by rw [ab_fs_len]; exact hn) hd kk
  · rcases hfin with h | ⟨h1, h2⟩
    · rw [h] at hff; cases hff
    · exact va_putF (D := D) (ci := ci) (C := ab_own ci) (T := ab_T ci) (N := ab_nf ci) hx hb hts (ab_inW hci) (ab_ty ci) (ab_tyok hci) (ab_nmok hci) hown hK hr.P hr.DD hr.SS a (ab_ws_o ha hk hci) (ab_cl_get hci) f hn (hts _ hw) (fun _ h => h) hff (hin h1) (by rw [ab_decl hci h0 f hn, h2]) (ab_tyok hci f hn) hnr (hnw.1 x hR hnr) (by rw [ab_fs_len]; exact hn) hd kk
theorem ab_s_putR (hC : ab_Cx p l e R s m args below meth c Q A D cy sp ρ0 z0 z1 t0 I d o scL scX) {i ci f a : Nat} {x : Nat} (hd : decode (mCd I) pc = .ok (.putfield i, 3)) (hf : ab_fR o i = some (ci, f)) (hfin : (ab_T ci f).2.2.2 = false ∨ (ab_ini I = true ∧ ci = o)) (hk : gK G a = ci) (hR : ab_isR (ab_ty ci f) = true) (k : ab_Sem p l e R s m args below meth c Q A D cy sp ρ0 z0 z1 t0 I (pc + 3) L r (sR G a f (some x)) bc bs) : ab_Sem p l e R s m args below meth c Q A D cy sp ρ0 z0 z1 t0 I pc L (.ref x :: .ref a :: r) G bc bs := by
  obtain ⟨hx, hb, hml, hown, hts, hK, hA, hE, hX, hin, hRf, hRl, hz1, ho⟩ := hC
  intro ρ H locs cells slots ls hr hz hc hs
  obtain ⟨hw, hn, hci, h0⟩ := ab_fR_w hf
  have ha : a < gZ G := ab_So_h (ab_So_t hr.So) a rfl
  have hnw := (ab_fit2 (ab_okTs hci f hn))
  have kk : ∀ (H1 : Heap) (locs1 : List Loc), va_P D vwCl ((ab_ws cy ρ G).set a (ρ a, .inr (ci, (ab_fs ρ G ci a).set f (va_rf ((some x).map ρ))))) H1 → va_D A ((ab_ws cy ρ G).set a (ρ a, .inr (ci, (ab_fs ρ G ci a).set f (va_rf ((some x).map ρ))))) → va_S A s.heap H1 locs1 → W p l e R s m args below meth c H1 locs1 cells slots Q (F0 m (pc + 3) ls (r.map (ab_cv ρ sp))) := by
    intro H1 locs1 q1 q2 q3
    rw [← ab_ws_sRo hk hci hR] at q1 q2
    exact k ρ H1 locs1 cells slots ls (hr.up rfl q1 q2 q3 (ab_cl_sR hr.cl (fun r h => by cases h; exact ⟨ab_So_h hr.So x rfl, fun h2 => by omega⟩)) (ab_So_t (ab_So_t hr.So))) hz hc hs
  rcases (show (ab_T ci f).2.2.2 = false ∨ (ab_T ci f).2.2.2 = true by cases (ab_T ci f).2.2.2 <;> simp) with hff | hff
  · exact va_put (D := D) (ci := ci) (C := ab_own ci) (T := ab_T ci) (N := ab_nf ci) hx hb hts (ab_inW hci) (ab_ty ci) (ab_tyok hci) (ab_nmok hci) hown hK hr.P hr.DD hr.SS a (ab_ws_o ha hk hci) (ab_cl_get hci) f hn (hts _ hw) (fun _ h => h) hff (ab_tyok hci f hn) (hnw.2.1 hR (.ref (ρ x)) (Or.inr ⟨_, rfl⟩)).1 (hnw.2.1 hR (.ref (ρ x)) (Or.inr ⟨_, rfl⟩)).2.1 (by rw [ab_fs_len]; exact hn) hd kk
  · rcases hfin with h | ⟨h1, h2⟩
    · rw [h] at hff; cases hff
    · exact va_putF (D := D) (ci := ci) (C := ab_own ci) (T := ab_T ci) (N := ab_nf ci) hx hb hts (ab_inW hci) (ab_ty ci) (ab_tyok hci) (ab_nmok hci) hown hK hr.P hr.DD hr.SS a (ab_ws_o ha hk hci) (ab_cl_get hci) f hn (hts _ hw) (fun _ h => h) hff (hin h1) (by rw [ab_decl hci h0 f hn, h2]) (ab_tyok hci f hn) (hnw.2.1 hR (.ref (ρ x)) (Or.inr ⟨_, rfl⟩)).1 (hnw.2.1 hR (.ref (ρ x)) (Or.inr ⟨_, rfl⟩)).2.1 (by rw [ab_fs_len]; exact hn) hd kk
theorem ab_s_putN (hC : ab_Cx p l e R s m args below meth c Q A D cy sp ρ0 z0 z1 t0 I d o scL scX) {i ci f a : Nat} (hd : decode (mCd I) pc = .ok (.putfield i, 3)) (hf : ab_fR o i = some (ci, f)) (hfin : (ab_T ci f).2.2.2 = false ∨ (ab_ini I = true ∧ ci = o)) (hk : gK G a = ci) (hR : ab_isR (ab_ty ci f) = true) (k : ab_Sem p l e R s m args below meth c Q A D cy sp ρ0 z0 z1 t0 I (pc + 3) L r (sR G a f none) bc bs) : ab_Sem p l e R s m args below meth c Q A D cy sp ρ0 z0 z1 t0 I pc L (.null :: .ref a :: r) G bc bs := by
  obtain ⟨hx, hb, hml, hown, hts, hK, hA, hE, hX, hin, hRf, hRl, hz1, ho⟩ := hC
  intro ρ H locs cells slots ls hr hz hc hs
  obtain ⟨hw, hn, hci, h0⟩ := ab_fR_w hf
  have ha : a < gZ G := ab_So_h (ab_So_t hr.So) a rfl
  have hnw := (ab_fit2 (ab_okTs hci f hn))
  have kk : ∀ (H1 : Heap) (locs1 : List Loc), va_P D vwCl ((ab_ws cy ρ G).set a (ρ a, .inr (ci, (ab_fs ρ G ci a).set f (va_rf ((none : Option Nat).map ρ))))) H1 → va_D A ((ab_ws cy ρ G).set a (ρ a, .inr (ci, (ab_fs ρ G ci a).set f (va_rf ((none : Option Nat).map ρ))))) → va_S A s.heap H1 locs1 → W p l e R s m args below meth c H1 locs1 cells slots Q (F0 m (pc + 3) ls (r.map (ab_cv ρ sp))) := by
    intro H1 locs1 q1 q2 q3
    rw [← ab_ws_sRo hk hci hR] at q1 q2
    exact k ρ H1 locs1 cells slots ls (hr.up rfl q1 q2 q3 (ab_cl_sR hr.cl (fun r h => by cases h)) (ab_So_t (ab_So_t hr.So))) hz hc hs
  rcases (show (ab_T ci f).2.2.2 = false ∨ (ab_T ci f).2.2.2 = true by cases (ab_T ci f).2.2.2 <;> simp) with hff | hff
  · exact va_put (D := D) (ci := ci) (C := ab_own ci) (T := ab_T ci) (N := ab_nf ci) hx hb hts (ab_inW hci) (ab_ty ci) (ab_tyok hci) (ab_nmok hci) hown hK hr.P hr.DD hr.SS a (ab_ws_o ha hk hci) (ab_cl_get hci) f hn (hts _ hw) (fun _ h => h) hff (ab_tyok hci f hn) (hnw.2.1 hR .null (Or.inl rfl)).1 (hnw.2.1 hR .null (Or.inl rfl)).2.1 (by rw [ab_fs_len]; exact hn) hd kk
  · rcases hfin with h | ⟨h1, h2⟩
    · rw [h] at hff; cases hff
    · exact va_putF (D := D) (ci := ci) (C := ab_own ci) (T := ab_T ci) (N := ab_nf ci) hx hb hts (ab_inW hci) (ab_ty ci) (ab_tyok hci) (ab_nmok hci) hown hK hr.P hr.DD hr.SS a (ab_ws_o ha hk hci) (ab_cl_get hci) f hn (hts _ hw) (fun _ h => h) hff (hin h1) (by rw [ab_decl hci h0 f hn, h2]) (ab_tyok hci f hn) (hnw.2.1 hR .null (Or.inl rfl)).1 (hnw.2.1 hR .null (Or.inl rfl)).2.1 (by rw [ab_fs_len]; exact hn) hd kk
theorem ab_s_iaload (hC : ab_Cx p l e R s m args below meth c Q A D cy sp ρ0 z0 z1 t0 I d o scL scX) {a : Nat} {i : Int32} (hd : decode (mCd I) pc = .ok (.iaload, 1)) (hk : gK G a = 14) (hv : vp_in i (gN G a)) (k : ab_Sem p l e R s m args below meth c Q A D cy sp ρ0 z0 z1 t0 I (pc + 1) L (.int (gI G a i.toNatClampNeg) :: r) G bc bs) : ab_Sem p l e R s m args below meth c Q A D cy sp ρ0 z0 z1 t0 I pc L (.int i :: .ref a :: r) G bc bs := by
  obtain ⟨hx, hb, hml, hown, hts, hK, hA, hE, hX, hin, hRf, hRl, hz1, ho⟩ := hC
  intro ρ H locs cells slots ls hr hz hc hs
  have ha : a < gZ G := ab_So_h (ab_So_t hr.So) a rfl
  exact va_iald hx hb hK hr.P a 1 (ab_ws_i ha hk (by omega)) rfl hv hd (k ρ H locs cells slots ls (hr.S (ab_So_c ab_voi (ab_So_t (ab_So_t hr.So)))) hz hc hs)
theorem ab_s_iastore (hC : ab_Cx p l e R s m args below meth c Q A D cy sp ρ0 z0 z1 t0 I d o scL scX) {a : Nat} {i x : Int32} (hd : decode (mCd I) pc = .ok (.iastore, 1)) (hk : gK G a = 14) (hv : vp_in i (gN G a)) (k : ab_Sem p l e R s m args below meth c Q A D cy sp ρ0 z0 z1 t0 I (pc + 1) L r (sI G a i.toNatClampNeg x) bc bs) : ab_Sem p l e R s m args below meth c Q A D cy sp ρ0 z0 z1 t0 I pc L (.int x :: .int i :: .ref a :: r) G bc bs := by
  obtain ⟨hx, hb, hml, hown, hts, hK, hA, hE, hX, hin, hRf, hRl, hz1, ho⟩ := hC
  intro ρ H locs cells slots ls hr hz hc hs
  have ha : a < gZ G := ab_So_h (ab_So_t (ab_So_t hr.So)) a rfl
  refine va_iast hx hb hK hr.P hr.DD hr.SS a 1 (ab_ws_i ha hk (by omega)) rfl hv hd (fun H1 locs1 q1 q2 q3 => ?_)
  rw [← ab_ws_sIa hk (by omega)] at q1 q2
  exact k ρ H1 locs1 cells slots ls (hr.up rfl q1 q2 q3 (ab_cl_sI hr.cl) (ab_So_t (ab_So_t (ab_So_t hr.So)))) hz hc hs
theorem ab_s_scr (hC : ab_Cx p l e R s m args below meth c Q A D cy sp ρ0 z0 z1 t0 I d o scL scX) {u : UInt32} {i : Int32} (hd : decode (mCd I) pc = .ok (.iaload, 1)) (hu : u.toNat = 0) (hv : vp_in i (scL - 1)) (k : ab_Sem p l e R s m args below meth c Q A D cy sp ρ0 z0 z1 t0 I (pc + 1) L (.int (scX i.toNatClampNeg) :: r) G bc bs) : ab_Sem p l e R s m args below meth c Q A D cy sp ρ0 z0 z1 t0 I pc L (.int i :: .float u :: r) G bc bs := by
  obtain ⟨hx, hb, hml, hown, hts, hK, hA, hE, hX, hin, hRf, hRl, hz1, ho⟩ := hC
  intro ρ H locs cells slots ls hr hz hc hs
  rcases hX with h0 | ⟨hX, hbl, hbA⟩
  · rw [h0] at hv
    exact absurd (vp_in_iff.mp hv) (by omega)
  · have hk2 := k ρ H locs cells slots ls (hr.S (ab_So_c ab_voi (ab_So_t (ab_So_t hr.So)))) hz hc hs
    have hcv : ab_cv ρ sp (.float u) = .ref (sp 0) := congrArg (fun n => Value.ref (sp n)) hu
    show W p l e R s m args below meth c H locs cells slots Q (F0 m pc ls (.int i :: ab_cv ρ sp (.float u) :: r.map (ab_cv ρ sp)))
    rw [hcv]
    exact va_sld hx hb hX hbl hbA hr.SS hv hd hk2
theorem ab_s_scrlen (hC : ab_Cx p l e R s m args below meth c Q A D cy sp ρ0 z0 z1 t0 I d o scL scX) {u : UInt32} (hd : decode (mCd I) pc = .ok (.arraylength, 1)) (hu : u.toNat = 0) (hn0 : scL ≠ 0) (k : ab_Sem p l e R s m args below meth c Q A D cy sp ρ0 z0 z1 t0 I (pc + 1) L (.int (Int32.ofNat (scL - 1)) :: r) G bc bs) : ab_Sem p l e R s m args below meth c Q A D cy sp ρ0 z0 z1 t0 I pc L (.float u :: r) G bc bs := by
  obtain ⟨hx, hb, hml, hown, hts, hK, hA, hE, hX, hin, hRf, hRl, hz1, ho⟩ := hC
  intro ρ H locs cells slots ls hr hz hc hs
  rcases hX with h0 | ⟨hX, hbl, hbA⟩
  · exact absurd h0 hn0
  · have hk2 := k ρ H locs cells slots ls (hr.S (ab_So_c ab_voi (ab_So_t hr.So))) hz hc hs
    have hcv : ab_cv ρ sp (.float u) = .ref (sp 0) := congrArg (fun n => Value.ref (sp n)) hu
    show W p l e R s m args below meth c H locs cells slots Q (F0 m pc ls (ab_cv ρ sp (.float u) :: r.map (ab_cv ρ sp)))
    rw [hcv]
    exact va_slen hx hb hX hbl hbA hr.SS hd hk2
theorem ab_s_alen14 (hC : ab_Cx p l e R s m args below meth c Q A D cy sp ρ0 z0 z1 t0 I d o scL scX) {a : Nat} (hd : decode (mCd I) pc = .ok (.arraylength, 1)) (hk : gK G a = 14) (k : ab_Sem p l e R s m args below meth c Q A D cy sp ρ0 z0 z1 t0 I (pc + 1) L (.int (Int32.ofNat (gN G a)) :: r) G bc bs) : ab_Sem p l e R s m args below meth c Q A D cy sp ρ0 z0 z1 t0 I pc L (.ref a :: r) G bc bs := by
  obtain ⟨hx, hb, hml, hown, hts, hK, hA, hE, hX, hin, hRf, hRl, hz1, ho⟩ := hC
  intro ρ H locs cells slots ls hr hz hc hs
  have ha : a < gZ G := ab_So_h hr.So a rfl
  exact va_alen hx hb hK hr.P a 1 (ab_ws_i ha hk (by omega)) (ty := .int) rfl rfl hd (k ρ H locs cells slots ls (hr.S (ab_So_c ab_voi (ab_So_t hr.So))) hz hc hs)
def ab_df (ci : Nat) : List Value := (List.range (ab_nf ci)).map (fun k => if ab_isR (ab_ty ci k) = true then .null else .int 0)
theorem ab_fs_new {ρ G ci n} : ab_fs ρ (gNew G ci n) ci (gZ G) = ab_df ci := by
  unfold ab_fs ab_df
  refine List.map_congr_left (fun k _ => ?_)
  unfold ab_fv
  rw [show gR (gNew G ci n) (gZ G) = fun _ => none from u1_s _ _ _, show gI (gNew G ci n) (gZ G) = fun _ => 0 from u1_s _ _ _]
  rfl
theorem ab_df_get {ci : Nat} (hci : ci < 13) : ∀ j, j < ab_nf ci → defaultValue (ab_ty ci j) = vp_V (ab_df ci) j := by
  intro j hj
  have hq := ab_fit2 (ab_okTs hci j hj)
  have h1 : vp_V (ab_df ci) j = if ab_isR (ab_ty ci j) = true then .null else .int 0 := by
    unfold vp_V ab_df
    rw [List.getD_eq_getElem?_getD]
    simp [hj]
  rw [h1]
  cases hR : ab_isR (ab_ty ci j) with
  | true => exact (hq.2.1 hR .null (Or.inl rfl)).2.2
  | false => exact hq.2.2 hR
theorem ab_Rel.nw {D cy sp A H0 n ρ0 z0 t0 ρ H H1 locs ls L S S' G kd nn q} (h : ab_Rel D cy sp A H0 n ρ0 z0 t0 ρ H locs ls L S G) (hlt : gZ G < 1000000000) (hP : va_P D vwCl (ab_ws cy ρ G ++ [(q, ab_cel cy (u1 ρ (gZ G) q) (gNew G kd nn) (gZ G))]) H1) (hD : va_D A (ab_ws cy ρ G ++ [(q, ab_cel cy (u1 ρ (gZ G) q) (gNew G kd nn) (gZ G))])) (hS : va_S A H0 H1 locs) (hS' : ab_So G S') (hlz : z0 ≤ gZ G) : ab_Rel D cy sp A H0 n ρ0 z0 t0 (u1 ρ (gZ G) q) H1 locs ls L (.ref (gZ G) :: S') (gNew G kd nn) := by
  obtain ⟨h1, h2, h3, h4, h5, h6, h7, h8, h9, h10⟩ := h
  rw [← ab_ws_new h5 hlt] at hP hD
  have hext : ∀ a, a < gZ G → u1 ρ (gZ G) q a = ρ a := fun a ha => u1_n _ _ (by omega)
  refine ⟨h1.ext (fun v hv => ab_cv_ext hext (h6 v hv)), hP, hD, hS, ab_cl_new h5, fun v hv => ab_vo_new (h6 v hv), ab_So_c (fun a ha => ?_) (fun v hv => ab_vo_new (hS' v hv)), Nat.le_succ_of_le h8, fun a ha => ?_, ?_⟩
  · have : gZ G = a := by injection ha
    subst this
    exact Nat.lt_succ_self _
  · rw [hext a (by omega)]
    exact h9 a ha
  · rw [u1_n _ _ (by omega)]
    exact h10
theorem ab_s_new (hC : ab_Cx p l e R s m args below meth c Q A D cy sp ρ0 z0 z1 t0 I d o scL scX) {i ci : Nat} (hd : decode (mCd I) pc = .ok (.new i, 3)) (hcr : ab_cR o i = some ci) (hci : ci < 13) (hb1 : 1 ≤ bc) (hb2 : ab_nf ci ≤ bs) (k : ab_Sem p l e R s m args below meth c Q A D cy sp ρ0 z0 z1 t0 I (pc + 3) L (.ref (gZ G) :: S) (gNew G ci 0) (bc - 1) (bs - ab_nf ci)) : ab_Sem p l e R s m args below meth c Q A D cy sp ρ0 z0 z1 t0 I pc L (S) G bc bs := by
  obtain ⟨hx, hb, hml, hown, hts, hK, hA, hE, hX, hin, hRf, hRl, hz1, ho⟩ := hC
  intro ρ H locs cells slots ls hr hz hc hs
  have hlt : gZ G < 1000000000 := by omega
  have hlz : z0 ≤ gZ G := hr.2.2.2.2.2.2.2.1
  refine va_new (c0 := c) hx hb hts (ab_inW hci) (ab_ty ci) (ab_tyok hci) hown (hts _ (ab_cR_w hcr)) (hts _ (ab_inst hci)) (hts _ (ab_init hci)) hK hr.P hr.DD hr.SS hA (ab_cl_get hci) (ab_df_get hci) (by omega) (by omega) hd (fun q H1 q1 q2 q3 => ?_)
  have hce : ab_cel cy (u1 ρ (gZ G) q) (gNew G ci 0) (gZ G) = .inr (ci, ab_df ci) := by
    rw [ab_cel_o (G := gNew G ci 0) (a := gZ G) (ci := ci) (u1_s _ _ _) hci, ab_fs_new]
  rw [← hce] at q1 q2
  have hk2 := k (u1 ρ (gZ G) q) H1 locs (cells + 1) (slots + ab_nf ci) ls (hr.nw hlt q1 q2 q3 hr.So hlz) (by show gZ G + 1 + (bc - 1) ≤ z1; omega) (by omega) (by omega)
  rw [List.map_cons, ab_map_ext (G := G) (fun a ha => u1_n _ _ (by omega)) hr.So, show ab_cv (u1 ρ (gZ G) q) sp (.ref (gZ G)) = .ref q from congrArg Value.ref (u1_s _ _ _)] at hk2
  exact hk2
theorem ab_s_newa14 (hC : ab_Cx p l e R s m args below meth c Q A D cy sp ρ0 z0 z1 t0 I d o scL scX) {x : Int32} (hd : decode (mCd I) pc = .ok (.newarray .int, 2)) (hn : ¬ x < 0) (hN : x.toNatClampNeg ≤ 60000) (hb1 : 1 ≤ bc) (hb2 : x.toNatClampNeg ≤ bs) (k : ab_Sem p l e R s m args below meth c Q A D cy sp ρ0 z0 z1 t0 I (pc + 2) L (.ref (gZ G) :: r) (gNew G 14 x.toNatClampNeg) (bc - 1) (bs - x.toNatClampNeg)) : ab_Sem p l e R s m args below meth c Q A D cy sp ρ0 z0 z1 t0 I pc L (.int x :: r) G bc bs := by
  obtain ⟨hx, hb, hml, hown, hts, hK, hA, hE, hX, hin, hRf, hRl, hz1, ho⟩ := hC
  intro ρ H locs cells slots ls hr hz hc hs
  have hlt : gZ G < 1000000000 := by omega
  have hlz : z0 ≤ gZ G := hr.2.2.2.2.2.2.2.1
  refine va_newa (atype := .int) hx hb (hts _ (ab_W_of (i := 112) (w := .arrayClass .int) (by decide +kernel) rfl)) (ty := .int) rfl hK hr.P hr.DD hr.SS hA (a0 := (x.toNatClampNeg, .inl (fun _ => 0))) (fun _ => rfl) hn rfl (by simp only [componentBytes]; omega) (by omega) (by omega) hd (fun q cA H1 hK1 q1 q2 q3 => ?_)
  have hcA : cA = cy 14 := by
    have e1 := (hK1.2 5 (cA, .int) rfl).2
    have e2 := (hK.2 1 (cy 14, .int) rfl).2
    exact Option.some.inj ((show s.vm.findClass _ = some cA from e1).symm.trans (show s.vm.findClass _ = some (cy 14) from e2))
  subst hcA
  have hce : ab_cel cy (u1 ρ (gZ G) q) (gNew G 14 x.toNatClampNeg) (gZ G) = .inl (cy 14, x.toNatClampNeg, .inl (fun _ => 0)) := by
    rw [ab_cel_i (G := gNew G 14 x.toNatClampNeg) (a := gZ G) (kd := 14) (u1_s _ _ _) (by omega), show gN (gNew G 14 x.toNatClampNeg) (gZ G) = x.toNatClampNeg from u1_s _ _ _, show gI (gNew G 14 x.toNatClampNeg) (gZ G) = fun _ => 0 from u1_s _ _ _]
  rw [← hce] at q1 q2
  have hk2 := k (u1 ρ (gZ G) q) H1 locs (cells + 1) (slots + x.toNatClampNeg) ls (hr.nw hlt q1 q2 q3 (ab_So_t hr.So) hlz) (by show gZ G + 1 + (bc - 1) ≤ z1; omega) (by omega) (by omega)
  rw [List.map_cons, ab_map_ext (G := G) (fun a ha => u1_n _ _ (by omega)) (ab_So_t hr.So), show ab_cv (u1 ρ (gZ G) q) sp (.ref (gZ G)) = .ref q from congrArg Value.ref (u1_s _ _ _)] at hk2
  exact hk2
theorem ab_s_cast (hC : ab_Cx p l e R s m args below meth c Q A D cy sp ρ0 z0 z1 t0 I d o scL scX) {i ci a : Nat} (hd : decode (mCd I) pc = .ok (.checkcast i, 3)) (hcr : ab_cR o i = some ci) (hk : gK G a = ci) (hci : ci < 13) (k : ab_Sem p l e R s m args below meth c Q A D cy sp ρ0 z0 z1 t0 I (pc + 3) L (.ref a :: r) G bc bs) : ab_Sem p l e R s m args below meth c Q A D cy sp ρ0 z0 z1 t0 I pc L (.ref a :: r) G bc bs := by
  obtain ⟨hx, hb, hml, hown, hts, hK, hA, hE, hX, hin, hRf, hRl, hz1, ho⟩ := hC
  intro ρ H locs cells slots ls hr hz hc hs
  have ha : a < gZ G := ab_So_h hr.So a rfl
  exact va_castS hx hb hown (hts _ (ab_cR_w hcr)) (hK.1 ci _ (ab_cl_get hci)).2 (va_recv hK hr.P (ab_cl_get hci) (ab_ws_o ha hk hci)) hd (k ρ H locs cells slots ls hr hz hc hs)
theorem ab_s_objInit (hC : ab_Cx p l e R s m args below meth c Q A D cy sp ρ0 z0 z1 t0 I d o scL scX) {i a : Nat} (hd : decode (mCd I) pc = .ok (.invokespecial i, 3)) (hl : (Cond.methodLink (ab_own o) i Lib.objectInit).before args s = true) (hcat : ab_cat r ≤ 8) (k : ab_Sem p l e R s m args below meth c Q A D cy sp ρ0 z0 z1 t0 I (pc + 3) L r G bc bs) : ab_Sem p l e R s m args below meth c Q A D cy sp ρ0 z0 z1 t0 I pc L (.ref a :: r) G bc bs := by
  obtain ⟨hx, hb, hml, hown, hts, hK, hA, hE, hX, hin, hRf, hRl, hz1, ho⟩ := hC
  intro ρ H locs cells slots ls hr hz hc hs
  refine W.objInit hx hb hown hl (hts _ (ab_W_of (i := 97) (by decide +kernel) rfl)) (hts _ (ab_W_of (i := 98) (by decide +kernel) rfl)) rfl (by rw [hml]; exact hr.1.1.1) rfl hd (by omega) ?_ ?_
  · have h9 := lv_room (pc := pc) (ls := ls) (rest := Value.ref (ρ a) :: r.map (ab_cv ρ sp)) (m := m) (st := r.map (ab_cv ρ sp)) (by rw [ab_cat_map]; exact hcat)
    have h10 : 2 * (F0 m pc ls (Value.ref (ρ a) :: r.map (ab_cv ρ sp))).monitorRoom + ((r.map (ab_cv ρ sp)).map fun v => v.category).sum ≤ 8 := h9
    show 2 * (F0 m pc ls (Value.ref (ρ a) :: r.map (ab_cv ρ sp))).monitorRoom + ((r.map (ab_cv ρ sp)).map fun v => v.category).sum + 12 ≤ R.locals
    omega
  · exact k ρ H locs cells slots ls (hr.S (ab_So_t hr.So)) hz hc hs
theorem ab_s_mmax (hC : ab_Cx p l e R s m args below meth c Q A D cy sp ρ0 z0 z1 t0 I d o scL scX) {i : Nat} {x y : Int32} (hd : decode (mCd I) pc = .ok (.invokestatic i, 3)) (hl : (Cond.methodLink (ab_own o) i Lib.Math.max.name).before args s = true) (hcat : ab_cat r ≤ 8) (k : ab_Sem p l e R s m args below meth c Q A D cy sp ρ0 z0 z1 t0 I (pc + 3) L (.int (if x < y then y else x) :: r) G bc bs) : ab_Sem p l e R s m args below meth c Q A D cy sp ρ0 z0 z1 t0 I pc L (.int y :: .int x :: r) G bc bs := by
  obtain ⟨hx, hb, hml, hown, hts, hK, hA, hE, hX, hin, hRf, hRl, hz1, ho⟩ := hC
  intro ρ H locs cells slots ls hr hz hc hs
  exact va_mmax hx hb (hml.trans hr.1.1.1.symm) hown hl (hts _ (ab_W_of (i := 553) (by decide +kernel) rfl)) (hts _ (ab_W_of (i := 73) (by decide +kernel) rfl)) (hts _ (ab_W_of (i := 554) (by decide +kernel) rfl)) (by omega) (by rw [ab_cat_map]; omega) (by omega) (by omega) hd (k ρ H locs cells slots ls (hr.S (ab_So_c ab_voi (ab_So_t (ab_So_t hr.So)))) hz hc hs)
theorem ab_s_mmin (hC : ab_Cx p l e R s m args below meth c Q A D cy sp ρ0 z0 z1 t0 I d o scL scX) {i : Nat} {x y : Int32} (hd : decode (mCd I) pc = .ok (.invokestatic i, 3)) (hl : (Cond.methodLink (ab_own o) i Lib.Math.min.name).before args s = true) (hcat : ab_cat r ≤ 8) (k : ab_Sem p l e R s m args below meth c Q A D cy sp ρ0 z0 z1 t0 I (pc + 3) L (.int (if y < x then y else x) :: r) G bc bs) : ab_Sem p l e R s m args below meth c Q A D cy sp ρ0 z0 z1 t0 I pc L (.int y :: .int x :: r) G bc bs := by
  obtain ⟨hx, hb, hml, hown, hts, hK, hA, hE, hX, hin, hRf, hRl, hz1, ho⟩ := hC
  intro ρ H locs cells slots ls hr hz hc hs
  exact va_mmin hx hb (hml.trans hr.1.1.1.symm) hown hl (hts _ (ab_W_of (i := 556) (by decide +kernel) rfl)) (hts _ (ab_W_of (i := 73) (by decide +kernel) rfl)) (hts _ (ab_W_of (i := 557) (by decide +kernel) rfl)) (by omega) (by rw [ab_cat_map]; omega) (by omega) (by omega) hd (k ρ H locs cells slots ls (hr.S (ab_So_c ab_voi (ab_So_t (ab_So_t hr.So)))) hz hc hs)
theorem ab_s_mminl (hC : ab_Cx p l e R s m args below meth c Q A D cy sp ρ0 z0 z1 t0 I d o scL scX) {i : Nat} {x y : Int64} (hd : decode (mCd I) pc = .ok (.invokestatic i, 3)) (hl : (Cond.methodLink (ab_own o) i Lib.MathLoose.min_long.x).before args s = true) (hcat : ab_cat r ≤ 8) (k : ab_Sem p l e R s m args below meth c Q A D cy sp ρ0 z0 z1 t0 I (pc + 3) L (.long (if y < x then y else x) :: r) G bc bs) : ab_Sem p l e R s m args below meth c Q A D cy sp ρ0 z0 z1 t0 I pc L (.long y :: .long x :: r) G bc bs := by
  obtain ⟨hx, hb, hml, hown, hts, hK, hA, hE, hX, hin, hRf, hRl, hz1, ho⟩ := hC
  intro ρ H locs cells slots ls hr hz hc hs
  exact va_mmin_long hx hb (hml.trans hr.1.1.1.symm) hown hl (hts _ (ab_W_of (i := 830) (by decide +kernel) rfl)) (hts _ (ab_W_of (i := 73) (by decide +kernel) rfl)) (hts _ (ab_W_of (i := 831) (by decide +kernel) rfl)) (by omega) (by rw [ab_cat_map]; omega) (by omega) (by omega) hd (k ρ H locs cells slots ls (hr.S (ab_So_c ab_vol (ab_So_t (ab_So_t hr.So)))) hz hc hs)
end SND
