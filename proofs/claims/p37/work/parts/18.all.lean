/-! every step of the abstract machine is the machine's; methods meet their contracts at every depth -/
/-- the method's ends -/
def ab_ReP (p : Program) (l : Launch) (e : Env) (R : Room) (s : State) (m : MethodId) (args : Array Value) (below : List Frame) (meth : Method) (c : Code) (Q : State → Prop) (A : Nat → Prop) (D : va_G) (cy : Nat → ClassId) (sp ρ0 : Nat → Nat) (z0 z1 t0 : Nat) (I : ab_Info) (P : ab_Pq) : Prop :=
  ∀ (G : ab_G) (ρ : Nat → Nat) (H : Heap) (locs : List Loc) (cells slots : Nat) (ls : Array Slot) (L : List (Option Value)) (pc : Nat), gZ G ≤ z1 → cells ≤ R.cells → slots ≤ R.slots →
  (∀ (x : Int32) (t : FieldType), decode (mCd I) pc = .ok (.ireturn, 1) → mRt I = some t → narrow t (.int x) = .int x → P G (some (.int x)) → ab_Rel D cy sp A s.heap (mML I) ρ0 z0 t0 ρ H locs ls L [.int x] G → W p l e R s m args below meth c H locs cells slots Q (F0 m pc ls [.int x])) ∧
  (∀ (v : Value) (t : FieldType), decode (mCd I) pc = .ok (.areturn, 1) → mRt I = some t → ab_isR t = true → (v = .null ∨ ∃ a, v = .ref a) → P G (some v) → ab_Rel D cy sp A s.heap (mML I) ρ0 z0 t0 ρ H locs ls L [v] G → W p l e R s m args below meth c H locs cells slots Q (F0 m pc ls [ab_cv ρ sp v])) ∧
  (decode (mCd I) pc = .ok (.return_, 1) → mRt I = none → P G none → ab_Rel D cy sp A s.heap (mML I) ρ0 z0 t0 ρ H locs ls L [] G → W p l e R s m args below meth c H locs cells slots Q (F0 m pc ls []))
/-- 'throw new E("text")' -/
def ab_ThP (p : Program) (l : Launch) (e : Env) (R : Room) (s : State) (m : MethodId) (args : Array Value) (below : List Frame) (meth : Method) (c : Code) (Q : State → Prop) (A : Nat → Prop) (D : va_G) (cy : Nat → ClassId) (sp ρ0 : Nat → Nat) (z0 z1 t0 : Nat) (I : ab_Info) (d o : Nat) (X : ab_Xq) : Prop :=
  ∀ (G : ab_G) (E : String) (ρ : Nat → Nat) (H : Heap) (locs : List Loc) (cells slots : Nat) (ls : Array Slot) (L : List (Option Value)) (S : List Value) (pc ik ic : Nat), ab_cR o ik = none → ab_eR o ik = some (ic, E) → decode (mCd I) pc = .ok (.new ik, 3) → decode (mCd I) (pc + 3) = .ok (.dup, 1) → 8 ≤ d → ab_cat S ≤ 8 → mXt I = [] →
  ((∃ j t, decode (mCd I) (pc + 4) = .ok (.ldc j, 2) ∧ ab_xR o j = some t ∧ decode (mCd I) (pc + 6) = .ok (.invokespecial ic, 3) ∧ decode (mCd I) (pc + 9) = .ok (.athrow, 1)) ∨
   (∃ j t, decode (mCd I) (pc + 4) = .ok (.ldc_w j, 3) ∧ ab_xR o j = some t ∧ decode (mCd I) (pc + 7) = .ok (.invokespecial ic, 3) ∧ decode (mCd I) (pc + 10) = .ok (.athrow, 1))) → X G E → ab_Rel D cy sp A s.heap (mML I) ρ0 z0 t0 ρ H locs ls L S G → gZ G + 1 ≤ z1 → cells + 1 ≤ R.cells → slots + 6 ≤ R.slots → W p l e R s m args below meth c H locs cells slots Q (F0 m pc ls (S.map (ab_cv ρ sp)))
/-- the two calls on the keywords' texts -/
def ab_StP (p : Program) (l : Launch) (e : Env) (R : Room) (s : State) (m : MethodId) (args : Array Value) (below : List Frame) (meth : Method) (c : Code) (Q : State → Prop) (A : Nat → Prop) (D : va_G) (cy : Nat → ClassId) (sp ρ0 : Nat → Nat) (z0 z1 t0 : Nat) (I : ab_Info) (o : Nat) : Prop :=
  ∀ (ρ : Nat → Nat) (G : ab_G) (H : Heap) (locs : List Loc) (cells slots : Nat) (ls : Array Slot) (L : List (Option Value)) (S r : List Value) (pc i u : Nat), decode (mCd I) pc = .ok (.invokevirtual i, 3) → 1 ≤ u → u ≤ 7 → ab_cat r ≤ 8 → cells ≤ R.cells → slots ≤ R.slots → ab_Rel D cy sp A s.heap (mML I) ρ0 z0 t0 ρ H locs ls L S G →
  (ab_mR o i = some 8 → (∀ H1 locs1, H1 = H → va_S A s.heap H1 locs1 → W p l e R s m args below meth c H1 locs1 cells slots Q (F0 m (pc + 3) ls (.int (Int32.ofNat (ab_tx (u - 1)).length) :: r.map (ab_cv ρ sp)))) → W p l e R s m args below meth c H locs cells slots Q (F0 m pc ls (.ref (sp u) :: r.map (ab_cv ρ sp)))) ∧
  (ab_mR o i = some 9 → ∀ x : Int32, vp_in x (ab_tx (u - 1)).length → (∀ H1 locs1, H1 = H → va_S A s.heap H1 locs1 → W p l e R s m args below meth c H1 locs1 cells slots Q (F0 m (pc + 3) ls (.int ((ab_tx (u - 1)).getD x.toNatClampNeg 0) :: r.map (ab_cv ρ sp)))) → W p l e R s m args below meth c H locs cells slots Q (F0 m pc ls (.int x :: .ref (sp u) :: r.map (ab_cv ρ sp))))

section ALL
variable {p : Program} {l : Launch} {e : Env} {R : Room} {s : State} {m : MethodId} {args : Array Value} {below : List Frame} {meth : Method} {c : Code} {Q : State → Prop} {A : Nat → Prop} {D : va_G} {cy : Nat → ClassId} {sp ρ0 : Nat → Nat} {z0 z1 t0 : Nat} {I : ab_Info} {d o scL : Nat} {scX : Nat → Int32} {P : ab_Pq} {X : ab_Xq}
theorem ab_M_ge {y : Nat} {J : ab_Info} (h : ab_M y = some J) : 10 ≤ y := by
  by_cases hy : y < 1000
  · unfold ab_M at h
    rw [Nat.div_eq_of_lt hy] at h
    have h2 : ((ab_ML[0]?).getD [] : List ab_Info)[y % 1000]? = none := rfl
    rw [h2] at h
    cases h
  · omega
set_option maxHeartbeats 4000000 in
theorem ab_step (hC : ab_Cx p l e R s m args below meth c Q A D cy sp ρ0 z0 z1 t0 I d o scL scX) (hM : ∀ y J, ab_M y = some J → ab_Ok l d y J (ab_wd J)) (hMp : ∀ y, 4 ≤ y → y ≤ 7 → ab_Ok l d y (ab_pri y) (ab_wd (ab_pri y))) (hS : ab_OkS l d) (hOu : ab_OuP p l e R s m args below meth c Q A D cy sp ρ0 z0 z1 t0 I X) (hCa : ab_CaP p l e R s m args below meth c Q I) (hRe : ab_ReP p l e R s m args below meth c Q A D cy sp ρ0 z0 z1 t0 I P) (hTh : ab_ThP p l e R s m args below meth c Q A D cy sp ρ0 z0 z1 t0 I d o X) (hSt : ab_StP p l e R s m args below meth c Q A D cy sp ρ0 z0 z1 t0 I o) : ∀ pc L S G bc bs, ab_stp d (ab_Gam d) o I scL scX P X (ab_Sem p l e R s m args below meth c Q A D cy sp ρ0 z0 z1 t0 I) pc L S G bc bs → ab_Sem p l e R s m args below meth c Q A D cy sp ρ0 z0 z1 t0 I pc L S G bc bs := by
  intro pc L S G bc bs h
  unfold ab_stp at h
  cases hd : decode (mCd I) pc with
  | error x => rw [hd] at h; exact h.elim
  | ok q =>
  obtain ⟨ins, len⟩ := q
  rw [hd] at h
  dsimp only at h
  cases ins with
  | aconst_null =>
    dsimp only at h
    obtain ⟨rfl, h⟩ := h
    exact ab_s_null hC hd h
  | aload i =>
    dsimp only at h
    obtain ⟨rfl, h⟩ := h
    split at h
    · rename_i hl
      exact ab_s_aloadR hC hd hl h
    · rename_i hl
      exact ab_s_aloadN hC hd hl h
    · rename_i hl
      exact ab_s_aloadF hC hd hl h
    · exact h.elim
  | aload_n i =>
    dsimp only at h
    obtain ⟨rfl, h⟩ := h
    split at h
    · rename_i hl
      exact ab_s_aload_nR hC hd hl h
    · rename_i hl
      exact ab_s_aload_nN hC hd hl h
    · rename_i hl
      exact ab_s_aload_nF hC hd hl h
    · exact h.elim
  | iload i =>
    dsimp only at h
    obtain ⟨rfl, h⟩ := h
    split at h
    · rename_i hl
      exact ab_s_iload hC hd hl h
    · exact h.elim
  | iload_n i =>
    dsimp only at h
    obtain ⟨rfl, h⟩ := h
    split at h
    · rename_i hl
      exact ab_s_iload_n hC hd hl h
    · exact h.elim
  | lload i =>
    dsimp only at h
    obtain ⟨rfl, h⟩ := h
    split at h
    · rename_i hl
      exact ab_s_lload hC hd hl h
    · exact h.elim
  | lload_n i =>
    dsimp only at h
    obtain ⟨rfl, h⟩ := h
    split at h
    · rename_i hl
      exact ab_s_lload_n hC hd hl h
    · exact h.elim
  | istore i =>
    dsimp only at h
    obtain ⟨rfl, hi, h⟩ := h
    split at h
    · exact ab_s_istore hC hd hi h
    · exact h.elim
  | istore_n i =>
    dsimp only at h
    obtain ⟨rfl, hi, h⟩ := h
    split at h
    · exact ab_s_istore_n hC hd hi h
    · exact h.elim
  | lstore i =>
    dsimp only at h
    obtain ⟨rfl, hi, h⟩ := h
    split at h
    · exact ab_s_lstore hC hd hi h
    · exact h.elim
  | lstore_n i =>
    dsimp only at h
    obtain ⟨rfl, hi, h⟩ := h
    split at h
    · exact ab_s_lstore_n hC hd hi h
    · exact h.elim
  | astore i =>
    dsimp only at h
    obtain ⟨rfl, hi, h⟩ := h
    split at h
    · exact ab_s_astore hC hd hi h
    · exact ab_s_astoreN hC hd hi h
    · exact h.elim
  | astore_n i =>
    dsimp only at h
    obtain ⟨rfl, hi, h⟩ := h
    split at h
    · exact ab_s_astore_n hC hd hi h
    · exact ab_s_astoreN_n hC hd hi h
    · exact h.elim
  | iconst n =>
    dsimp only at h
    obtain ⟨rfl, h⟩ := h
    exact ab_s_iconst hC hd h
  | bipush n =>
    dsimp only at h
    obtain ⟨rfl, h⟩ := h
    exact ab_s_bipush hC hd h
  | sipush n =>
    dsimp only at h
    obtain ⟨rfl, h⟩ := h
    exact ab_s_sipush hC hd h
  | lconst n =>
    dsimp only at h
    obtain ⟨rfl, h⟩ := h
    exact ab_s_lconst hC hd h
  | ldc i =>
    dsimp only at h
    obtain ⟨rfl, h⟩ := h
    split at h
    · rename_i hk
      exact ab_s_ldcI hC hd hk h
    · split at h
      · rename_i hk
        exact ab_s_ldcS hC hd hk h
      · exact h.elim
  | ldc2_w i =>
    dsimp only at h
    obtain ⟨rfl, h⟩ := h
    split at h
    · rename_i hk
      exact ab_s_ldc2 hC hd hk h
    · exact h.elim
  | iinc i n =>
    dsimp only at h
    obtain ⟨rfl, hi, h⟩ := h
    split at h
    · rename_i hl
      exact ab_s_iinc hC hd hl hi h
    · exact h.elim
  | iadd =>
    dsimp only at h
    obtain ⟨rfl, h⟩ := h
    split at h
    · exact ab_s_iadd hC hd h
    · exact h.elim
  | isub =>
    dsimp only at h
    obtain ⟨rfl, h⟩ := h
    split at h
    · exact ab_s_isub hC hd h
    · exact h.elim
  | imul =>
    dsimp only at h
    obtain ⟨rfl, h⟩ := h
    split at h
    · exact ab_s_imul hC hd h
    · exact h.elim
  | iand =>
    dsimp only at h
    obtain ⟨rfl, h⟩ := h
    split at h
    · exact ab_s_iand hC hd h
    · exact h.elim
  | ladd =>
    dsimp only at h
    obtain ⟨rfl, h⟩ := h
    split at h
    · exact ab_s_ladd hC hd h
    · exact h.elim
  | lsub =>
    dsimp only at h
    obtain ⟨rfl, h⟩ := h
    split at h
    · exact ab_s_lsub hC hd h
    · exact h.elim
  | lmul =>
    dsimp only at h
    obtain ⟨rfl, h⟩ := h
    split at h
    · exact ab_s_lmul hC hd h
    · exact h.elim
  | land =>
    dsimp only at h
    obtain ⟨rfl, h⟩ := h
    split at h
    · exact ab_s_land hC hd h
    · exact h.elim
  | lor =>
    dsimp only at h
    obtain ⟨rfl, h⟩ := h
    split at h
    · exact ab_s_lor hC hd h
    · exact h.elim
  | ineg =>
    dsimp only at h
    obtain ⟨rfl, h⟩ := h
    split at h
    · exact ab_s_ineg hC hd h
    · exact h.elim
  | lneg =>
    dsimp only at h
    obtain ⟨rfl, h⟩ := h
    split at h
    · exact ab_s_lneg hC hd h
    · exact h.elim
  | i2l =>
    dsimp only at h
    obtain ⟨rfl, h⟩ := h
    split at h
    · exact ab_s_i2l hC hd h
    · exact h.elim
  | l2i =>
    dsimp only at h
    obtain ⟨rfl, h⟩ := h
    split at h
    · exact ab_s_l2i hC hd h
    · exact h.elim
  | i2c =>
    dsimp only at h
    obtain ⟨rfl, h⟩ := h
    split at h
    · exact ab_s_i2c hC hd h
    · exact h.elim
  | lshl =>
    dsimp only at h
    obtain ⟨rfl, h⟩ := h
    split at h
    · exact ab_s_lshl hC hd h
    · exact h.elim
  | lushr =>
    dsimp only at h
    obtain ⟨rfl, h⟩ := h
    split at h
    · exact ab_s_lushr hC hd h
    · exact h.elim
  | lcmp =>
    dsimp only at h
    obtain ⟨rfl, h⟩ := h
    split at h
    · exact ab_s_lcmp hC hd h
    · exact h.elim
  | idiv =>
    dsimp only at h
    obtain ⟨rfl, h⟩ := h
    split at h
    · exact ab_s_idiv hC hd h.1 h.2
    · exact h.elim
  | irem =>
    dsimp only at h
    obtain ⟨rfl, h⟩ := h
    split at h
    · exact ab_s_irem hC hd h.1 h.2
    · exact h.elim
  | ishr =>
    dsimp only at h
    obtain ⟨rfl, h⟩ := h
    split at h
    · exact ab_s_ishr hC hd h
    · exact h.elim
  | ldiv =>
    dsimp only at h
    obtain ⟨rfl, h⟩ := h
    split at h
    · exact ab_s_ldiv hC hd h.1 h.2
    · exact h.elim
  | lrem =>
    dsimp only at h
    obtain ⟨rfl, h⟩ := h
    split at h
    · exact ab_s_lrem hC hd h.1 h.2
    · exact h.elim
  | dup =>
    dsimp only at h
    obtain ⟨rfl, h⟩ := h
    split at h
    · exact ab_s_dup hC hd h.1 h.2
    · exact h.elim
  | pop =>
    dsimp only at h
    obtain ⟨rfl, h⟩ := h
    split at h
    · exact ab_s_pop hC hd h.1 h.2
    · exact h.elim
  | dup2 =>
    dsimp only at h
    obtain ⟨rfl, h⟩ := h
    split at h
    · exact ab_s_dup2 hC hd h.1 h.2.1 h.2.2
    · exact h.elim
  | goto off =>
    dsimp only at h
    obtain ⟨rfl, h⟩ := h
    exact ab_s_goto hC hd h
  | ifCond cd off =>
    dsimp only at h
    obtain ⟨rfl, hp, h⟩ := h
    split at h
    · cases cd with
      | eq => exact ab_s_if_eq hC hd hp h.1 h.2
      | ne => exact ab_s_if_ne hC hd hp h.1 h.2
      | lt => exact ab_s_if_lt hC hd hp h.1 h.2
      | ge => exact ab_s_if_ge hC hd hp h.1 h.2
      | gt => exact ab_s_if_gt hC hd hp h.1 h.2
      | le => exact ab_s_if_le hC hd hp h.1 h.2
    · exact h.elim
  | if_icmp cd off =>
    dsimp only at h
    obtain ⟨rfl, hp, h⟩ := h
    split at h
    · cases cd with
      | eq => exact ab_s_icmp_eq hC hd hp h.1 h.2
      | ne => exact ab_s_icmp_ne hC hd hp h.1 h.2
      | lt => exact ab_s_icmp_lt hC hd hp h.1 h.2
      | ge => exact ab_s_icmp_ge hC hd hp h.1 h.2
      | gt => exact ab_s_icmp_gt hC hd hp h.1 h.2
      | le => exact ab_s_icmp_le hC hd hp h.1 h.2
    · exact h.elim
  | ifnonnull off =>
    dsimp only at h
    obtain ⟨rfl, h⟩ := h
    split at h
    · exact ab_s_ifnonnull hC hd h
    · exact ab_s_ifnonnullN hC hd h
    · exact h.elim
  | tableswitch df lo hi offs =>
    dsimp only at h
    split at h
    · exact ab_s_tsw hC hd h.1 h.2.1 h.2.2
    · exact h.elim
  | lookupswitch df ps =>
    dsimp only at h
    obtain ⟨hp, h⟩ := h
    split at h
    · exact ab_s_lsw hC hd hp h
    · exact h.elim
  | getfield i =>
    dsimp only at h
    obtain ⟨rfl, h⟩ := h
    split at h
    · rename_i hf
      split at h
      · exact ab_s_getfield hC hd hf h.1 h.2
      · exact h.elim
    · exact h.elim
  | putfield i =>
    dsimp only at h
    obtain ⟨rfl, h⟩ := h
    split at h
    · rename_i hf
      obtain ⟨hfin, h⟩ := h
      split at h
      · exact ab_s_putI hC hd hf hfin h.1 h.2.1 h.2.2.1 h.2.2.2
      · exact ab_s_putR hC hd hf hfin h.1 h.2.1 h.2.2
      · exact ab_s_putN hC hd hf hfin h.1 h.2.1 h.2.2
      · exact h.elim
    · exact h.elim
  | iaload =>
    dsimp only at h
    obtain ⟨rfl, h⟩ := h
    split at h
    · exact ab_s_iaload hC hd h.1 h.2.1 h.2.2
    · exact ab_s_scr hC hd h.1 h.2.1 h.2.2
    · exact h.elim
  | iastore =>
    dsimp only at h
    obtain ⟨rfl, h⟩ := h
    split at h
    · exact ab_s_iastore hC hd h.1 h.2.1 h.2.2
    · exact h.elim
  | arraylength =>
    dsimp only at h
    obtain ⟨rfl, h⟩ := h
    split at h
    · obtain ⟨hk, h⟩ := h
      exact ab_s_alen14 hC hd hk h
    · exact ab_s_scrlen hC hd h.1 h.2.1 h.2.2
    · exact h.elim
  | newarray at' =>
    dsimp only at h
    obtain ⟨rfl, h⟩ := h
    split at h
    · obtain ⟨hn, hN, h1, h2, h⟩ := h
      cases at' with
      | int => exact ab_s_newa14 hC hd hn hN h1 h2 h
      | _ => exact h.elim
    · exact h.elim
  | checkcast i =>
    dsimp only at h
    obtain ⟨rfl, h⟩ := h
    split at h
    · rename_i hk
      split at h
      · exact ab_s_cast hC hd hk h.1 h.2.1 h.2.2
      · exact h.elim
    · exact h.elim
  | new i =>
    dsimp only at h
    obtain ⟨rfl, h⟩ := h
    split at h
    · rename_i hk
      exact ab_s_new hC hd hk h.1 h.2.1 h.2.2.1 h.2.2.2
    · rename_i hk
      split at h
      · rename_i hk2
        obtain ⟨h1, h2, h3, h4, h5, h6, h7, h8⟩ := h
        intro ρ H locs cells slots ls hr hz hc hs
        exact hTh G _ ρ H locs cells slots ls L S pc i _ hk hk2 hd h1 h2 h5 h6 h7 h8 hr (by omega) (by omega) (by omega)
      · exact h.elim
  | invokevirtual i =>
    dsimp only at h
    obtain ⟨rfl, h⟩ := h
    split at h
    · exact h.elim
    · rename_i hk
      exact ab_s_callV hC hOu hCa hd ok5 (hMp 5 (by omega) (by omega)) ((ab_mR_w hk).2 (by omega)) rfl rfl h
    · rename_i hk
      exact ab_s_callV hC hOu hCa hd ok6 (hMp 6 (by omega) (by omega)) ((ab_mR_w hk).2 (by omega)) rfl rfl h
    · rename_i hk
      exact ab_s_callV hC hOu hCa hd ok7 (hMp 7 (by omega) (by omega)) ((ab_mR_w hk).2 (by omega)) rfl rfl h
    · rename_i hk
      split at h
      · rename_i u r
        obtain ⟨h1, h2, h3, h⟩ := h
        intro ρ H locs cells slots ls hr hz hc hs
        exact (hSt ρ G H locs cells slots ls L _ r pc i u.toNat hd h1 h2 h3 (by omega) (by omega) hr).1 hk (fun H1 locs1 e1 e2 => by
          subst e1
          obtain ⟨q1, q2, q3, q4, q5, q6, q7, q8, q9, q10⟩ := hr
          exact h ρ H1 locs1 cells slots ls ⟨q1, q2, q3, e2, q5, q6, ab_So_c ab_voi (ab_So_t q7), q8, q9, q10⟩ hz hc hs)
      · exact h.elim
    · rename_i hk
      split at h
      · rename_i x u r
        obtain ⟨h1, h2, h3, h4, h⟩ := h
        intro ρ H locs cells slots ls hr hz hc hs
        exact (hSt ρ G H locs cells slots ls L _ r pc i u.toNat hd h1 h2 h3 (by omega) (by omega) hr).2 hk x h4 (fun H1 locs1 e1 e2 => by
          subst e1
          obtain ⟨q1, q2, q3, q4, q5, q6, q7, q8, q9, q10⟩ := hr
          exact h ρ H1 locs1 cells slots ls ⟨q1, q2, q3, e2, q5, q6, ab_So_c ab_voi (ab_So_t (ab_So_t q7)), q8, q9, q10⟩ hz hc hs)
      · exact h.elim
    · rename_i y n4 n5 n6 n7 n8 n9 hk
      split at h
      · rename_i J hJ
        obtain ⟨h1, h2, h⟩ := h
        exact ab_s_callV hC hOu hCa hd (ab_M_ok hJ) (hM y J hJ) ((ab_mR_w hk).1 (ab_M_ge hJ) J hJ) h1 h2 h
      · exact h.elim
    · exact h.elim
  | invokespecial i =>
    dsimp only at h
    obtain ⟨rfl, h⟩ := h
    split at h
    · rename_i hk
      split at h
      · exact ab_s_objInit hC hd (hC.2.2.2.2.1 _ ((ab_mR_w hk).2 (by omega))) h.1 h.2
      · exact h.elim
    · rename_i hk
      exact ab_s_callI hC hOu hCa hd ok4 (hMp 4 (by omega) (by omega)) (Or.inl ((ab_mR_w hk).2 (by omega))) rfl rfl h
    · rename_i y n0 n4 hk
      split at h
      · rename_i J hJ
        obtain ⟨h1, h2, h⟩ := h
        exact ab_s_callI hC hOu hCa hd (ab_M_ok hJ) (hM y J hJ) (Or.inl ((ab_mR_w hk).1 (ab_M_ge hJ) J hJ)) h1 h2 h
      · exact h.elim
    · split at h
      · rename_i hk
        split at h
        · rename_i J hJ
          obtain ⟨h1, h2, h⟩ := h
          exact ab_s_callI hC hOu hCa hd (ab_M_ok hJ) (hM _ J hJ) (Or.inr (hC.2.2.2.2.2.2.2.1.2.2.2.2.2.2.2.2.2.1 _ _ _ _ hk hJ)) h1 h2 h
        · exact h.elim
      · exact h.elim
  | invokestatic i =>
    dsimp only at h
    obtain ⟨rfl, h⟩ := h
    split at h
    · rename_i hk
      split at h
      · exact ab_s_mmax hC hd (hC.2.2.2.2.1 _ ((ab_mR_w hk).2 (by omega))) h.1 h.2
      · exact h.elim
    · rename_i hk
      split at h
      · exact ab_s_mmin hC hd (hC.2.2.2.2.1 _ ((ab_mR_w hk).2 (by omega))) h.1 h.2
      · exact h.elim
    · rename_i hk
      split at h
      · exact ab_s_mminl hC hd (hC.2.2.2.2.1 _ ((ab_mR_w hk).2 (by omega))) h.1 h.2
      · exact h.elim
    · rename_i y n1 n2 n3 hk
      split at h
      · rename_i e
        subst e
        split at h
        · obtain ⟨h0, h1, h2, h3, h4, h⟩ := h
          exact ab_s_callAt hC hS hd h0 h1 h2 h3 h4 ((ab_mR_w hk).1 (by decide) _ rfl) h
        · exact h.elim
      · split at h
        · rename_i J hJ
          obtain ⟨h1, h2, h⟩ := h
          exact ab_s_callS hC hOu hCa hd (ab_M_ok hJ) (hM y J hJ) ((ab_mR_w hk).1 (ab_M_ge hJ) J hJ) h1 h2 h
        · exact h.elim
    · exact h.elim
  | ireturn =>
    dsimp only at h
    obtain ⟨rfl, h⟩ := h
    split at h
    · split at h
      · rename_i hk
        intro ρ H locs cells slots ls hr hz hc hs
        exact (hRe G ρ H locs cells slots ls L pc (by omega) (by omega) (by omega)).1 _ _ hd hk h.1 h.2 hr
      · exact h.elim
    · exact h.elim
  | areturn =>
    dsimp only at h
    obtain ⟨rfl, h⟩ := h
    split at h
    · split at h
      · rename_i hk
        intro ρ H locs cells slots ls hr hz hc hs
        exact (hRe G ρ H locs cells slots ls L pc (by omega) (by omega) (by omega)).2.1 _ _ hd hk h.1 (Or.inr ⟨_, rfl⟩) h.2 hr
      · exact h.elim
    · split at h
      · rename_i hk
        intro ρ H locs cells slots ls hr hz hc hs
        exact (hRe G ρ H locs cells slots ls L pc (by omega) (by omega) (by omega)).2.1 _ _ hd hk h.1 (Or.inl rfl) h.2 hr
      · exact h.elim
    · exact h.elim
  | return_ =>
    dsimp only at h
    obtain ⟨rfl, h⟩ := h
    obtain ⟨rfl, hk, h⟩ := h
    intro ρ H locs cells slots ls hr hz hc hs
    exact (hRe G ρ H locs cells slots ls L pc (by omega) (by omega) (by omega)).2.2 hd hk h hr
  | _ => exact h.elim
end ALL
