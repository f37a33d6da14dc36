/-! every method of the tables meets its contract, at every depth -/
def ab_StrP (l : Launch) : Prop := ∀ (p : Program) (e : Env) (R : Room) (s : State) (m : MethodId) (args : Array Value) (below : List Frame) (meth : Method) (c : Code) (Q : State → Prop) (A : Nat → Prop) (D : va_G) (cy : Nat → ClassId) (sp ρ0 : Nat → Nat) (z0 z1 t0 : Nat) (I : ab_Info) (d o scL : Nat) (scX : Nat → Int32), ab_Cx p l e R s m args below meth c Q A D cy sp ρ0 z0 z1 t0 I d o scL scX → ab_StP p l e R s m args below meth c Q A D cy sp ρ0 z0 z1 t0 I o
def ab_PriP (l : Launch) : Prop := ∀ d y, 4 ≤ y → y ≤ 7 → ab_Ok l d y (ab_pri y) (ab_wd (ab_pri y))
def ab_CatP (l : Launch) : Prop := ∀ (p : Program) (e : Env) (R : Room) (s : State) (m : MethodId) (args : Array Value) (below : List Frame) (meth : Method) (c : Code) (Q : State → Prop) (A : Nat → Prop) (D : va_G) (cy : Nat → ClassId) (sp ρ0 : Nat → Nat) (z0 z1 t0 : Nat) (I : ab_Info) (d o scL : Nat) (scX : Nat → Int32) (y : MethodName) (ws : Spec) (s₁ : State), ab_Cx p l e R s m args below meth c Q A D cy sp ρ0 z0 z1 t0 I d o scL scX → (∃ y, ab_M y = some I) → o = mCi I → mXt I ≠ [] → BodyLoose p l (mNm I) ws (mCd I) (mML I) (mRt I) e s m args below meth c s₁ → ab_CaP p l e R s m args below meth c Q I
theorem ab_ML_lt : ab_ML.all (fun K => K.all (fun I => decide (mCi I < 14))) = true := by decide +kernel
theorem ab_M_lt {y : Nat} {J : ab_Info} (h : ab_M y = some J) : mCi J < 14 := by
  unfold ab_M at h
  cases hq : ab_ML[y / 1000]? with
  | none => rw [hq] at h; simp at h
  | some K =>
    rw [hq] at h
    have h1 := List.all_eq_true.mp ab_ML_lt K (List.mem_of_getElem? hq)
    have h2 := List.all_eq_true.mp h1 J (List.mem_of_getElem? h)
    exact of_decide_eq_true h2
theorem ab_hnd_nil (pc : Nat) (E : String) : ab_hnd [] pc E = none := rfl
set_option maxHeartbeats 4000000 in
theorem ab_metB (l : Launch) (hl : l.stackTraces = false) (hPri : ab_PriP l) (hStr : ab_StrP l) (hCat : ab_CatP l) (d : Nat) (ih : ∀ y J, ab_M y = some J → ab_Ok l d y J (ab_wd J)) (ihS : ab_OkS l d) (y : Nat) (J : ab_Info) (hJ : ab_M y = some J) (scL : Nat) (scX : Nat → Int32) (D : va_G) (cy : Nat → ClassId) (sp : Nat → Nat) (t0 : Nat) (ρ : Nat → Nat) (vs : List Value) (G : ab_G) (P : ab_Pq) (X : ab_Xq) (sz : Nat) (hlen : (ab_loc vs).length ≤ mML J) (hW : ab_Wp d (ab_Gam d) (mCi J) J scL scX P X 0 (ab_ent (mML J) vs) [] G (mMc J vs) (mMs J vs)) (hcl : ab_cl G) (hvs : ab_So G vs) (hz1 : gZ G + mMc J vs ≤ 700000) (ht0 : ρ 1000000000 = t0) (Pr : State → Prop) (hPr : ∀ U, Pr U → ab_PreS scL scX D cy sp t0 ρ G sz U) :
    vx_Met l (mNm J) (ab_wd J) { frames := d + 1 + 4, cells := mMc J vs, slots := mMs J vs, locals := 64 * (d + 1) + 256 } (va_Pc (vs.map (ab_cv ρ sp)) Pr) (ab_Qc D cy sp t0 ρ G sz (mMc J vs) P) (ab_XC D cy t0 ρ G sz (mMc J vs) X) (mMc J vs) (mMs J vs) (va_A (ab_ws cy ρ G) sz) := by
  have hok := ab_M_ok hJ
  have hlt := ab_M_lt hJ
  obtain ⟨k1, k2, k3, k4, k5, k6, k7, k8, k9, k10, k11, k12, k13⟩ := id hok
  have body : ∀ (p : Program) (e : Env) (s : State) (m : MethodId) (args : Array Value) (below : List Frame) (meth : Method) (c : Code) (s₁ : State), BodyLoose p l (mNm J) (headSpec (ab_wd J) { frames := d + 1 + 4, cells := mMc J vs, slots := mMs J vs, locals := 64 * (d + 1) + 256 }) (mCd J) (mML J) (mRt J) e s m args below meth c s₁ → c.maxLocals = mML J → (mXt J = [] → ∀ x ∈ c.exceptionTable.toList, False) → va_Pc (vs.map (ab_cv ρ sp)) Pr args s →
      W p l e { frames := d + 1 + 4, cells := mMc J vs, slots := mMs J vs, locals := 64 * (d + 1) + 256 } s m args below meth c s.heap [] 0 0 (vx_MQ below (ab_Qc D cy sp t0 ρ G sz (mMc J vs) P) (ab_XC D cy t0 ρ G sz (mMc J vs) X) args s (mMc J vs) (mMs J vs) (va_A (ab_ws cy ρ G) sz)) (entryFrame m args (mML J)) := by
    intro p e s m args below meth c s₁ B hml hex hv
    obtain ⟨rfl, hv⟩ := hv
    obtain ⟨⟨hsz, hP, hK, hD0, hE⟩, hScr⟩ := hPr _ hv
    have hx := B.exec
    have hb := B.bytes
    have hr := B.returns
    have hts0 := atoms_spec (ws := ab_wd J) B.pre
    have hts : ∀ w ∈ ab_W, w.before (vs.map (ab_cv ρ sp)).toArray s = true := fun w hw => hts0 w (List.mem_cons_of_mem _ hw)
    have hown : s.vm.findClass (ab_own (mCi J)) = some m.cls := by rw [← k6]; exact findClass_of_methodNamed B.named
    have hlocks := B.notSynchronized
    have hin : ab_ini J = true → meth.name = "<init>" := by
      intro h
      unfold ab_ini at h
      rw [(name_of_methodNamed B.named B.method).1]
      exact beq_iff_eq.mp h
    subst hsz
    have hD := hD0.self (sz := s.heap.size)
    have hA : ∀ q : Nat, s.heap.size ≤ q → va_A (ab_ws cy ρ G) s.heap.size q := fun q h => Or.inr h
    have hS : va_S (va_A (ab_ws cy ρ G) s.heap.size) s.heap s.heap [] := va_S.rf
    have hC : ab_Cx p l e { frames := d + 1 + 4, cells := mMc J vs, slots := mMs J vs, locals := 64 * (d + 1) + 256 } s m (vs.map (ab_cv ρ sp)).toArray below meth c (vx_MQ below (ab_Qc D cy sp t0 ρ G s.heap.size (mMc J vs) P) (ab_XC D cy t0 ρ G s.heap.size (mMc J vs) X) (vs.map (ab_cv ρ sp)).toArray s (mMc J vs) (mMs J vs) (va_A (ab_ws cy ρ G) s.heap.size)) (va_A (ab_ws cy ρ G) s.heap.size) D cy sp ρ (gZ G) (gZ G + mMc J vs) t0 J d (mCi J) scL scX :=
      ⟨hx, hb, hml, hown, hts, hK, hA, hE, hScr, hin, Nat.le_refl _, Nat.le_refl _, hz1, hlt⟩
    have aft : ∀ {G' : ab_G} {ρ' : Nat → Nat} {H : Heap} {locs : List Loc} {ls : Array Slot} {L : List (Option Value)} {S : List Value} (t : State), ab_Rel D cy sp (va_A (ab_ws cy ρ G) s.heap.size) s.heap (mML J) ρ (gZ G) t0 ρ' H locs ls L S G' → gZ G' ≤ gZ G + mMc J vs → va_P D vwCl (ab_ws cy ρ' G') t.heap → ab_Aft D cy t0 ρ G s.heap.size (mMc J vs) ρ' G' t := by
      intro G' ρ' H locs ls L S t hrel hz hPt
      obtain ⟨h1, h2, h3, h4, h5, h6, h7, h8, h9, h10⟩ := hrel
      exact ⟨hPt, h3, h5, h8, hz, h9, h10⟩
    have hRe : ab_ReP p l e { frames := d + 1 + 4, cells := mMc J vs, slots := mMs J vs, locals := 64 * (d + 1) + 256 } s m (vs.map (ab_cv ρ sp)).toArray below meth c (vx_MQ below (ab_Qc D cy sp t0 ρ G s.heap.size (mMc J vs) P) (ab_XC D cy t0 ρ G s.heap.size (mMc J vs) X) (vs.map (ab_cv ρ sp)).toArray s (mMc J vs) (mMs J vs) (va_A (ab_ws cy ρ G) s.heap.size)) (va_A (ab_ws cy ρ G) s.heap.size) D cy sp ρ (gZ G) (gZ G + mMc J vs) t0 J P := by
      intro G' ρ' H locs cells slots ls L pc hz hc hs
      refine ⟨fun x t hd ht hn hPp hrel => ?_, fun v t hd ht hR hv hPp hrel => ?_, fun hd ht hPp hrel => ?_⟩
      · exact vx_ret (W.widen hc hs (W.zret hx hb (hr.trans ht) hn (fun t' ht' hW' => ⟨⟨some (.int x), G', ρ', rfl, hPp, (fun v h => by cases h; exact ab_voi), aft t' hrel hz (by rw [ht']; exact hrel.P)⟩, hrel.SS.F ht'⟩) hrel.SS.2.2 hd))
      · refine vx_ret (W.widen hc hs (W.aret hx hb (hr.trans ht) ?_ ?_ (fun t' ht' hW' => ⟨⟨some v, G', ρ', rfl, hPp, (fun w h => by cases h; exact hrel.So _ List.mem_cons_self), aft t' hrel hz (by rw [ht']; exact hrel.P)⟩, hrel.SS.F ht'⟩) hrel.SS.2.2 hd))
        · cases t <;> first | exact Or.inl ⟨_, rfl⟩ | exact Or.inr ⟨_, rfl⟩ | cases hR
        · rcases hv with rfl | ⟨a, rfl⟩
          · exact Or.inl rfl
          · exact Or.inr ⟨_, rfl⟩
      · exact vx_ret (W.widen hc hs (W.vret hx hb (hr.trans ht) (fun t' ht' hW' => ⟨⟨none, G', ρ', rfl, hPp, (fun v h => by cases h), aft t' hrel hz (by rw [ht']; exact hrel.P)⟩, hrel.SS.F ht'⟩) hrel.SS.2.2 hd))
    have keepP : ∀ {G' : ab_G} {ρ' : Nat → Nat} {H : Heap} (t : State), va_P D vwCl (ab_ws cy ρ' G') H → (∀ q : Nat, q < H.size → t.heap[q]? = H[q]?) → va_P D vwCl (ab_ws cy ρ' G') t.heap := fun t hPt hk => hPt.kept (fun k q hq => hk q.1 (hPt k q hq).lt)
    have hOu : ab_OuP p l e { frames := d + 1 + 4, cells := mMc J vs, slots := mMs J vs, locals := 64 * (d + 1) + 256 } s m (vs.map (ab_cv ρ sp)).toArray below meth c (vx_MQ below (ab_Qc D cy sp t0 ρ G s.heap.size (mMc J vs) P) (ab_XC D cy t0 ρ G s.heap.size (mMc J vs) X) (vs.map (ab_cv ρ sp)).toArray s (mMc J vs) (mMs J vs) (va_A (ab_ws cy ρ G) s.heap.size)) (va_A (ab_ws cy ρ G) s.heap.size) D cy sp ρ (gZ G) (gZ G + mMc J vs) t0 J X := by
      intro G' E ρ' H locs cells slots ls L pc rest ce q9 hx0 hEX hXX hrel hce hcv hcl2 hz hc hs
      exact vx_out (fun x hx => (hex hx0 x hx).elim) hlocks hce hcv hcl2 (fun t ht hal => ⟨⟨G', ρ', hEX, hXX, aft t hrel hz (by rw [ht]; exact hrel.P)⟩, hrel.SS.F ht⟩) hrel.SS.2.2 hc hs
    have hTh : ab_ThP p l e { frames := d + 1 + 4, cells := mMc J vs, slots := mMs J vs, locals := 64 * (d + 1) + 256 } s m (vs.map (ab_cv ρ sp)).toArray below meth c (vx_MQ below (ab_Qc D cy sp t0 ρ G s.heap.size (mMc J vs) P) (ab_XC D cy t0 ρ G s.heap.size (mMc J vs) X) (vs.map (ab_cv ρ sp)).toArray s (mMc J vs) (mMs J vs) (va_A (ab_ws cy ρ G) s.heap.size)) (va_A (ab_ws cy ρ G) s.heap.size) D cy sp ρ (gZ G) (gZ G + mMc J vs) t0 J d (mCi J) X := by
      intro G' E ρ' H locs cells slots ls L S pc ik ic hck hek hdk hd3 hd8 hcat hx0 hdd hXX hrel hz hc hs
      obtain ⟨ho, hEX, g1, g2, g3, g4, g5, g6⟩ := ab_eT_w hek
      have hown2 : s.vm.findClass RX10 = some m.cls := by
        have := hown
        rw [ho] at this
        exact this
      have hat : ∀ w ∈ vx_atS RX10 ic E ab_nmX, w.before (vs.map (ab_cv ρ sp)).toArray s = true := vx_hat (B := ab_B) (fun w hw => hts w (g4 w hw)) g5 (fun w hw => va_Nw.use (ab_B_on hw) (hE.2.2.2.2.2.2.2.2.2.2.1 w hw))
      have hfin : ∀ t : State, s.vm.Alike t.vm → H.size ≤ t.heap.size → (∀ q : Nat, q < H.size → t.heap[q]? = H[q]?) → ab_XC D cy t0 ρ G s.heap.size (mMc J vs) X E s t := by
        intro t hal h1 h2
        refine ⟨⟨G', ρ', hEX, hXX, aft t hrel (by omega) (keepP t hrel.P h2)⟩, Nat.le_trans hrel.SS.1 h1, fun q q1 q2 => ?_⟩
        rw [h2 q (Nat.lt_of_lt_of_le q1 hrel.SS.1)]
        exact hrel.SS.2.1 q q1 q2
      rcases hdd with ⟨j, tx, d4, hxr, d6, d9⟩ | ⟨j, tx, d4, hxr, d7, d10⟩
      · obtain ⟨sa, hsa⟩ := hE.2.2.1 j tx (by rw [ho] at hxr; exact hxr)
        exact vx_throwS (names := ab_nmX) hx hb hl hown2 g3 (by decide +kernel) (hts _ g1) (hts _ g2) hsa hat g6 hE.1 hE.2.1 hrel.SS (hrel.1.1.1.trans hml.symm) hdk hd3 d4 d6 d9 (fun x hx => (hex hx0 x hx).elim) (by show 2 + 3 < d + 1 + 4; omega) (by rw [ab_cat_map]; show ab_cat S + (13 * (2 + 1) + 43) ≤ 64 * (d + 1) + 256; omega) hc hs hlocks hfin hrel.SS.2.2 hc hs
      · obtain ⟨sa, hsa⟩ := hE.2.2.1 j tx (by rw [ho] at hxr; exact hxr)
        exact vx_throwSW (names := ab_nmX) hx hb hl hown2 g3 (by decide +kernel) (hts _ g1) (hts _ g2) hsa hat g6 hE.1 hE.2.1 hrel.SS (hrel.1.1.1.trans hml.symm) hdk hd3 d4 d7 d10 (fun x hx => (hex hx0 x hx).elim) (by show 2 + 3 < d + 1 + 4; omega) (by rw [ab_cat_map]; show ab_cat S + (13 * (2 + 1) + 43) ≤ 64 * (d + 1) + 256; omega) hc hs hlocks hfin hrel.SS.2.2 hc hs
    have hCa : ab_CaP p l e { frames := d + 1 + 4, cells := mMc J vs, slots := mMs J vs, locals := 64 * (d + 1) + 256 } s m (vs.map (ab_cv ρ sp)).toArray below meth c (vx_MQ below (ab_Qc D cy sp t0 ρ G s.heap.size (mMc J vs) P) (ab_XC D cy t0 ρ G s.heap.size (mMc J vs) X) (vs.map (ab_cv ρ sp)).toArray s (mMc J vs) (mMs J vs) (va_A (ab_ws cy ρ G) s.heap.size)) J := by
      by_cases hx0 : mXt J = []
      · intro E H locs cells slots ls pc h rest ce q9 hEX hh
        rw [hx0, ab_hnd_nil] at hh
        cases hh
      · exact hCat _ _ _ _ _ _ _ _ _ _ _ _ _ _ _ _ _ _ _ _ _ _ _ (mNm J) _ s₁ hC ⟨y, hJ⟩ rfl hx0 B
    have hst := ab_step hC (fun y J h => ih y J h) (fun y h1 h2 => hPri d y h1 h2) ihS hOu hCa hRe hTh (hStr _ _ _ _ _ _ _ _ _ _ _ _ _ _ _ _ _ _ _ _ _ _ _ hC)
    have hfinal := hW (ab_Sem p l e { frames := d + 1 + 4, cells := mMc J vs, slots := mMs J vs, locals := 64 * (d + 1) + 256 } s m (vs.map (ab_cv ρ sp)).toArray below meth c (vx_MQ below (ab_Qc D cy sp t0 ρ G s.heap.size (mMc J vs) P) (ab_XC D cy t0 ρ G s.heap.size (mMc J vs) X) (vs.map (ab_cv ρ sp)).toArray s (mMc J vs) (mMs J vs) (va_A (ab_ws cy ρ G) s.heap.size)) (va_A (ab_ws cy ρ G) s.heap.size) D cy sp ρ (gZ G) (gZ G + mMc J vs) t0 J) hst
    rw [lg_entry_eq]
    exact hfinal ρ s.heap [] 0 0 _ ⟨ab_ent_LV (ab_cv ρ sp) (ab_cv_cat ρ sp) vs (mML J) hlen, hP, hD, hS, hcl, ab_ent_Lo hvs, (fun v h => by cases h), Nat.le_refl _, fun a _ => rfl, ht0⟩ (Nat.le_refl _) (by show 0 + mMc J vs ≤ mMc J vs; omega) (by show 0 + mMs J vs ≤ mMs J vs; omega)
  by_cases hx0 : mXt J = []
  · exact vx_ofW (cc := mCd J) (maxL := mML J) (ret := mRt J) (ws' := ab_W) k10 (by unfold ab_wd; rw [ab_hd_n hx0]) (fun p e s m args below meth c s₁ B hml hex hv => body p e s m args below meth c s₁ B hml (fun _ => hex) hv)
  · exact vx_ofWH (cc := mCd J) (maxL := mML J) (ret := mRt J) (hh := ab_hh J) (ws' := ab_W) k10 (by unfold ab_wd; rw [ab_hd_x hx0]) (fun p e s m args below meth c s₁ B hml hv => body p e s m args below meth c s₁ B hml (fun h => absurd h hx0) hv)
theorem ab_met0 (l : Launch) (hl : l.stackTraces = false) (hPri : ab_PriP l) (hStr : ab_StrP l) (hCat : ab_CatP l) : ∀ d, (∀ y J, ab_M y = some J → ab_Ok l d y J (ab_wd J)) ∧ ab_OkS l d := by
  intro d
  induction d with
  | zero => exact ⟨fun y J hJ D cy sp t0 ρ vs G P X sz hG => absurd hG (fun h => h), fun h => absurd h (by decide)⟩
  | succ d ih =>
    refine ⟨fun y J hJ D cy sp t0 ρ vs G P X sz hG hcl hvs hz1 ht0 => ?_, fun _ D cy sp t0 ρ u k G P sz scL scX hu hn hk hP hcl hz1 ht0 => ?_⟩
    · have hy : ¬ y < 10 := by have := ab_M_ge hJ; omega
      unfold ab_Gam at hG
      rw [if_neg hy, hJ] at hG
      obtain ⟨hlen, hW⟩ := hG
      exact ab_metB l hl hPri hStr hCat d ih.1 ih.2 y J hJ 0 (fun _ => 0) D cy sp t0 ρ vs G P X sz hlen hW hcl hvs hz1 ht0 _ (fun U h => ⟨h, Or.inl rfl⟩)
    · refine ab_metB l hl hPri hStr hCat d ih.1 ih.2 13000 i13000 rfl scL scX D cy sp t0 ρ [.float u, .int k] G P (fun _ _ => False) sz (Nat.le_of_ble_eq_true rfl) ?_ hcl (fun v hv => ?_) hz1 ht0 _ (fun U h => h)
      · exact at_wp hn hu hk hP
      · rcases List.mem_cons.mp hv with rfl | hv
        · exact ab_vof
        · rcases List.mem_cons.mp hv with rfl | hv
          · exact ab_voi
          · cases hv
theorem ab_met (l : Launch) (hl : l.stackTraces = false) (hPri : ab_PriP l) (hStr : ab_StrP l) (hCat : ab_CatP l) : ∀ d y J, ab_M y = some J → ab_Ok l d y J (ab_wd J) := fun d => (ab_met0 l hl hPri hStr hCat d).1
theorem ab_metS (l : Launch) (hl : l.stackTraces = false) (hPri : ab_PriP l) (hStr : ab_StrP l) (hCat : ab_CatP l) (d : Nat) : ab_OkS l d := (ab_met0 l hl hPri hStr hCat d).2
