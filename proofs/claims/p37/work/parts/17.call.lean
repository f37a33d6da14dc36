/-! the machine's calls, and every step -/
def ab_pn (y : Nat) : MethodName := match y with
  | 0 => Lib.objectInit
  | 1 => Lib.Math.max.name
  | 2 => Lib.Math.min.name
  | 3 => Lib.MathLoose.min_long.x
  | 8 => ⟨"java/lang/String", "length", "()I"⟩
  | 9 => ⟨"java/lang/String", "charAt", "(I)C"⟩
  | _ => mNm (ab_pri y)
theorem ab_mT_ok2 : ab_mT.all (fun q => decide (10 ≤ q.2.2.1) || decide (lw_tbl[q.2.2.2]? = some (.methodLink (ab_own q.1) q.2.1 (ab_pn q.2.2.1)))) = true := by decide +kernel
theorem ok4 : ab_ok (ab_pri 4) := ⟨ab_W_of (i := 328) (by decide +kernel) rfl, ab_W_of (i := 72) (by decide +kernel) rfl, (fun h => absurd h (by decide)), (fun _ => ab_W_of (i := 327) (by decide +kernel) rfl), (fun _ h => absurd h (by decide)), rfl, (fun _ => by decide), by decide +kernel, ⟨by decide +kernel, by decide +kernel⟩, by decide +kernel, by decide, (fun h => absurd rfl h), (fun _ => rfl)⟩
theorem ok5 : ab_ok (ab_pri 5) := ⟨ab_W_of (i := 404) (by decide +kernel) rfl, ab_W_of (i := 72) (by decide +kernel) rfl, (fun h => absurd h (by decide)), (fun _ => ab_W_of (i := 402) (by decide +kernel) rfl), (fun _ _ => ab_W_of (i := 403) (by decide +kernel) rfl), rfl, (fun _ => by decide), by decide +kernel, ⟨by decide +kernel, by decide +kernel⟩, by decide +kernel, by decide, (fun h => absurd rfl h), (fun h => absurd h (by decide))⟩
theorem ok6 : ab_ok (ab_pri 6) := ⟨ab_W_of (i := 503) (by decide +kernel) rfl, ab_W_of (i := 72) (by decide +kernel) rfl, (fun h => absurd h (by decide)), (fun _ => ab_W_of (i := 501) (by decide +kernel) rfl), (fun _ _ => ab_W_of (i := 502) (by decide +kernel) rfl), rfl, (fun _ => by decide), by decide +kernel, ⟨by decide +kernel, by decide +kernel⟩, by decide +kernel, by decide, (fun h => absurd rfl h), (fun h => absurd h (by decide))⟩
theorem ok7 : ab_ok (ab_pri 7) := ⟨ab_W_of (i := 1342) (by decide +kernel) rfl, ab_W_of (i := 72) (by decide +kernel) rfl, (fun h => absurd h (by decide)), (fun _ => ab_W_of (i := 1340) (by decide +kernel) rfl), (fun _ _ => ab_W_of (i := 1341) (by decide +kernel) rfl), rfl, (fun _ => by decide), by decide +kernel, ⟨by decide +kernel, by decide +kernel⟩, by decide +kernel, by decide, (fun h => absurd rfl h), (fun h => absurd h (by decide))⟩
theorem ab_mR_w {o i y : Nat} (h : ab_mR o i = some y) : (10 ≤ y → ∀ J, ab_M y = some J → Cond.methodLink (ab_own o) i (mNm J) ∈ ab_W) ∧ (y < 10 → Cond.methodLink (ab_own o) i (ab_pn y) ∈ ab_W) := by
  unfold ab_mR at h
  cases hq : ab_mT.find? (fun q => q.2.1 == i && q.1 == o) with
  | none => rw [hq] at h; cases h
  | some q =>
    rw [hq] at h
    obtain ⟨hm, hp⟩ := ab_find hq
    have h1 := List.all_eq_true.mp ab_mT_ok q hm
    have h2 := List.all_eq_true.mp ab_mT_ok2 q hm
    simp only [Bool.and_eq_true, beq_iff_eq] at hp
    simp only [Option.map_some, Option.some.injEq] at h
    obtain ⟨e3, e4⟩ := hp
    subst h; subst e3; subst e4
    constructor
    · intro hy J hJ
      rw [hJ] at h1
      simp only [Bool.or_eq_true, decide_eq_true_eq] at h1
      rcases h1 with h1 | h1
      · omega
      · exact ab_W_of h1 rfl
    · intro hy
      simp only [Bool.or_eq_true, decide_eq_true_eq] at h2
      rcases h2 with h2 | h2
      · omega
      · exact ab_W_of h2 rfl
theorem ab_hd_n {J : ab_Info} (h : mXt J = []) : ab_hd J = .code (mNm J) (mCd J) (mML J) (mRt J) := by
  unfold ab_hd
  rw [h]
theorem ab_hd_x {J : ab_Info} (h : mXt J ≠ []) : ab_hd J = .codeWith (mNm J) (mCd J) (mML J) (mRt J) (ab_hh J) := by
  unfold ab_hd
  cases hx : mXt J with
  | nil => exact absurd hx h
  | cons a b => rfl
theorem ab_wd_good {J : ab_Info} (h : ab_hd J ∈ ab_W) : GoodIn ab_W (ab_wd J) := by
  intro w hw
  rcases List.mem_cons.mp hw with rfl | hw
  · exact ab_W_good _ h
  · exact ab_W_good _ hw
section STQ
variable {p : Program} {l : Launch} {e : Env} {R : Room} {s : State} {m : MethodId} {args : Array Value} {below : List Frame} {meth : Method} {c : Code} {Q : State → Prop} {A : Nat → Prop} {D : va_G} {cy : Nat → ClassId} {sp ρ0 : Nat → Nat} {z0 z1 t0 : Nat} {I : ab_Info} {d o scL : Nat} {scX : Nat → Int32} {pc : Nat} {L : List (Option Value)} {S r : List Value} {G : ab_G} {bc bs : Nat} {P : ab_Pq} {X : ab_Xq}
theorem ab_sigl {J : ab_Info} (h : (parseMethodDescriptor (mNm J).desc).map (fun q => q.parameters.length) = some (mNa J)) : ∀ sig, parseMethodDescriptor (mNm J).desc = some sig → mNa J = sig.parameters.length := by
  intro sig hs
  rw [hs] at h
  exact (Option.some.inj h).symm
set_option maxRecDepth 8000 in
theorem ab_cb {J : ab_Info} {vs : List Value} {i : Nat} (hC : ab_Cx p l e R s m args below meth c Q A D cy sp ρ0 z0 z1 t0 I d o scL scX) (hok : ab_ok J) (hx0 : mXt J = []) (hlk : Cond.methodLink (ab_own o) i (mNm J) ∈ ab_W) : CallB R s args (ab_own o) i (mNm J) (mCd J) (mML J) (mRt J) (ab_wd J) { frames := d + 4, cells := mMc J vs, slots := mMs J vs, locals := 64 * d + 256 } (mMc J vs) (mMs J vs) (mNa J) := by
  obtain ⟨hx, hb, hml, hown, hts, hK, hA, hE, hX, hin, hRf, hRl, hz1, ho⟩ := hC
  obtain ⟨k1, k2, k3, k4, k5, k6, k7, k8, k9, k10, k11, k12, k13⟩ := hok
  have hh : ab_hd J = .code (mNm J) (mCd J) (mML J) (mRt J) := ab_hd_n hx0
  refine ⟨rfl, rfl, hRf, ?_, pay_in hts (ab_wd_good k1), ?_, hts _ (hh ▸ k1), hts _ k2, k9, ab_sigl k8, hts _ hlk⟩
  · show 8 + (mML J + 11) + (64 * d + 256) ≤ R.locals
    omega
  · rw [← hh]
    exact List.mem_cons_self
/-- what a call owes: its exception is caught here, or goes out -/
def ab_OuP (p : Program) (l : Launch) (e : Env) (R : Room) (s : State) (m : MethodId) (args : Array Value) (below : List Frame) (meth : Method) (c : Code) (Q : State → Prop) (A : Nat → Prop) (D : va_G) (cy : Nat → ClassId) (sp ρ0 : Nat → Nat) (z0 z1 t0 : Nat) (I : ab_Info) (X : ab_Xq) : Prop :=
  ∀ (G : ab_G) (E : String) (ρ : Nat → Nat) (H : Heap) (locs : List Loc) (cells slots : Nat) (ls : Array Slot) (L : List (Option Value)) (pc : Nat) (rest : List Value) (ce : Cell) (q9 : Addr), mXt I = [] → ab_EX E → X G E → ab_Rel D cy sp A s.heap (mML I) ρ0 z0 t0 ρ H locs ls L [] G → H[q9]? = some ce → ce.vm = .none → s.vm.findClass E = some ce.cls → gZ G ≤ z1 → cells ≤ R.cells → slots ≤ R.slots → vx_W p l e R s m args below meth c H locs cells slots Q (F0 m pc ls rest) q9
def ab_CaP (p : Program) (l : Launch) (e : Env) (R : Room) (s : State) (m : MethodId) (args : Array Value) (below : List Frame) (meth : Method) (c : Code) (Q : State → Prop) (I : ab_Info) : Prop :=
  ∀ (E : String) (H : Heap) (locs : List Loc) (cells slots : Nat) (ls : Array Slot) (pc h : Nat) (rest : List Value) (ce : Cell) (q9 : Addr), ab_EX E → ab_hnd (mXt I) pc E = some h → H[q9]? = some ce → ce.vm = .none → s.vm.findClass E = some ce.cls → W p l e R s m args below meth c H locs cells slots Q (F0 m h ls [.ref q9]) → vx_W p l e R s m args below meth c H locs cells slots Q (F0 m pc ls rest) q9
theorem ab_exc_s (hC : ab_Cx p l e R s m args below meth c Q A D cy sp ρ0 z0 z1 t0 I d o scL scX) (hOu : ab_OuP p l e R s m args below meth c Q A D cy sp ρ0 z0 z1 t0 I X) (hCa : ab_CaP p l e R s m args below meth c Q I) {G' : ab_G} {E : String} {ρ' : Nat → Nat} {H1 : Heap} {locs1 : List Loc} {cells slots : Nat} {ls : Array Slot} {rest : List Value} {ce : Cell} {q9 : Addr} (hEX : ab_EX E) (h : ab_exc I (ab_Sem p l e R s m args below meth c Q A D cy sp ρ0 z0 z1 t0 I) X pc L bc bs G' E) (hr : ab_Rel D cy sp A s.heap (mML I) ρ0 z0 t0 ρ' H1 locs1 ls L [] G') (hce : H1[q9]? = some ce) (hcv : ce.vm = .none) (hcl : s.vm.findClass E = some ce.cls) (hz : gZ G' + bc ≤ z1) (hc : cells + bc ≤ R.cells) (hs : slots + bs ≤ R.slots) : vx_W p l e R s m args below meth c H1 locs1 cells slots Q (F0 m pc ls rest) q9 := by
  obtain ⟨hx, hb, hml, hown, hts, hK, hA, hE, hX, hin, hRf, hRl, hz1, ho⟩ := hC
  unfold ab_exc at h
  cases hh : ab_hnd (mXt I) pc E with
  | none =>
    rw [hh] at h
    exact hOu G' E ρ' H1 locs1 cells slots ls L pc rest ce q9 h.1 hEX h.2 hr hce hcv hcl (by omega) (by omega) (by omega)
  | some hp =>
    rw [hh] at h
    refine hCa E H1 locs1 cells slots ls pc hp rest ce q9 hEX hh hce hcv hcl ?_
    dsimp only at h
    split at h
    · rename_i i hd
      refine lv_astore hx hb hd hr.1.has (by have := hr.1.2.1; omega) rfl (fun ls' hl' => ?_)
      exact h.2 ρ' H1 locs1 cells slots ls' (hr.L (ab_LV.kill (f := ab_cv ρ' sp) (ab_cv_cat ρ' sp) hr.1.2.1 hl') (ab_Lo_kill hr.Lo) (fun _ q => by cases q)) hz hc hs
    · rename_i i hd
      refine lv_astore_n hx hb hd rfl hr.1.has (by have := hr.1.2.1; omega) rfl (fun ls' hl' => ?_)
      exact h.2 ρ' H1 locs1 cells slots ls' (hr.L (ab_LV.kill (f := ab_cv ρ' sp) (ab_cv_cat ρ' sp) hr.1.2.1 hl') (ab_Lo_kill hr.Lo) (fun _ q => by cases q)) hz hc hs
    · exact h.elim
theorem ab_len_take {S : List Value} {n a rest} (h : S.drop n = Value.ref a :: rest) : S = S.take n ++ Value.ref a :: rest := by rw [← h, List.take_append_drop]

theorem ab_s_callV {J : ab_Info} {i y : Nat} (hC : ab_Cx p l e R s m args below meth c Q A D cy sp ρ0 z0 z1 t0 I d o scL scX) (hOu : ab_OuP p l e R s m args below meth c Q A D cy sp ρ0 z0 z1 t0 I X) (hCa : ab_CaP p l e R s m args below meth c Q I) (hd : decode (mCd I) pc = .ok (.invokevirtual i, 3)) (hok : ab_ok J) (hOk : ab_Ok l d y J (ab_wd J)) (hlk : Cond.methodLink (ab_own o) i (mNm J) ∈ ab_W) (hst : mSt J = false) (hni : ab_ini J = false) (h : ab_callV (ab_Gam d) I (ab_Sem p l e R s m args below meth c Q A D cy sp ρ0 z0 z1 t0 I) X pc L S y J (mCi J) (mNa J) G bc bs) : ab_Sem p l e R s m args below meth c Q A D cy sp ρ0 z0 z1 t0 I pc L S G bc bs := by
  intro ρ H locs cells slots ls hr hz hc hs
  have hC' := hC
  obtain ⟨hx, hb, hml, hown, hts, hK, hA, hE, hX, hin, hRf, hRl, hz1, ho⟩ := hC'
  unfold ab_callV at h
  split at h
  · rename_i a rest hdr
    obtain ⟨hk, hn, hcat, hm1, hm2, hG⟩ := h
    have hS := ab_len_take hdr
    have hSo : ab_So G (S.take (mNa J) ++ Value.ref a :: rest) := hS ▸ hr.So
    have hrest : ab_So G rest := fun w hw => hSo w (List.mem_append_right _ (List.mem_cons_of_mem _ hw))
    have ha : a < gZ G := hSo (.ref a) (List.mem_append_right _ List.mem_cons_self) a rfl
    have hvs : ab_So G (Value.ref a :: (S.take (mNa J)).reverse) := by
      intro w hw
      rcases List.mem_cons.mp hw with rfl | hw
      · exact hSo _ (List.mem_append_right _ List.mem_cons_self)
      · exact hSo w (List.mem_append_left _ (List.mem_reverse.mp hw))
    obtain ⟨k1, k2, k3, k4, k5, k6, k7, k8, k9, k10, k11, k12, k13⟩ := id hok
    have hx0 : mXt J = [] := by
      by_cases q : mXt J = []
      · exact q
      · have := (k12 q).1
        rw [hst] at this
        cases this
    have hM := hOk D cy sp t0 ρ (Value.ref a :: (S.take (mNa J)).reverse) G _ _ H.size hG hr.cl hvs (by omega) hr.2.2.2.2.2.2.2.2.2
    have hrecv := va_recv hK hr.P (ab_cl_get (k7 hst)) (ab_ws_o ha hk (k7 hst))
    exact ab_after hC (vx_runV (b := ρ a) (C := ab_own (mCi J)) (As := ((S.take (mNa J)).reverse).map (ab_cv ρ sp)) (rest := rest.map (ab_cv ρ sp)) (cells := cells) (slots := slots) (locs := locs) (H := H) (g := F0 m pc ls (S.map (ab_cv ρ sp))) (nL := mML I) (cc := mCd I) ⟨hx, hb, hml, hown, hts⟩ hM ⟨ab_cb hC hok hx0 hlk, hts _ (k4 hst), by have := hts _ (k5 hst hni); rw [k6] at this; exact this⟩ ⟨ab_pre_blind, hrecv, fun U hU hW => ab_pre_at hC hr U hU hW⟩ rfl (by rw [List.length_map, List.length_reverse]; exact hn) hr.1.1.1 (by
      show S.map (ab_cv ρ sp) = _
      rw [← List.map_reverse, List.reverse_reverse]
      conv => lhs; rw [hS]
      rw [List.map_append]
      rfl) (lv_room (by rw [ab_cat_map]; exact hcat)) hd ⟨by omega, by omega⟩) hr hrest hz hc hs hm1 hm2 (fun G' v hp => hp) (fun G' E ρ' H1 locs1 ce q9 e1 e2 e3 e4 e5 e6 e7 => ab_exc_s hC hOu hCa e1 e2 e3 e4 e5 e6 e7 (by omega) (by omega))
  · exact h.elim
set_option maxRecDepth 8000 in
theorem ab_s_callI {J : ab_Info} {i y : Nat} (hC : ab_Cx p l e R s m args below meth c Q A D cy sp ρ0 z0 z1 t0 I d o scL scX) (hOu : ab_OuP p l e R s m args below meth c Q A D cy sp ρ0 z0 z1 t0 I X) (hCa : ab_CaP p l e R s m args below meth c Q I) (hd : decode (mCd I) pc = .ok (.invokespecial i, 3)) (hok : ab_ok J) (hOk : ab_Ok l d y J (ab_wd J)) (hlk : Cond.methodLink (ab_own o) i (mNm J) ∈ ab_W ∨ va_Nw (.methodLinkNest (ab_own o) i (mNm J) "ProgramSchool") s) (hst : mSt J = false) (hni : ab_ini J = true) (h : ab_callV (ab_Gam d) I (ab_Sem p l e R s m args below meth c Q A D cy sp ρ0 z0 z1 t0 I) X pc L S y J (mCi J) (mNa J) G bc bs) : ab_Sem p l e R s m args below meth c Q A D cy sp ρ0 z0 z1 t0 I pc L S G bc bs := by
  intro ρ H locs cells slots ls hr hz hc hs
  have hC' := hC
  obtain ⟨hx, hb, hml, hown, hts, hK, hA, hE, hX, hin, hRf, hRl, hz1, ho⟩ := hC'
  unfold ab_callV at h
  split at h
  · rename_i a rest hdr
    obtain ⟨hk, hn, hcat, hm1, hm2, hG⟩ := h
    have hS := ab_len_take hdr
    have hSo : ab_So G (S.take (mNa J) ++ Value.ref a :: rest) := hS ▸ hr.So
    have hrest : ab_So G rest := fun w hw => hSo w (List.mem_append_right _ (List.mem_cons_of_mem _ hw))
    have hvs : ab_So G (Value.ref a :: (S.take (mNa J)).reverse) := by
      intro w hw
      rcases List.mem_cons.mp hw with rfl | hw
      · exact hSo _ (List.mem_append_right _ List.mem_cons_self)
      · exact hSo w (List.mem_append_left _ (List.mem_reverse.mp hw))
    obtain ⟨k1, k2, k3, k4, k5, k6, k7, k8, k9, k10, k11, k12, k13⟩ := id hok
    have hx0 : mXt J = [] := by
      by_cases q : mXt J = []
      · exact q
      · have := (k12 q).1
        rw [hst] at this
        cases this
    have hM := hOk D cy sp t0 ρ (Value.ref a :: (S.take (mNa J)).reverse) G _ _ H.size hG hr.cl hvs (by omega) hr.2.2.2.2.2.2.2.2.2
    have hnm : (mNm J).name = "<init>" := by
      unfold ab_ini at hni
      exact beq_iff_eq.mp hni
    have hstk : S.map (ab_cv ρ sp) = (((S.take (mNa J)).reverse).map (ab_cv ρ sp)).reverse ++ Value.ref (ρ a) :: rest.map (ab_cv ρ sp) := by
      rw [← List.map_reverse, List.reverse_reverse]
      conv => lhs; rw [hS]
      rw [List.map_append]
      rfl
    rcases hlk with hlk | hlk
    · have hcb := ab_cb (vs := Value.ref a :: (S.take (mNa J)).reverse) hC hok hx0 hlk
      rw [k13 hni] at hcb
      exact ab_after hC (vx_runI (b := ρ a) (As := ((S.take (mNa J)).reverse).map (ab_cv ρ sp)) (nL := mML I) (cc := mCd I) ⟨hx, hb, hml, hown, hts⟩ hM ⟨hcb, hnm, hts _ (k4 hst)⟩ ⟨ab_pre_blind, fun U hU hW => ab_pre_at hC hr U hU hW⟩ rfl (by rw [List.length_map, List.length_reverse]; exact hn) hr.1.1.1 hstk (lv_room (by rw [ab_cat_map]; exact hcat)) hd ⟨by omega, by omega⟩) hr hrest hz hc hs hm1 hm2 (fun G' v hp => hp) (fun G' E ρ' H1 locs1 ce q9 e1 e2 e3 e4 e5 e6 e7 => ab_exc_s hC hOu hCa e1 e2 e3 e4 e5 e6 e7 (by omega) (by omega))
    · have hh : ab_hd J = .code (mNm J) (mCd J) (mML J) (mRt J) := ab_hd_n hx0
      rw [k13 hni] at hh
      exact ab_after hC (vx_runIN (b := ρ a) (host := "ProgramSchool") (As := ((S.take (mNa J)).reverse).map (ab_cv ρ sp)) (nL := mML I) (cc := mCd I) (bytes := mCd J) (maxL := mML J) ⟨hx, hb, hml, hown, hts⟩ hM ⟨⟨⟨rfl, rfl, hRf, by show 8 + (mML J + 11) + (64 * d + 256) ≤ R.locals; omega, pay_in hts (ab_wd_good k1), by rw [← hh]; exact List.mem_cons_self⟩, hts _ (hh ▸ k1), hts _ k2, k9, ab_sigl k8, va_Nw.use rfl hlk⟩, hnm, hts _ (k4 hst)⟩ ⟨ab_pre_blind, fun U hU hW => ab_pre_at hC hr U hU hW⟩ rfl (by rw [List.length_map, List.length_reverse]; exact hn) hr.1.1.1 hstk (lv_room (by rw [ab_cat_map]; exact hcat)) hd ⟨by omega, by omega⟩) hr hrest hz hc hs hm1 hm2 (fun G' v hp => hp) (fun G' E ρ' H1 locs1 ce q9 e1 e2 e3 e4 e5 e6 e7 => ab_exc_s hC hOu hCa e1 e2 e3 e4 e5 e6 e7 (by omega) (by omega))
  · exact h.elim
set_option maxRecDepth 8000 in
theorem ab_s_callS {J : ab_Info} {i y : Nat} (hC : ab_Cx p l e R s m args below meth c Q A D cy sp ρ0 z0 z1 t0 I d o scL scX) (hOu : ab_OuP p l e R s m args below meth c Q A D cy sp ρ0 z0 z1 t0 I X) (hCa : ab_CaP p l e R s m args below meth c Q I) (hd : decode (mCd I) pc = .ok (.invokestatic i, 3)) (hok : ab_ok J) (hOk : ab_Ok l d y J (ab_wd J)) (hlk : Cond.methodLink (ab_own o) i (mNm J) ∈ ab_W) (hst : mSt J = true) (hn : (S.take (mNa J)).length = mNa J) (h : ab_call (ab_Gam d) I (ab_Sem p l e R s m args below meth c Q A D cy sp ρ0 z0 z1 t0 I) X pc L y J (S.take (mNa J)).reverse (S.drop (mNa J)) G bc bs) : ab_Sem p l e R s m args below meth c Q A D cy sp ρ0 z0 z1 t0 I pc L S G bc bs := by
  intro ρ H locs cells slots ls hr hz hc hs
  have hC' := hC
  obtain ⟨hx, hb, hml, hown, hts, hK, hA, hE, hX, hin, hRf, hRl, hz1, ho⟩ := hC'
  obtain ⟨hcat, hm1, hm2, hG⟩ := h
  have hrest : ab_So G (S.drop (mNa J)) := fun w hw => hr.So w (List.mem_of_mem_drop hw)
  have hvs : ab_So G (S.take (mNa J)).reverse := fun w hw => hr.So w (List.mem_of_mem_take (List.mem_reverse.mp hw))
  obtain ⟨k1, k2, k3, k4, k5, k6, k7, k8, k9, k10, k11, k12, k13⟩ := id hok
  have hM := hOk D cy sp t0 ρ (S.take (mNa J)).reverse G _ _ H.size hG hr.cl hvs (by omega) hr.2.2.2.2.2.2.2.2.2
  have hstk : S.map (ab_cv ρ sp) = (((S.take (mNa J)).reverse).map (ab_cv ρ sp)).reverse ++ (S.drop (mNa J)).map (ab_cv ρ sp) := by
    rw [← List.map_reverse, List.reverse_reverse, ← List.map_append, List.take_append_drop]
  by_cases hx0 : mXt J = []
  · exact ab_after hC (vx_runS (As := ((S.take (mNa J)).reverse).map (ab_cv ρ sp)) (nL := mML I) (cc := mCd I) ⟨hx, hb, hml, hown, hts⟩ hM ⟨ab_cb hC hok hx0 hlk, hts _ (k3 hst)⟩ ⟨ab_pre_blind, fun U hU hW => ab_pre_at hC hr U hU hW⟩ rfl (by rw [List.length_map, List.length_reverse]; exact hn) hr.1.1.1 hstk (lv_room (by rw [ab_cat_map]; exact hcat)) hd ⟨by omega, by omega⟩) hr hrest hz hc hs hm1 hm2 (fun G' v hp => hp) (fun G' E ρ' H1 locs1 ce q9 e1 e2 e3 e4 e5 e6 e7 => ab_exc_s hC hOu hCa e1 e2 e3 e4 e5 e6 e7 (by omega) (by omega))
  · have hh : ab_hd J = .codeWith (mNm J) (mCd J) (mML J) (mRt J) (ab_hh J) := ab_hd_x hx0
    exact ab_after hC (vx_runSX (hh := ab_hh J) (bytes := mCd J) (maxL := mML J) (ret := mRt J) (As := ((S.take (mNa J)).reverse).map (ab_cv ρ sp)) (nL := mML I) (cc := mCd I) ⟨hx, hb, hml, hown, hts⟩ hM ⟨⟨rfl, rfl, hRf, by show 8 + (mML J + 11) + (64 * d + 256) ≤ R.locals; omega, pay_in hts (ab_wd_good k1), by rw [← hh]; exact List.mem_cons_self⟩, hts _ (hh ▸ k1), hts _ k2, k9, ab_sigl k8, hts _ hlk, hts _ (k3 hst)⟩ ⟨ab_pre_blind, fun U hU hW => ab_pre_at hC hr U hU hW⟩ rfl (by rw [List.length_map, List.length_reverse]; exact hn) hr.1.1.1 hstk (lv_room (by rw [ab_cat_map]; exact hcat)) hd ⟨by omega, by omega⟩) hr hrest hz hc hs hm1 hm2 (fun G' v hp => hp) (fun G' E ρ' H1 locs1 ce q9 e1 e2 e3 e4 e5 e6 e7 => ab_exc_s hC hOu hCa e1 e2 e3 e4 e5 e6 e7 (by omega) (by omega))
set_option maxRecDepth 8000 in
theorem ab_s_callAt {i : Nat} {y : Int32} {u : UInt32} (hC : ab_Cx p l e R s m args below meth c Q A D cy sp ρ0 z0 z1 t0 I d o scL scX) (hS : ab_OkS l d) (hd : decode (mCd I) pc = .ok (.invokestatic i, 3)) (hu : u.toNat = 0) (hn : scL ≠ 0 ∧ scL ≤ 100000) (hd1 : 1 ≤ d) (hcat : ab_cat r ≤ 8) (hk : 0 ≤ y.toInt) (hlk : Cond.methodLink (ab_own o) i (mNm i13000) ∈ ab_W) (h : ab_Sem p l e R s m args below meth c Q A D cy sp ρ0 z0 z1 t0 I (pc + 3) L (.int (ab_at scL scX y) :: r) G bc bs) : ab_Sem p l e R s m args below meth c Q A D cy sp ρ0 z0 z1 t0 I pc L (.int y :: .float u :: r) G bc bs := by
  intro ρ H locs cells slots ls hr hz hc hs
  have hC' := hC
  obtain ⟨hx, hb, hml, hown, hts, hK, hA, hE, hX, hin, hRf, hRl, hz1, ho⟩ := hC'
  have hrest : ab_So G r := fun w hw => hr.So w (List.mem_cons_of_mem _ (List.mem_cons_of_mem _ hw))
  have hM := hS hd1 D cy sp t0 ρ u y G (fun G' v => G' = G ∧ v = some (.int (ab_at scL scX y))) H.size scL scX hu hn hk ⟨rfl, rfl⟩ hr.cl (by omega) hr.2.2.2.2.2.2.2.2.2
  exact ab_after hC (vx_runS (As := ([.float u, .int y] : List Value).map (ab_cv ρ sp)) (rest := r.map (ab_cv ρ sp)) (nL := mML I) (cc := mCd I) ⟨hx, hb, hml, hown, hts⟩ hM ⟨ab_cb (vs := [.float u, .int y]) hC ok13000 rfl hlk, hts _ (ok13000.2.2.1 rfl)⟩ ⟨ab_preS_blind, fun U hU hW => ab_preS_at hC hr U hU hW⟩ rfl rfl hr.1.1.1 rfl (lv_room (by rw [ab_cat_map]; exact hcat)) hd ⟨by show cells + 0 ≤ R.cells; omega, by show slots + 0 ≤ R.slots; omega⟩) hr hrest hz hc hs (Nat.zero_le _) (Nat.zero_le _) (fun G' v hp => by
    obtain ⟨rfl, rfl⟩ := hp
    exact h) (fun G' E ρ' H1 locs1 ce q9 e1 e2 e3 e4 e5 e6 e7 => e2.elim)
end STQ
