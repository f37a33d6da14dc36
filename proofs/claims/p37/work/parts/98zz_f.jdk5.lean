/-! lists grow: copies -/
theorem jk_any {s : State} {H : Heap} {D : va_G} {cy : Nat → ClassId} {ρ : Nat → Nat} {G : ab_G} (hK : va_K D vwCl (ab_tys cy) s) (hP : va_P D vwCl (ab_ws cy ρ G) H) (hB : ∀ w ∈ ab_B, va_Nw w s) {r : Nat} (hr : r < gZ G) (hk : gK G r < 13) : va_Any "java/lang/Object" s H (ρ r) :=
  va_rAny hK hP (ab_ws_o hr rfl hk) (ab_cl_get hk) (fun comp c0 h1 h2 => vb_asgC (hB _ (jcast _ hk)) comp c0 h1 h2)
/-- a callee that is told the mirror of the arrays of objects -/
def jPre (D : va_G) (cy : Nat → ClassId) (sp : Nat → Nat) (t0 : Nat) (ρ : Nat → Nat) (G : ab_G) (sz mi : Nat) : State → Prop := fun U => ab_Pre D cy sp t0 ρ G sz U ∧ va_Mi "[Ljava/lang/Object;" mi U
theorem va_Mi.one {C : String} {a b : Nat} {U : State} (h1 : va_Mi C a U) (h2 : va_Mi C b U) : a = b := by
  obtain ⟨c1, k1, p1, p2, p3⟩ := h1
  obtain ⟨c2, k2, q1, q2, q3⟩ := h2
  cases p1.symm.trans q1
  cases p2.symm.trans q2
  exact Option.some.inj (p3.symm.trans q3)
section JKE
variable {D : va_G} {cy : Nat → ClassId} {sp ρ : Nat → Nat} {t0 sz : Nat} {G : ab_G}
theorem jblind2 {As : List Value} {mi : Nat} : FrameBlind (va_Pc As (jPre D cy sp t0 ρ G sz mi)) := by
  intro a U g mk q
  obtain ⟨q1, ⟨q2, q3, q4, q5, q6⟩, q7⟩ := q
  exact ⟨q1, ⟨q2, q3, va_K.moved (u := U) (U := U.calling g mk a) (Vm.Alike.refl U.vm) q4, q5, q6.same rfl⟩, va_Mi.moved (u := U) (U := U.calling g mk a) (Vm.Alike.refl U.vm) q7⟩
theorem jk_cpc (l : Launch) {g N mi : Nat} (hg : g < gZ G) (hg16 : gK G g = 16) (hn : gN G g ≤ N) (hN : N ≤ 40) (hz : gZ G < 1000000) (ht0 : ρ 1000000000 = t0) (hcl : ab_cl G) (P : jP) (hP : ∀ ρ1 : Nat → Nat, (∀ b, b < gZ G → ρ1 b = ρ b) → P ρ1 (gB G N (fun j => if j < gN G g then gR G g j else none)) (some (.ref (ρ1 (gZ G))))) (d : Nat) (hd : 2 ≤ d) :
    vx_Met l ⟨"java/util/Arrays", "copyOf", "([Ljava/lang/Object;ILjava/lang/Class;)[Ljava/lang/Object;"⟩ (.code ⟨"java/util/Arrays", "copyOf", "([Ljava/lang/Object;ILjava/lang/Class;)[Ljava/lang/Object;"⟩ cJ7_copyOf_6403c 4 (some (.array (.object "java/lang/Object"))) :: ab_W) { frames := d, cells := 1, slots := 40, locals := 64 * d } (va_Pc [.ref (ρ g), .int (Int32.ofNat N), .ref mi] (jPre D cy sp t0 ρ G sz mi)) (jQ D cy t0 ρ G sz 1 P) jN 1 40 (va_A (ab_ws cy ρ G) sz) := by
  refine vx_ofW (cc := cJ7_copyOf_6403c) (maxL := 4) (ret := some (.array (.object "java/lang/Object"))) (ws' := ab_W) (by decide +kernel) rfl (fun p e s m args below meth c s₁ B hml hex hv => ?_)
  obtain ⟨rfl, ⟨hsz, hP0, hK, hD0, hE⟩, hMi⟩ := hv
  have hts0 := atoms_spec (ws := .code ⟨"java/util/Arrays", "copyOf", "([Ljava/lang/Object;ILjava/lang/Class;)[Ljava/lang/Object;"⟩ cJ7_copyOf_6403c 4 (some (.array (.object "java/lang/Object"))) :: ab_W) B.pre
  subst hsz
  have hC : jCx p { frames := d, cells := 1, slots := 40, locals := 64 * d } s m [.ref (ρ g), .int (Int32.ofNat N), .ref mi].toArray meth c (va_A (ab_ws cy ρ G) s.heap.size) D cy sp t0 ⟨"java/util/Arrays", "copyOf", "([Ljava/lang/Object;ILjava/lang/Class;)[Ljava/lang/Object;"⟩ cJ7_copyOf_6403c 4 d (some (.array (.object "java/lang/Object"))) := ⟨B.exec, B.bytes, hml, findClass_of_methodNamed B.named, fun w hw => hts0 w (List.mem_cons_of_mem _ hw), hK, fun q h => Or.inr h, hE, Nat.le_refl _, Nat.le_refl _, B.returns, (name_of_methodNamed B.named B.method).1, B.notSynchronized⟩
  have hr : jRel D cy (va_A (ab_ws cy ρ G) s.heap.size) s.heap ρ (gZ G) t0 ρ s.heap [] G := ⟨hP0, hD0.self (sz := s.heap.size), va_S.rf, hcl, Nat.le_refl _, fun _ _ => rfl, ht0⟩
  obtain ⟨hx, hb, hml, hown, hts, hK, hA, hE, hRf, hRl, hrt, hnm, hlk⟩ := id hC
  have hl := lv_entry [.ref (ρ g), .int (Int32.ofNat N), .ref mi] (n := 4) (Nat.le_of_ble_eq_true rfl)
  rw [lg_entry_eq]
  generalize (lg_sl [.ref (ρ g), .int (Int32.ofNat N), .ref mi] ++ List.replicate (4 - (lg_sl [.ref (ρ g), .int (Int32.ofNat N), .ref mi]).length) Slot.unset).toArray = ls at hl ⊢
  have hl : lv_has ls 4 [(0, .ref (ρ g)), (1, .int (Int32.ofNat N)), (2, .ref mi)] := hl
  refine lv_aload_n hx hb dJ7_copyOf_6403c_0 rfl (lv_at hl 2 rfl) (va_ldcM hx hb hown (hts _ (ab_W_of (i := 1388) (by decide +kernel) rfl)) hMi dJ7_copyOf_6403c_1 ?_)
  refine lv_acmp_ne (rx := some mi) (ry := some mi) hx hb dJ7_copyOf_6403c_3 (tgt := 13) rfl (fun h => absurd rfl h) (fun _ => ?_)
  refine lv_iload_n hx hb dJ7_copyOf_6403c_6 rfl (lv_at hl 1 rfl) ?_
  refine jnew hC hr rfl (ab_W_of (i := 1390) (by decide +kernel) rfl) dJ7_copyOf_6403c_7 (by omega) (by omega) (Nat.le_refl _) (by show 0 + N ≤ 40; omega) (fun q H1 hr1 => ?_)
  have hg1 : ρ g = u1 ρ (gZ G) q g := (u1_n _ _ (by omega)).symm
  have hag : ∀ b, b < gZ G → u1 ρ (gZ G) q b = ρ b := fun b hb => u1_n _ _ (by omega)
  generalize u1 ρ (gZ G) q = ρ1 at hr1 hg1 hag ⊢
  rw [hg1] at hl
  refine lv_goto hx hb dJ7_copyOf_6403c_10 (tgt := 24) rfl (lv_astore_n hx hb dJ7_copyOf_6403c_24 (i := 3) rfl hl (by decide) rfl (fun ls2 hl2 => ?_))
  have hl2 : lv_has ls2 4 [(3, .ref (ρ1 (gZ G))), (0, .ref (ρ1 g)), (1, .int (Int32.ofNat N)), (2, .ref mi)] := hl2
  have kg : gK (gNew G 16 N) g = 16 := (u1_n _ _ (by omega)).trans hg16
  have kn : gN (gNew G 16 N) g = gN G g := u1_n _ _ (by omega)
  have krf : gR (gNew G 16 N) g = gR G g := u1_n _ _ (by omega)
  have kz : gK (gNew G 16 N) (gZ G) = 16 := u1_s _ _ _
  have knz : gN (gNew G 16 N) (gZ G) = N := u1_s _ _ _
  have krz : gR (gNew G 16 N) (gZ G) = fun _ => none := u1_s _ _ _
  have w1 := ab_ws_q (cy := cy) (ρ := ρ1) (G := gNew G 16 N) (a := g) (show g < gZ G + 1 by omega) kg
  have w2 := ab_ws_q (cy := cy) (ρ := ρ1) (G := gNew G 16 N) (a := gZ G) (show gZ G < gZ G + 1 by omega) kz
  rw [kn, krf] at w1
  rw [knz, krz] at w2
  refine lv_aload_n hx hb dJ7_copyOf_6403c_25 rfl (lv_at hl2 1 rfl) (lv_iconst (v := 0) hx hb dJ7_copyOf_6403c_26 rfl (lv_aload_n hx hb dJ7_copyOf_6403c_27 rfl (lv_at hl2 0 rfl) (lv_iconst (v := 0) hx hb dJ7_copyOf_6403c_28 rfl (lv_aload_n hx hb dJ7_copyOf_6403c_29 rfl (lv_at hl2 1 rfl) ?_))))
  refine va_alen hx hb hK hr1.1 g 3 w1 rfl (v := Int32.ofNat (gN G g)) rfl dJ7_copyOf_6403c_30 (lv_iload_n hx hb dJ7_copyOf_6403c_31 rfl (lv_at hl2 2 rfl) ?_)
  refine va_mmin hx hb (hml.trans hl2.1.symm) hown (hts _ (ab_W_of (i := 1391) (by decide +kernel) rfl)) (hts _ (ab_W_of (i := 556) (by decide +kernel) rfl)) (hts _ (ab_W_of (i := 73) (by decide +kernel) rfl)) (hts _ (ab_W_of (i := 557) (by decide +kernel) rfl)) (by omega) (by show 4 + 13 ≤ 64 * d; omega) (Nat.le_refl _) (by show 0 + N ≤ 40; omega) dJ7_copyOf_6403c_32 ?_
  rw [if_neg (show ¬ Int32.ofNat N < Int32.ofNat (gN G g) by rw [jn_lt (by omega) (by omega)]; omega)]
  have hnat : nativeFrameWords "java/lang/System" "arraycopy" 5 ≤ 40 := by decide +kernel
  refine va_copyM hx hb (hml.trans hl2.1.symm) hown (hts _ (ab_W_of (i := 1392) (by decide +kernel) rfl)) (hts _ (ab_W_of (i := 1394) (by decide +kernel) rfl)) (hts _ (ab_W_of (i := 1393) (by decide +kernel) rfl)) (hts _ (ab_W_of (i := 88) (by decide +kernel) rfl)) hK hr1.1 hr1.2.1 hr1.2.2.1 g (gZ G) 3 3 (E0 := "java/lang/Object") (E1 := "java/lang/Object") w1 w2 rfl rfl (by decide) (by decide) (jn_ge (by omega)) (by rw [jn_cl (by omega)]; show 0 + _ ≤ _; omega) (by rw [jn_cl (by omega)]; show 0 + _ ≤ _; omega) (fun i hi y hy => ?_) (by omega) (by show 0 + _ ≤ 64 * d; omega) dJ7_copyOf_6403c_35 (fun H2 locs2 q1 q2 q3 => ?_)
  · have hy' : (gR G g (0 + i)).map ρ1 = some y := hy
    cases hq : gR G g (0 + i) with
    | none => rw [hq] at hy'; cases hy'
    | some r =>
      rw [hq] at hy'
      cases hy'
      rcases hcl g hg _ r hq with ⟨c1, c2⟩ | ⟨c1, c2⟩
      · exact jk_any hK hr1.1 hE.2.2.2.2.2.2.2.2.2.2.1 (show r < gZ G + 1 by omega) (by rw [show gK (gNew G 16 N) r = gK G r from u1_n _ _ (by omega)]; exact c2 hg16)
      · omega
  have hfn : va_cpy (fun j => (gR G g j).map ρ1) (fun j => ((fun _ => none : Nat → Option Nat) j).map ρ1) (0 : Int32).toNatClampNeg (0 : Int32).toNatClampNeg (Int32.ofNat (gN G g)).toNatClampNeg = fun j => ((fun j => if j < gN G g then gR G g j else none) j).map ρ1 := by
    rw [jn_cl (by omega)]
    funext j
    show (if 0 ≤ j ∧ j < 0 + gN G g then (gR G g (0 + (j - 0))).map ρ1 else none) = Option.map ρ1 (if j < gN G g then gR G g j else none)
    by_cases hj : j < gN G g
    · rw [if_pos ⟨by omega, by omega⟩, if_pos hj, show 0 + (j - 0) = j by omega]
    · rw [if_neg (by omega), if_neg hj]
      rfl
  rw [hfn, ← jws_gB (N := N) (f := fun j => if j < gN G g then gR G g j else none)] at q1 q2
  refine lv_aload_n hx hb dJ7_copyOf_6403c_38 rfl (lv_at hl2 0 rfl) ?_
  refine jaret hC dJ7_copyOf_6403c_39 rfl rfl (Or.inr ⟨_, rfl⟩) (G := gB G N (fun j => if j < gN G g then gR G g j else none)) ⟨q1, q2, q3, jcl_gB hcl (fun k r hk => ?_), show gZ G ≤ gZ G + 1 by omega, fun b hb => hag b hb, hr1.2.2.2.2.2.2⟩ (Nat.le_refl _) (Nat.le_refl _) (by show 0 + N ≤ 40; omega) (hP ρ1 hag)
  by_cases hk' : k < gN G g
  · have hk : (if k < gN G g then gR G g k else none) = some r := hk
    rw [if_pos hk'] at hk
    rcases hcl g hg _ r hk with ⟨c1, c2⟩ | ⟨c1, c2⟩
    · exact ⟨c1, c2 hg16⟩
    · omega
  · have hk : (if k < gN G g then gR G g k else none) = some r := hk
    rw [if_neg hk'] at hk
    cases hk
theorem jk_cpi (l : Launch) {g N : Nat} (hg : g < gZ G) (hg16 : gK G g = 16) (hn : gN G g ≤ N) (hN : N ≤ 40) (hz : gZ G < 1000000) (ht0 : ρ 1000000000 = t0) (hcl : ab_cl G) (P : jP) (hP : ∀ ρ1 : Nat → Nat, (∀ b, b < gZ G → ρ1 b = ρ b) → P ρ1 (gB G N (fun j => if j < gN G g then gR G g j else none)) (some (.ref (ρ1 (gZ G))))) (d : Nat) (hd : 3 ≤ d) : jM l ⟨"java/util/Arrays", "copyOf", "([Ljava/lang/Object;I)[Ljava/lang/Object;"⟩ cJ7_copyOf_1904c 2 (some (.array (.object "java/lang/Object"))) d 1 40 D cy sp t0 ρ G sz [.ref (ρ g), .int (Int32.ofNat N)] P := by
  refine jbody (by decide +kernel) ht0 hcl (by omega) (ab_W_of (i := 1365) (by decide +kernel) rfl) (fun p e s m below meth c hsz hC hr => ?_)
  obtain ⟨hx, hb, hml, hown, hts, hK, hA, hE, hRf, hRl, hrt, hnm, hlk⟩ := id hC
  have hl := lv_entry [.ref (ρ g), .int (Int32.ofNat N)] (n := 2) (Nat.le_of_ble_eq_true rfl)
  rw [lg_entry_eq]
  generalize (lg_sl [.ref (ρ g), .int (Int32.ofNat N)] ++ List.replicate (2 - (lg_sl [.ref (ρ g), .int (Int32.ofNat N)]).length) Slot.unset).toArray = ls at hl ⊢
  obtain ⟨mi, hMi⟩ := hE.2.2.2.2.2.2.2.2.2.2.2.1
  refine lv_aload_n hx hb dJ7_copyOf_1904c_0 rfl (lv_at hl 0 rfl) (lv_iload_n hx hb dJ7_copyOf_1904c_1 rfl (lv_at hl 1 rfl) (lv_aload_n hx hb dJ7_copyOf_1904c_2 rfl (lv_at hl 0 rfl) ?_))
  have hrecv : ∃ cell : Cell, s.heap[ρ g]? = some cell ∧ cell.vm.isStatics = false ∧ s.vm.findClass "[Ljava/lang/Object;" = some cell.cls :=
    ⟨_, hr.1 g _ (ab_ws_q hg hg16), rfl, va_nmO (nm := "[Ljava/lang/Object;") (hK.2 3 (cy 16, .object "java/lang/Object") rfl).2 (by decide +kernel)⟩
  refine va_getC hx hb (hml.trans hl.1.symm) hown (hts _ (ab_W_of (i := 1366) (by decide +kernel) rfl)) (va_Nw.use rfl (hE.2.2.2.2.2.2.2.2.2.2.1 _ (List.mem_append_right _ (List.mem_of_getElem? (i := 13) rfl)))) (hts _ (ab_W_of (i := 1598) (by decide +kernel) rfl)) (hts _ (ab_W_of (i := 1367) (by decide +kernel) rfl)) (hts _ (ab_W_of (i := 1384) (by decide +kernel) rfl)) hMi hrecv (by omega) (by show 2 + 14 ≤ 64 * d; omega) dJ7_copyOf_1904c_3 ?_
  have hM := jk_cpc (D := D) (cy := cy) (sp := sp) (sz := s.heap.size) (mi := mi) l hg hg16 hn hN hz ht0 hcl (fun ρ1 G1 w => (∀ b, b < gZ G → ρ1 b = ρ b) ∧ G1 = gB G N (fun j => if j < gN G g then gR G g j else none) ∧ w = some (.ref (ρ1 (gZ G)))) (fun ρ1 h => ⟨h, rfl, rfl⟩) 2 (Nat.le_refl _)
  refine jafter (mc := 1) (ms := 40) hC (vx_runS (As := [.ref (ρ g), .int (Int32.ofNat N), .ref mi]) (rest := []) (nL := 2) (cc := cJ7_copyOf_1904c) ⟨hx, hb, hml, hown, hts⟩ hM ⟨jcall (k := 3) hC (by omega) (by decide) (ab_W_of (i := 1387) (by decide +kernel) rfl) (ab_W_of (i := 87) (by decide +kernel) rfl) (ab_W_of (i := 1385) (by decide +kernel) rfl) (by decide +kernel) (by decide), hts _ (ab_W_of (i := 1386) (by decide +kernel) rfl)⟩ ⟨jblind2, fun U hU hW => ?_⟩ rfl rfl hl.1 rfl (lv_room (by decide)) dJ7_copyOf_1904c_6 ⟨Nat.le_of_ble_eq_true rfl, Nat.le_of_ble_eq_true rfl⟩) hr (fun ρ' G' v' H1 locs1 hp hr1 e1 e2 e3 => ?_)
  · obtain ⟨j1, j2⟩ := jpre (As := [.ref (ρ g), .int (Int32.ofNat N), .ref mi]) hC hr U hU hW
    exact ⟨j1, j2, va_Mi.moved hW.alike hMi⟩
  · obtain ⟨hag, rfl, rfl⟩ := hp
    exact jaret hC dJ7_copyOf_1904c_9 rfl rfl (Or.inr ⟨_, rfl⟩) hr1 (Nat.le_refl _) (Nat.le_refl _) (Nat.le_refl _) (hP ρ' hag)
end JKE
