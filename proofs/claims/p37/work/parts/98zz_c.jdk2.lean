/-! fields of a list, at the machine -/
theorem jn_T {n : Nat} (h : n < 1000) : (Int32.ofNat n).toInt = n := by
  show (nI n).toInt = n
  exact nI_toInt (by omega)
theorem jn_cl {n : Nat} (h : n < 1000) : (Int32.ofNat n).toNatClampNeg = n := by
  show (Int32.ofNat n).toInt.toNat = n
  rw [jn_T h]
  rfl
theorem jn_ge {n : Nat} (h : n < 1000) : ¬ Int32.ofNat n < 0 := by
  rw [Int32.lt_iff_toInt_lt, jn_T h]
  show ¬ (n : Int) < 0
  omega
theorem jn_lt {n k : Nat} (h : n < 1000) (hk : k < 1000) : Int32.ofNat n < Int32.ofNat k ↔ n < k := by
  rw [Int32.lt_iff_toInt_lt, jn_T h, jn_T hk]
  omega
theorem jn_eq {n k : Nat} (h : n < 1000) (hk : k < 1000) : Int32.ofNat n = Int32.ofNat k ↔ n = k := by
  constructor
  · intro e
    have := congrArg Int32.toInt e
    rw [jn_T h, jn_T hk] at this
    omega
  · intro e
    rw [e]
theorem jn_in {j n : Nat} (h : j < n) (hn : n < 1000) : vp_in (Int32.ofNat j) n := by
  unfold vp_in
  rw [jn_cl (by omega)]
  intro q
  rcases q with q | q
  · exact jn_ge (by omega) q
  · omega
theorem jcl_sR {G : ab_G} {a k : Nat} {x : Option Nat} (h : ab_cl G) (hk : gK G a = 0) (hx : ∀ r, x = some r → r < gZ G ∨ r = 1000000000) : ab_cl (sR G a k x) := by
  intro b hb j r hr
  by_cases hba : b = a
  · subst hba
    rw [show gR (sR G b k x) b = fun j => if j = k then x else gR G b j from u2_s _ _ _ _] at hr
    dsimp only at hr
    split at hr
    · rcases hx r hr with q | q
      · exact Or.inl ⟨q, fun h2 => by
          have : gK G b = 16 := h2
          omega⟩
      · exact Or.inr ⟨hk, q⟩
    · exact h b hb j r hr
  · rw [show gR (sR G a k x) b = gR G b from u2_n _ _ _ hba] at hr
    exact h b hb j r hr
theorem ab_ws_q {cy : Nat → ClassId} {ρ : Nat → Nat} {G : ab_G} {a : Nat} (ha : a < gZ G) (h : gK G a = 16) : (ab_ws cy ρ G)[a]? = some (ρ a, .inl (cy 16, gN G a, .inr (.inr (.inr (.inr (fun j => (gR G a j).map ρ)))))) := by
  rw [ab_ws_get cy ρ G ha]
  unfold ab_cel
  rw [h]
  rfl
section JX2
variable {p : Program} {l : Launch} {e : Env} {R : Room} {s : State} {m : MethodId} {args : Array Value} {below : List Frame} {meth : Method} {c : Code} {Q : State → Prop} {A : Nat → Prop} {D : va_G} {cy : Nat → ClassId} {sp ρ0 ρ : Nat → Nat} {z0 t0 : Nat} {y : MethodName} {cc : ByteArray} {n d : Nat} {ret : Option FieldType} {H : Heap} {locs : List _root_.Jvm.Loc} {G : ab_G} {cells slots mc ms pc : Nat} {ls : Array Slot} {rest : List Value}
theorem jget (hC : jCx p R s m args meth c A D cy sp t0 y cc n d ret) (hr : jRel D cy A s.heap ρ0 z0 t0 ρ H locs G) {a f index : Nat} {ref : String} (ha : a < gZ G) (hk : gK G a = 0) (hf : f < 3) (hl : Cond.fieldLink y.cls index ref (TJx4a65c f).2.1 (TJx4a65c f).2.2.1 ∈ ab_W) (hsame : ∀ x, s.fieldFound? (TJx4a65c f).1 (TJx4a65c f).2.1 (TJx4a65c f).2.2.1 = some x → s.fieldFound? ref (TJx4a65c f).2.1 (TJx4a65c f).2.2.1 = some x) (hd : decode cc pc = .ok (.getfield index, 3)) {v : Value} (hv : ab_fv ρ G 0 a f = v)
    (k : W p l e R s m args below meth c H locs cells slots Q (F0 m (pc + 3) ls (v :: rest))) : W p l e R s m args below meth c H locs cells slots Q (F0 m pc ls (.ref (ρ a) :: rest)) := by
  obtain ⟨hx, hb, hml, hown, hts, hK, hA, hE, hRf, hRl, hrt, hnm, hlk⟩ := hC
  exact va_get (D := D) (ci := 0) (C := ab_own 0) (T := ab_T 0) (N := ab_nf 0) hx hb hts (ab_inW (by decide)) hown hK hr.1 a (ab_ws_o ha hk (by decide)) (ab_cl_get (by decide)) f hf (hts _ hl) hsame ((ab_fs_get ρ G 0 a hf).trans (congrArg some hv)) hd k
theorem jputI (hC : jCx p R s m args meth c A D cy sp t0 y cc n d ret) (hr : jRel D cy A s.heap ρ0 z0 t0 ρ H locs G) {a f index : Nat} {ref : String} (ha : a < gZ G) (hk : gK G a = 0) (hf : f < 3) (hR : ab_isR (ab_ty 0 f) = false) (hl : Cond.fieldLink y.cls index ref (TJx4a65c f).2.1 (TJx4a65c f).2.2.1 ∈ ab_W) (hsame : ∀ x, s.fieldFound? (TJx4a65c f).1 (TJx4a65c f).2.1 (TJx4a65c f).2.2.1 = some x → s.fieldFound? ref (TJx4a65c f).2.1 (TJx4a65c f).2.2.1 = some x) (hd : decode cc pc = .ok (.putfield index, 3)) {x : Int32} (hnr : narrow (ab_ty 0 f) (.int x) = .int x) (hff : (TJx4a65c f).2.2.2 = false)
    (k : ∀ (H1 : Heap) (locs1 : List _root_.Jvm.Loc), jRel D cy A s.heap ρ0 z0 t0 ρ H1 locs1 (sI G a f x) → W p l e R s m args below meth c H1 locs1 cells slots Q (F0 m (pc + 3) ls rest)) : W p l e R s m args below meth c H locs cells slots Q (F0 m pc ls (.int x :: .ref (ρ a) :: rest)) := by
  obtain ⟨hx, hb, hml, hown, hts, hK, hA, hE, hRf, hRl, hrt, hnm, hlk⟩ := hC
  have hnw := (ab_fit2 (ab_okTs (ci := 0) (by decide) f hf))
  obtain ⟨h1, h2, h3, h4, h5, h6, h7⟩ := hr
  refine va_put (D := D) (ci := 0) (C := ab_own 0) (T := ab_T 0) (N := ab_nf 0) hx hb hts (ab_inW (by decide)) (ab_ty 0) (ab_tyok (by decide)) (ab_nmok (by decide)) hown hK h1 h2 h3 a (ab_ws_o ha hk (by decide)) (ab_cl_get (by decide)) f hf (hts _ hl) hsame hff (ab_tyok (ci := 0) (by decide) f hf) hnr (hnw.1 x hR hnr) (by rw [ab_fs_len]; exact hf) hd (fun H1 locs1 q1 q2 q3 => ?_)
  rw [← ab_ws_sIo hk (by decide) hR] at q1 q2
  exact k H1 locs1 ⟨q1, q2, q3, ab_cl_sI h4, h5, h6, h7⟩
theorem jputR (hC : jCx p R s m args meth c A D cy sp t0 y cc n d ret) (hr : jRel D cy A s.heap ρ0 z0 t0 ρ H locs G) {a index : Nat} (ha : a < gZ G) (hk : gK G a = 0) (hl : Cond.fieldLink y.cls index "java/util/ArrayList" "elementData" "[Ljava/lang/Object;" ∈ ab_W) (hd : decode cc pc = .ok (.putfield index, 3)) {x : Nat} (hx0 : x < gZ G ∨ x = 1000000000)
    (k : ∀ (H1 : Heap) (locs1 : List _root_.Jvm.Loc), jRel D cy A s.heap ρ0 z0 t0 ρ H1 locs1 (sR G a 1 (some x)) → W p l e R s m args below meth c H1 locs1 cells slots Q (F0 m (pc + 3) ls rest)) : W p l e R s m args below meth c H locs cells slots Q (F0 m pc ls (.ref (ρ x) :: .ref (ρ a) :: rest)) := by
  obtain ⟨hx, hb, hml, hown, hts, hK, hA, hE, hRf, hRl, hrt, hnm, hlk⟩ := hC
  have hnw := (ab_fit2 (ab_okTs (ci := 0) (by decide) 1 (by decide)))
  obtain ⟨h1, h2, h3, h4, h5, h6, h7⟩ := hr
  refine va_put (D := D) (ci := 0) (C := ab_own 0) (T := ab_T 0) (N := ab_nf 0) hx hb hts (ab_inW (by decide)) (ab_ty 0) (ab_tyok (by decide)) (ab_nmok (by decide)) hown hK h1 h2 h3 a (ab_ws_o ha hk (by decide)) (ab_cl_get (by decide)) 1 (by decide) (hts _ hl) (fun _ h => h) rfl (ab_tyok (ci := 0) (by decide) 1 (by decide)) (hnw.2.1 rfl (.ref (ρ x)) (Or.inr ⟨_, rfl⟩)).1 (hnw.2.1 rfl (.ref (ρ x)) (Or.inr ⟨_, rfl⟩)).2.1 (by rw [ab_fs_len]; decide) hd (fun H1 locs1 q1 q2 q3 => ?_)
  rw [show (Value.ref (ρ x)) = va_rf ((some x).map ρ) from rfl, ← ab_ws_sRo hk (by decide) rfl] at q1 q2
  exact k H1 locs1 ⟨q1, q2, q3, jcl_sR h4 hk (fun r hr => by cases hr; exact hx0), h5, h6, h7⟩
end JX2
section JKB
variable {D : va_G} {cy : Nat → ClassId} {sp ρ : Nat → Nat} {t0 sz : Nat} {G : ab_G}
theorem jk_size (l : Launch) {a : Nat} (ha : a < gZ G) (hk : gK G a = 0) (ht0 : ρ 1000000000 = t0) (hcl : ab_cl G) (P : jP) (hP : P ρ G (some (.int (gI G a 2)))) (d : Nat) (hd : 1 ≤ d) : jM l ⟨"java/util/ArrayList", "size", "()I"⟩ cJx4a65c_size_8abf5 1 (some .int) d 0 0 D cy sp t0 ρ G sz [.ref (ρ a)] P := by
  refine jbody (by decide +kernel) ht0 hcl hd (ab_W_of (i := 404) (by decide +kernel) rfl) (fun p e s m below meth c hsz hC hr => ?_)
  obtain ⟨hx, hb, hml, hown, hts, hK, hA, hE, hRf, hRl, hrt, hnm, hlk⟩ := id hC
  have hl := lv_entry [.ref (ρ a)] (n := 1) (Nat.le_of_ble_eq_true rfl)
  rw [lg_entry_eq]
  generalize (lg_sl [.ref (ρ a)] ++ List.replicate (1 - (lg_sl [.ref (ρ a)]).length) Slot.unset).toArray = ls at hl ⊢
  refine lv_aload_n hx hb dJx4a65c_size_8abf5_0 rfl (lv_at hl 0 rfl) (jget hC hr (f := 2) ha hk (by decide) (ab_W_of (i := 339) (by decide +kernel) rfl) (fun _ h => h) dJx4a65c_size_8abf5_1 rfl ?_)
  exact jiret hC dJx4a65c_size_8abf5_4 rfl rfl hr (Nat.le_refl _) (Nat.le_refl _) (Nat.le_refl _) hP
theorem jk_elem (l : Launch) {a g j v : Nat} (ha : a < gZ G) (hk : gK G a = 0) (he : gR G a 1 = some g) (hg : g < gZ G) (hg16 : gK G g = 16) (hj : j < gN G g) (hn : gN G g < 1000) (hv : gR G g j = some v) (ht0 : ρ 1000000000 = t0) (hcl : ab_cl G) (P : jP) (hP : P ρ G (some (.ref (ρ v)))) (d : Nat) (hd : 1 ≤ d) : jM l ⟨"java/util/ArrayList", "elementData", "(I)Ljava/lang/Object;"⟩ cJx4a65c_elementData_915e3 2 (some (.object "java/lang/Object")) d 0 0 D cy sp t0 ρ G sz [.ref (ρ a), .int (Int32.ofNat j)] P := by
  refine jbody (by decide +kernel) ht0 hcl hd (ab_W_of (i := 513) (by decide +kernel) rfl) (fun p e s m below meth c hsz hC hr => ?_)
  obtain ⟨hx, hb, hml, hown, hts, hK, hA, hE, hRf, hRl, hrt, hnm, hlk⟩ := id hC
  have hl := lv_entry [.ref (ρ a), .int (Int32.ofNat j)] (n := 2) (Nat.le_of_ble_eq_true rfl)
  rw [lg_entry_eq]
  generalize (lg_sl [.ref (ρ a), .int (Int32.ofNat j)] ++ List.replicate (2 - (lg_sl [.ref (ρ a), .int (Int32.ofNat j)]).length) Slot.unset).toArray = ls at hl ⊢
  refine lv_aload_n hx hb dJx4a65c_elementData_915e3_0 rfl (lv_at hl 0 rfl) (jget hC hr (f := 1) (v := .ref (ρ g)) ha hk (by decide) (ab_W_of (i := 338) (by decide +kernel) rfl) (fun _ h => h) dJx4a65c_elementData_915e3_1 (by
    show va_rf ((gR G a 1).map ρ) = _
    rw [he]
    rfl) ?_)
  refine lv_iload_n hx hb dJx4a65c_elementData_915e3_4 rfl (lv_at hl 1 rfl) (va_aldq (C := "java/lang/Object") hx hb hK hr.1 g 3 (ab_ws_q hg hg16) rfl (jn_in hj hn) dJx4a65c_elementData_915e3_5 ?_)
  rw [jn_cl (by omega), hv]
  exact jaret hC dJx4a65c_elementData_915e3_6 rfl rfl (Or.inr ⟨_, rfl⟩) hr (Nat.le_refl _) (Nat.le_refl _) (Nat.le_refl _) hP
theorem jk_get (l : Launch) {a g j v n : Nat} (ha : a < gZ G) (hk : gK G a = 0) (he : gR G a 1 = some g) (hg : g < gZ G) (hg16 : gK G g = 16) (hs : gI G a 2 = Int32.ofNat n) (hjn : j < n) (hnc : n ≤ gN G g) (hn : gN G g < 1000) (hv : gR G g j = some v) (ht0 : ρ 1000000000 = t0) (hcl : ab_cl G) (P : jP) (hP : P ρ G (some (.ref (ρ v)))) (d : Nat) (hd : 3 ≤ d) : jM l ⟨"java/util/ArrayList", "get", "(I)Ljava/lang/Object;"⟩ cJx4a65c_get_915e3 2 (some (.object "java/lang/Object")) d 0 0 D cy sp t0 ρ G sz [.ref (ρ a), .int (Int32.ofNat j)] P := by
  refine jbody (by decide +kernel) ht0 hcl (by omega) (ab_W_of (i := 503) (by decide +kernel) rfl) (fun p e s m below meth c hsz hC hr => ?_)
  obtain ⟨hx, hb, hml, hown, hts, hK, hA, hE, hRf, hRl, hrt, hnm, hlk⟩ := id hC
  have hl := lv_entry [.ref (ρ a), .int (Int32.ofNat j)] (n := 2) (Nat.le_of_ble_eq_true rfl)
  rw [lg_entry_eq]
  generalize (lg_sl [.ref (ρ a), .int (Int32.ofNat j)] ++ List.replicate (2 - (lg_sl [.ref (ρ a), .int (Int32.ofNat j)]).length) Slot.unset).toArray = ls at hl ⊢
  refine lv_iload_n hx hb dJx4a65c_get_915e3_0 rfl (lv_at hl 1 rfl) (lv_aload_n hx hb dJx4a65c_get_915e3_1 rfl (lv_at hl 0 rfl) (jget hC hr (f := 2) (v := .int (Int32.ofNat n)) ha hk (by decide) (ab_W_of (i := 339) (by decide +kernel) rfl) (fun _ h => h) dJx4a65c_get_915e3_2 (by
    show Value.int (gI G a 2) = _
    rw [hs]) ?_))
  have hM := jk_obj (D := D) (cy := cy) (sp := sp) (sz := s.heap.size) l (jn_ge (n := j) (by omega)) ((jn_lt (by omega) (by omega)).mpr hjn) ht0 hcl (fun ρ' G' v => ρ' = ρ ∧ G' = G ∧ v = some (.int (Int32.ofNat j))) ⟨rfl, rfl, rfl⟩
  refine jafter hC (vx_runS (As := [.int (Int32.ofNat j), .int (Int32.ofNat n)]) (rest := []) (nL := 2) (cc := cJx4a65c_get_915e3) ⟨hx, hb, hml, hown, hts⟩ hM ⟨jcall (k := 2) hC (by omega) (by decide) (ab_W_of (i := 506) (by decide +kernel) rfl) (ab_W_of (i := 84) (by decide +kernel) rfl) (ab_W_of (i := 504) (by decide +kernel) rfl) (by decide +kernel) (by decide), hts _ (ab_W_of (i := 505) (by decide +kernel) rfl)⟩ ⟨jblind, fun U hU hW => jpre hC hr U hU hW⟩ rfl rfl hl.1 rfl (lv_room (by decide)) dJx4a65c_get_915e3_5 ⟨Nat.le_of_ble_eq_true rfl, Nat.le_of_ble_eq_true rfl⟩) hr (fun ρ' G' v' H1 locs1 hp hr1 e1 e2 e3 => ?_)
  obtain ⟨rfl, rfl, rfl⟩ := hp
  refine lv_pop hx hb dJx4a65c_get_915e3_8 rfl ?_
  refine lv_aload_n hx hb dJx4a65c_get_915e3_9 rfl (lv_at hl 0 rfl) (lv_iload_n hx hb dJx4a65c_get_915e3_10 rfl (lv_at hl 1 rfl) ?_)
  have hM2 := jk_elem (D := D) (cy := cy) (sp := sp) (sz := H1.size) l ha hk he hg hg16 (by omega) hn hv ht0 hcl (fun ρ'' G'' w => ρ'' = ρ' ∧ G'' = G' ∧ w = some (.ref (ρ' v))) ⟨rfl, rfl, rfl⟩ 1 (Nat.le_refl _)
  refine jafter hC (vx_runV (b := ρ' a) (C := "java/util/ArrayList") (As := [.int (Int32.ofNat j)]) (rest := []) (nL := 2) (cc := cJx4a65c_get_915e3) ⟨hx, hb, hml, hown, hts⟩ hM2 ⟨jcall (k := 1) hC (by omega) (by decide) (ab_W_of (i := 513) (by decide +kernel) rfl) (ab_W_of (i := 72) (by decide +kernel) rfl) (ab_W_of (i := 510) (by decide +kernel) rfl) (by decide +kernel) (by decide), hts _ (ab_W_of (i := 511) (by decide +kernel) rfl), hts _ (ab_W_of (i := 512) (by decide +kernel) rfl)⟩ ⟨jblind, va_recv hK hr1.1 (ab_cl_get (ci := 0) (by decide)) (ab_ws_o ha hk (by decide)), fun U hU hW => jpre hC hr1 U hU hW⟩ rfl rfl hl.1 rfl (lv_room (by decide)) dJx4a65c_get_915e3_11 ⟨Nat.le_of_ble_eq_true rfl, Nat.le_of_ble_eq_true rfl⟩) hr1 (fun ρ2 G2 v2 H2 locs2 hp2 hr2 e1 e2 e3 => ?_)
  obtain ⟨rfl, rfl, rfl⟩ := hp2
  exact jaret hC dJx4a65c_get_915e3_14 rfl rfl (Or.inr ⟨_, rfl⟩) hr2 (Nat.le_refl _) (Nat.le_refl _) (Nat.le_refl _) hP
end JKB
