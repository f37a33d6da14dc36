/-! adding to a list -/
theorem ab_ws_sRq {cy : Nat → ClassId} {ρ : Nat → Nat} {G : ab_G} {e k x : Nat} (h : gK G e = 16) : ab_ws cy ρ (sR G e k (some x)) = (ab_ws cy ρ G).set e (ρ e, .inl (cy 16, gN G e, .inr (.inr (.inr (.inr (va_up (fun j => (gR G e j).map ρ) k (some (ρ x)))))))) := by
  rw [ab_ws_upd cy ρ G (sR G e k (some x)) e rfl (fun b hb => ab_cel_sR cy ρ G e k (some x) hb)]
  congr 2
  unfold ab_cel
  rw [show gK (sR G e k (some x)) e = 16 from h, show gR (sR G e k (some x)) e = (fun j => if j = k then some x else gR G e j) from u2_s _ _ _ _]
  rw [if_neg (by decide), if_pos rfl]
  have hfn : (fun j => Option.map ρ ((fun j => if j = k then some x else gR G e j) j)) = va_up (fun j => (gR G e j).map ρ) k (some (ρ x)) := by
    funext j
    show Option.map ρ (if j = k then some x else gR G e j) = if j = k then some (ρ x) else (gR G e j).map ρ
    split <;> rfl
  rw [hfn]
  rfl
section JX4
variable {p : Program} {l : Launch} {e : Env} {R : Room} {s : State} {m : MethodId} {args : Array Value} {below : List Frame} {meth : Method} {c : Code} {Q : State → Prop} {A : Nat → Prop} {D : va_G} {cy : Nat → ClassId} {sp ρ0 ρ : Nat → Nat} {z0 t0 : Nat} {y : MethodName} {cc : ByteArray} {n d : Nat} {ret : Option FieldType} {H : Heap} {locs : List _root_.Jvm.Loc} {G : ab_G} {cells slots mc ms pc : Nat} {ls : Array Slot} {rest : List Value}
theorem jtail (hC : jCx p R s m args meth c A D cy sp t0 ⟨"java/util/ArrayList", "add", "(Ljava/lang/Object;[Ljava/lang/Object;I)V"⟩ cJx4a65c_add_72be8 4 d none) (hr : jRel D cy A s.heap ρ0 z0 t0 ρ H locs G) {a g x n : Nat} (l0 : ls[0]? = some (.val (.ref (ρ a)))) (l1 : ls[1]? = some (.val (.ref (ρ x)))) (l2 : ls[2]? = some (.val (.ref (ρ g)))) (l3 : ls[3]? = some (.val (.int (Int32.ofNat n)))) (ha : a < gZ G) (hk : gK G a = 0) (hg : g < gZ G) (hg16 : gK G g = 16) (hn : n < gN G g) (hN : gN G g < 1000) (hx0 : x < gZ G) (hxk : gK G x < 13)
    (k : ∀ (H1 : Heap) (locs1 : List _root_.Jvm.Loc), jRel D cy A s.heap ρ0 z0 t0 ρ H1 locs1 (sI (sR G g n (some x)) a 2 (Int32.ofNat (n + 1))) → W p l e R s m args below meth c H1 locs1 cells slots Q (F0 m 22 ls [])) : W p l e R s m args below meth c H locs cells slots Q (F0 m 11 ls []) := by
  obtain ⟨hx, hb, hml, hown, hts, hK, hA, hE, hRf, hRl, hrt, hnm, hlk⟩ := id hC
  obtain ⟨h1, h2, h3, h4, h5, h6, h7⟩ := hr
  refine lv_aload_n hx hb dJx4a65c_add_72be8_11 rfl l2 (lv_iload_n hx hb dJx4a65c_add_72be8_12 rfl l3 (lv_aload_n hx hb dJx4a65c_add_72be8_13 rfl l1 ?_))
  refine va_astqO (E := "java/lang/Object") (r := (ab_own (gK G x), ab_T (gK G x), ab_nf (gK G x))) hx hb hK h1 h2 h3 g 3 x (gK G x) (ab_ws_q hg hg16) rfl (hE.2.2.2.2.2.2.2.2.2.2.1 _ (jcast _ hxk)) (ab_ws_o hx0 rfl hxk) (ab_cl_get hxk) (jn_in hn hN) dJx4a65c_add_72be8_14 (fun H1 locs1 q1 q2 q3 => ?_)
  rw [jn_cl (by omega), ← ab_ws_sRq (x := x) hg16] at q1 q2
  have hr1 : jRel D cy A s.heap ρ0 z0 t0 ρ H1 locs1 (sR G g n (some x)) := ⟨q1, q2, q3, ab_cl_sR h4 (fun r hr => by cases hr; exact ⟨hx0, fun _ => hxk⟩), h5, h6, h7⟩
  refine lv_aload_n hx hb dJx4a65c_add_72be8_15 rfl l0 (lv_iload_n hx hb dJx4a65c_add_72be8_16 rfl l3 (lv_iconst (v := 1) hx hb dJx4a65c_add_72be8_17 rfl (lv_iadd hx hb dJx4a65c_add_72be8_18 ?_)))
  have hadd : Int32.ofNat n + 1 = Int32.ofNat (n + 1) := by
    rw [show (1 : Int32) = Int32.ofNat 1 from rfl, ← Int32.ofNat_add]
  rw [hadd]
  exact jputI hC hr1 (f := 2) ha hk (by decide) rfl (ab_W_of (i := 339) (by decide +kernel) rfl) (fun _ h => h) dJx4a65c_add_72be8_19 rfl rfl (fun H2 locs2 hr2 => k H2 locs2 hr2)
end JX4
section JKG
variable {D : va_G} {cy : Nat → ClassId} {sp ρ : Nat → Nat} {t0 sz : Nat} {G : ab_G}
/-- there is room -/
theorem jk_addR (l : Launch) {a g x n : Nat} (ha : a < gZ G) (hk : gK G a = 0) (hg : g < gZ G) (hg16 : gK G g = 16) (hn : n < gN G g) (hN : gN G g < 1000) (hx0 : x < gZ G) (hxk : gK G x < 13) (ht0 : ρ 1000000000 = t0) (hcl : ab_cl G) (P : jP) (hP : P ρ (sI (sR G g n (some x)) a 2 (Int32.ofNat (n + 1))) none) (d : Nat) (hd : 6 ≤ d) : jM l ⟨"java/util/ArrayList", "add", "(Ljava/lang/Object;[Ljava/lang/Object;I)V"⟩ cJx4a65c_add_72be8 4 none d 1 40 D cy sp t0 ρ G sz [.ref (ρ a), .ref (ρ x), .ref (ρ g), .int (Int32.ofNat n)] P := by
  refine jbody (by decide +kernel) ht0 hcl (by omega) (ab_W_of (i := 1346) (by decide +kernel) rfl) (fun p e s m below meth c hsz hC hr => ?_)
  obtain ⟨hx, hb, hml, hown, hts, hK, hA, hE, hRf, hRl, hrt, hnm, hlk⟩ := id hC
  have hl := lv_entry [.ref (ρ a), .ref (ρ x), .ref (ρ g), .int (Int32.ofNat n)] (n := 4) (Nat.le_of_ble_eq_true rfl)
  rw [lg_entry_eq]
  generalize (lg_sl [.ref (ρ a), .ref (ρ x), .ref (ρ g), .int (Int32.ofNat n)] ++ List.replicate (4 - (lg_sl [.ref (ρ a), .ref (ρ x), .ref (ρ g), .int (Int32.ofNat n)]).length) Slot.unset).toArray = ls at hl ⊢
  refine lv_iload_n hx hb dJx4a65c_add_72be8_0 rfl (lv_at hl 3 rfl) (lv_aload_n hx hb dJx4a65c_add_72be8_1 rfl (lv_at hl 2 rfl) (va_alen hx hb hK hr.1 g 3 (ab_ws_q hg hg16) rfl (v := Int32.ofNat (gN G g)) rfl dJx4a65c_add_72be8_2 (lv_icmp_ne hx hb dJx4a65c_add_72be8_3 (tgt := 11) rfl (fun _ => ?_) (fun h => ?_))))
  · exact jtail hC hr (lv_at hl 0 rfl) (lv_at hl 1 rfl) (lv_at hl 2 rfl) (lv_at hl 3 rfl) ha hk hg hg16 hn hN hx0 hxk (fun H1 locs1 hr1 => jvret hC dJx4a65c_add_72be8_22 rfl hr1 (Nat.le_add_right _ _) (Nat.zero_le _) (Nat.zero_le _) hP)
  · exact absurd ((jn_eq (n := n) (k := gN G g) (by omega) (by omega)).mp h) (by omega)
/-- there is none -/
theorem jk_addF (l : Launch) {a x n N : Nat} {f : Nat → Option Nat} {arr : Nat} (ha : a < gZ G) (hk : gK G a = 0) (hn : n < N) (hN : N ≤ 40) (hx0 : x < gZ G) (hxk : gK G x < 13) (hlen : (∃ g, arr = ρ g ∧ g < gZ G ∧ gK G g = 16 ∧ gN G g = n) ∨ (arr = t0 ∧ n = 0)) (hs : gI G a 2 = Int32.ofNat n) (ht0 : ρ 1000000000 = t0) (hcl : ab_cl G)
    (hM : ∀ sz, jM l ⟨"java/util/ArrayList", "grow", "(I)[Ljava/lang/Object;"⟩ cJx4a65c_grow_92f84 4 (some (.array (.object "java/lang/Object"))) 4 1 40 D cy sp t0 ρ G sz [.ref (ρ a), .int (Int32.ofNat (n + 1))] (fun ρ1 G1 v => (∀ b, b < gZ G → ρ1 b = ρ b) ∧ G1 = sR (gB G N f) a 1 (some (gZ G)) ∧ v = some (.ref (ρ1 (gZ G)))))
    (P : jP) (hP : ∀ ρ1 : Nat → Nat, (∀ b, b < gZ G → ρ1 b = ρ b) → P ρ1 (sI (sR (sR (gB G N f) a 1 (some (gZ G))) (gZ G) n (some x)) a 2 (Int32.ofNat (n + 1))) none) (d : Nat) (hd : 6 ≤ d) : jM l ⟨"java/util/ArrayList", "add", "(Ljava/lang/Object;[Ljava/lang/Object;I)V"⟩ cJx4a65c_add_72be8 4 none d 1 40 D cy sp t0 ρ G sz [.ref (ρ a), .ref (ρ x), .ref arr, .int (Int32.ofNat n)] P := by
  refine jbody (by decide +kernel) ht0 hcl (by omega) (ab_W_of (i := 1346) (by decide +kernel) rfl) (fun p e s m below meth c hsz hC hr => ?_)
  obtain ⟨hx, hb, hml, hown, hts, hK, hA, hE, hRf, hRl, hrt, hnm, hlk⟩ := id hC
  have hl := lv_entry [.ref (ρ a), .ref (ρ x), .ref arr, .int (Int32.ofNat n)] (n := 4) (Nat.le_of_ble_eq_true rfl)
  rw [lg_entry_eq]
  generalize (lg_sl [.ref (ρ a), .ref (ρ x), .ref arr, .int (Int32.ofNat n)] ++ List.replicate (4 - (lg_sl [.ref (ρ a), .ref (ρ x), .ref arr, .int (Int32.ofNat n)]).length) Slot.unset).toArray = ls at hl ⊢
  have hl : lv_has ls 4 [(0, .ref (ρ a)), (1, .ref (ρ x)), (2, .ref arr), (3, .int (Int32.ofNat n))] := hl
  refine lv_iload_n hx hb dJx4a65c_add_72be8_0 rfl (lv_at hl 3 rfl) (lv_aload_n hx hb dJx4a65c_add_72be8_1 rfl (lv_at hl 2 rfl) ?_)
  have hgo : W p l e { frames := d, cells := 1, slots := 40, locals := 64 * d } s m [.ref (ρ a), .ref (ρ x), .ref arr, .int (Int32.ofNat n)].toArray below meth c s.heap [] 0 0 (vx_MQ below (jQ D cy t0 ρ G s.heap.size 1 P) jN [.ref (ρ a), .ref (ρ x), .ref arr, .int (Int32.ofNat n)].toArray s 1 40 (va_A (ab_ws cy ρ G) s.heap.size)) (F0 m 3 ls [.int (Int32.ofNat n), .int (Int32.ofNat n)]) := by
    refine lv_icmp_ne hx hb dJx4a65c_add_72be8_3 (tgt := 11) rfl (fun h => absurd rfl h) (fun _ => ?_)
    refine lv_aload_n hx hb dJx4a65c_add_72be8_6 rfl (lv_at hl 0 rfl) ?_
    have hM2 := jk_grow0 (D := D) (cy := cy) (sp := sp) (sz := s.heap.size) l (a := a) (n := n) (d := 5) (Nat.le_refl _) ha hk hs (by omega) ht0 hcl hM (fun ρ' G' v h => ⟨_, h.2.2⟩)
    refine jafter (mc := 1) (ms := 40) hC (vx_runV (b := ρ a) (C := "java/util/ArrayList") (As := []) (rest := []) (nL := 4) (cc := cJx4a65c_add_72be8) ⟨hx, hb, hml, hown, hts⟩ hM2 ⟨jcall (k := 0) hC (by omega) (by decide) (ab_W_of (i := 1350) (by decide +kernel) rfl) (ab_W_of (i := 72) (by decide +kernel) rfl) (ab_W_of (i := 1347) (by decide +kernel) rfl) (by decide +kernel) (by decide), hts _ (ab_W_of (i := 1349) (by decide +kernel) rfl), hts _ (ab_W_of (i := 54) (by decide +kernel) rfl)⟩ ⟨jblind, va_recv hK hr.1 (ab_cl_get (ci := 0) (by decide)) (ab_ws_o ha hk (by decide)), fun U hU hW => jpre hC hr U hU hW⟩ rfl rfl hl.1 rfl (lv_room (by decide)) dJx4a65c_add_72be8_7 ⟨Nat.le_of_ble_eq_true rfl, Nat.le_of_ble_eq_true rfl⟩) hr (fun ρ1 G1 v1 H1 locs1 hp hr1 e1 e2 e3 => ?_)
    obtain ⟨hag, rfl, rfl⟩ := hp
    show W p l e _ s m _ below meth c H1 locs1 _ _ _ (F0 m 10 ls [.ref (ρ1 (gZ G))])
    refine lv_astore_n hx hb dJx4a65c_add_72be8_10 (i := 2) rfl hl (by decide) rfl (fun ls2 hl2 => ?_)
    have hl2 : lv_has ls2 4 [(2, .ref (ρ1 (gZ G))), (0, .ref (ρ a)), (1, .ref (ρ x)), (3, .int (Int32.ofNat n))] := hl2
    rw [← hag a ha, ← hag x hx0] at hl2
    refine jtail (G := sR (gB G N f) a 1 (some (gZ G))) hC hr1 (a := a) (g := gZ G) (x := x) (lv_at hl2 1 rfl) (lv_at hl2 2 rfl) (lv_at hl2 0 rfl) (lv_at hl2 3 rfl) (show a < gZ G + 1 by omega) ((jcls (N := N) (f := f) ha).trans hk) (show gZ G < gZ G + 1 by omega) (u1_s _ _ _) ?_ ?_ (show x < gZ G + 1 by omega) (by show gK (gB G N f) x < 13; rw [jcls hx0]; exact hxk) (fun H2 locs2 hr2 => ?_)
    · show n < gN (gB G N f) (gZ G)
      rw [show gN (gB G N f) (gZ G) = N from u1_s _ _ _]
      exact hn
    · show gN (gB G N f) (gZ G) < 1000
      rw [show gN (gB G N f) (gZ G) = N from u1_s _ _ _]
      omega
    · exact jvret hC dJx4a65c_add_72be8_22 rfl hr2 (Nat.le_refl _) (Nat.le_refl _) (Nat.le_refl _) (hP ρ1 hag)
  rcases hlen with ⟨g, rfl, g1, g2, g3⟩ | ⟨rfl, rfl⟩
  · exact va_alen hx hb hK hr.1 g 3 (ab_ws_q g1 g2) rfl (v := Int32.ofNat n) (by show Int32.ofNat (gN G g) = _; rw [g3]) dJx4a65c_add_72be8_2 hgo
  · exact va_tlen hx hb hE.2.2.2.2.2.2.2.1 hr.2.2.1 (v := Int32.ofNat 0) rfl dJx4a65c_add_72be8_2 hgo
/-- add(E) -/
theorem jk_add (l : Launch) {a x n arr : Nat} (ha : a < gZ G) (hk : gK G a = 0) (hs : gI G a 2 = Int32.ofNat n) (harr : (gR G a 1).map ρ = some arr) (ht0 : ρ 1000000000 = t0) (hcl : ab_cl G) (P : jP)
    (hM : ∀ sz, jM l ⟨"java/util/ArrayList", "add", "(Ljava/lang/Object;[Ljava/lang/Object;I)V"⟩ cJx4a65c_add_72be8 4 none 6 1 40 D cy sp t0 ρ (sI G a 0 (gI G a 0 + 1)) sz [.ref (ρ a), .ref (ρ x), .ref arr, .int (Int32.ofNat n)] (fun ρ' G' v => v = none ∧ P ρ' G' (some (.int 1)))) (d : Nat) (hd : 7 ≤ d) : jM l ⟨"java/util/ArrayList", "add", "(Ljava/lang/Object;)Z"⟩ cJx4a65c_add_9ea2d 2 (some .boolean) d 1 40 D cy sp t0 ρ G sz [.ref (ρ a), .ref (ρ x)] P := by
  refine jbody (by decide +kernel) ht0 hcl (by omega) (ab_W_of (i := 1342) (by decide +kernel) rfl) (fun p e s m below meth c hsz hC hr => ?_)
  obtain ⟨hx, hb, hml, hown, hts, hK, hA, hE, hRf, hRl, hrt, hnm, hlk⟩ := id hC
  have hl := lv_entry [.ref (ρ a), .ref (ρ x)] (n := 2) (Nat.le_of_ble_eq_true rfl)
  rw [lg_entry_eq]
  generalize (lg_sl [.ref (ρ a), .ref (ρ x)] ++ List.replicate (2 - (lg_sl [.ref (ρ a), .ref (ρ x)]).length) Slot.unset).toArray = ls at hl ⊢
  have hsame := u_same (hts _ (ab_W_of (i := 342) (w := .sameField "java/util/ArrayList" "java/util/AbstractList" "modCount" "I") (by decide +kernel) rfl))
  refine lv_aload_n hx hb dJx4a65c_add_9ea2d_0 rfl (lv_at hl 0 rfl) (lv_dup hx hb dJx4a65c_add_9ea2d_1 rfl (jget hC hr (f := 0) (v := .int (gI G a 0)) ha hk (by decide) (ab_W_of (i := 341) (by decide +kernel) rfl) hsame dJx4a65c_add_9ea2d_2 rfl (lv_iconst (v := 1) hx hb dJx4a65c_add_9ea2d_5 rfl (lv_iadd hx hb dJx4a65c_add_9ea2d_6 ?_))))
  refine jputI hC hr (f := 0) ha hk (by decide) rfl (ab_W_of (i := 341) (by decide +kernel) rfl) hsame dJx4a65c_add_9ea2d_7 rfl rfl (fun H1 locs1 hr1 => ?_)
  have hk1 : gK (sI G a 0 (gI G a 0 + 1)) a = 0 := hk
  refine lv_aload_n hx hb dJx4a65c_add_9ea2d_10 rfl (lv_at hl 0 rfl) (lv_aload_n hx hb dJx4a65c_add_9ea2d_11 rfl (lv_at hl 1 rfl) (lv_aload_n hx hb dJx4a65c_add_9ea2d_12 rfl (lv_at hl 0 rfl) (jget hC hr1 (f := 1) (v := .ref arr) ha hk1 (by decide) (ab_W_of (i := 338) (by decide +kernel) rfl) (fun _ h => h) dJx4a65c_add_9ea2d_13 (by
    show va_rf ((gR G a 1).map ρ) = _
    rw [harr]
    rfl) (lv_aload_n hx hb dJx4a65c_add_9ea2d_16 rfl (lv_at hl 0 rfl) (jget hC hr1 (f := 2) (v := .int (Int32.ofNat n)) ha hk1 (by decide) (ab_W_of (i := 339) (by decide +kernel) rfl) (fun _ h => h) dJx4a65c_add_9ea2d_17 (by
    show Value.int (gI (sI G a 0 (gI G a 0 + 1)) a 2) = _
    rw [show gI (sI G a 0 (gI G a 0 + 1)) a = (fun j => if j = 0 then gI G a 0 + 1 else gI G a j) from u2_s _ _ _ _]
    show Value.int (gI G a 2) = _
    rw [hs]) ?_)))))
  refine jafter (mc := 1) (ms := 40) hC (vx_runV (b := ρ a) (C := "java/util/ArrayList") (As := [.ref (ρ x), .ref arr, .int (Int32.ofNat n)]) (rest := []) (nL := 2) (cc := cJx4a65c_add_9ea2d) ⟨hx, hb, hml, hown, hts⟩ (hM _) ⟨jcall (k := 3) hC (by omega) (by decide) (ab_W_of (i := 1346) (by decide +kernel) rfl) (ab_W_of (i := 72) (by decide +kernel) rfl) (ab_W_of (i := 1343) (by decide +kernel) rfl) (by decide +kernel) (by decide), hts _ (ab_W_of (i := 1345) (by decide +kernel) rfl), hts _ (ab_W_of (i := 53) (by decide +kernel) rfl)⟩ ⟨jblind, va_recv hK hr1.1 (ab_cl_get (ci := 0) (by decide)) (ab_ws_o (G := sI G a 0 (gI G a 0 + 1)) ha hk1 (by decide)), fun U hU hW => jpre hC hr1 U hU hW⟩ rfl rfl hl.1 rfl (lv_room (by decide)) dJx4a65c_add_9ea2d_20 ⟨Nat.le_of_ble_eq_true rfl, Nat.le_of_ble_eq_true rfl⟩) hr1 (fun ρ' G' v' H2 locs2 hp hr2 e1 e2 e3 => ?_)
  obtain ⟨rfl, hp⟩ := hp
  refine lv_iconst (v := 1) hx hb dJx4a65c_add_9ea2d_23 rfl ?_
  exact jiret hC dJx4a65c_add_9ea2d_24 rfl rfl hr2 e3 (Nat.le_refl _) (Nat.le_refl _) hp
end JKG
