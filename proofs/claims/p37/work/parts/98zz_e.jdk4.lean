/-! lists grow: the parts -/
section JKD
variable {D : va_G} {cy : Nat → ClassId} {sp ρ : Nat → Nat} {t0 sz : Nat} {G : ab_G}
theorem jk_nl (l : Launch) {o g q r : Int32} (hr0 : (o + if g < q then q else g) = r) (h1 : ¬ (0 : Int32) ≥ r) (h2 : ¬ r > 2147483639) (ht0 : ρ 1000000000 = t0) (hcl : ab_cl G) (P : jP) (hP : P ρ G (some (.int r))) (d : Nat) (hd : 2 ≤ d) : jM l ⟨"jdk/internal/util/ArraysSupport", "newLength", "(III)I"⟩ cJ8_newLength_cabcc 4 (some .int) d 0 0 D cy sp t0 ρ G sz [.int o, .int g, .int q] P := by
  refine jbody (by decide +kernel) ht0 hcl (by omega) (ab_W_of (i := 1357) (by decide +kernel) rfl) (fun p e s m below meth c hsz hC hr => ?_)
  obtain ⟨hx, hb, hml, hown, hts, hK, hA, hE, hRf, hRl, hrt, hnm, hlk⟩ := id hC
  have hl := lv_entry [.int o, .int g, .int q] (n := 4) (Nat.le_of_ble_eq_true rfl)
  rw [lg_entry_eq]
  generalize (lg_sl [.int o, .int g, .int q] ++ List.replicate (4 - (lg_sl [.int o, .int g, .int q]).length) Slot.unset).toArray = ls at hl ⊢
  have hl : lv_has ls 4 [(0, .int o), (1, .int g), (2, .int q)] := hl
  refine lv_iload_n hx hb dJ8_newLength_cabcc_0 rfl (lv_at hl 0 rfl) (lv_iload_n hx hb dJ8_newLength_cabcc_1 rfl (lv_at hl 1 rfl) (lv_iload_n hx hb dJ8_newLength_cabcc_2 rfl (lv_at hl 2 rfl) ?_))
  refine va_mmax hx hb (hml.trans hl.1.symm) hown (hts _ (ab_W_of (i := 1358) (by decide +kernel) rfl)) (hts _ (ab_W_of (i := 553) (by decide +kernel) rfl)) (hts _ (ab_W_of (i := 73) (by decide +kernel) rfl)) (hts _ (ab_W_of (i := 554) (by decide +kernel) rfl)) (by omega) (by show 1 + 13 ≤ 64 * d; omega) (Nat.le_refl _) (Nat.le_refl _) dJ8_newLength_cabcc_3 ?_
  refine lv_iadd hx hb dJ8_newLength_cabcc_6 ?_
  rw [hr0]
  refine lv_istore_n hx hb dJ8_newLength_cabcc_7 (i := 3) rfl hl (by decide) rfl (fun ls2 hl2 => ?_)
  refine lv_iconst (v := 0) hx hb dJ8_newLength_cabcc_8 rfl (lv_iload_n hx hb dJ8_newLength_cabcc_9 rfl (lv_at hl2 0 rfl) (lv_icmp_ge hx hb dJ8_newLength_cabcc_10 (tgt := 21) rfl (fun h => absurd h h1) fun _ => ?_))
  refine lv_iload_n hx hb dJ8_newLength_cabcc_13 rfl (lv_at hl2 0 rfl) (lv_ldc hx hb hown (hts _ (ab_W_of (i := 1359) (by decide +kernel) rfl)) dJ8_newLength_cabcc_14 (lv_icmp_gt hx hb dJ8_newLength_cabcc_16 (tgt := 21) rfl (fun h => absurd h h2) fun _ => ?_))
  refine lv_iload_n hx hb dJ8_newLength_cabcc_19 rfl (lv_at hl2 0 rfl) ?_
  exact jiret hC dJ8_newLength_cabcc_20 rfl rfl hr (Nat.le_refl _) (Nat.le_refl _) (Nat.le_refl _) hP
end JKD
/-- a new array of objects that holds f -/
def gB (G : ab_G) (N : Nat) (f : Nat → Option Nat) : ab_G := (u1 (gK G) (gZ G) 16, u1 (gN G) (gZ G) N, u1 (gI G) (gZ G) (fun _ => 0), u1 (gR G) (gZ G) f, u1 (gJ G) (gZ G) (fun _ => 0), gZ G + 1)
theorem jcl_gB {G : ab_G} {N : Nat} {f : Nat → Option Nat} (h : ab_cl G) (hf : ∀ k r, f k = some r → r < gZ G ∧ gK G r < 13) : ab_cl (gB G N f) := by
  intro b hb k r hr
  have hb' : b < gZ G + 1 := hb
  by_cases hbz : b = gZ G
  · subst hbz
    rw [show gR (gB G N f) (gZ G) = f from u1_s _ _ _] at hr
    obtain ⟨q1, q2⟩ := hf k r hr
    refine Or.inl ⟨show r < gZ G + 1 by omega, fun _ => ?_⟩
    rw [show gK (gB G N f) r = gK G r from u1_n _ _ (by omega)]
    exact q2
  · rw [show gR (gB G N f) b = gR G b from u1_n _ _ hbz] at hr
    rcases h b (by omega) k r hr with ⟨q1, q2⟩ | ⟨q1, q2⟩
    · refine Or.inl ⟨show r < gZ G + 1 by omega, fun h2 => ?_⟩
      rw [show gK (gB G N f) b = gK G b from u1_n _ _ hbz] at h2
      rw [show gK (gB G N f) r = gK G r from u1_n _ _ (by omega)]
      exact q2 h2
    · exact Or.inr ⟨by rw [show gK (gB G N f) b = gK G b from u1_n _ _ hbz]; exact q1, q2⟩
/-- the new array copied from another: what stands -/
theorem jws_gB {cy : Nat → ClassId} {ρ : Nat → Nat} {G : ab_G} {N : Nat} {f : Nat → Option Nat} : ab_ws cy ρ (gB G N f) = (ab_ws cy ρ (gNew G 16 N)).set (gZ G) (ρ (gZ G), .inl (cy 16, N, .inr (.inr (.inr (.inr (fun j => (f j).map ρ)))))) := by
  rw [ab_ws_upd cy ρ (gNew G 16 N) (gB G N f) (gZ G) rfl (fun b hb => ab_cel_eq cy ρ ρ (gNew G 16 N) (gB G N f) b rfl rfl rfl (fun j => by rw [show gR (gB G N f) b = gR G b from u1_n _ _ hb, show gR (gNew G 16 N) b = gR G b from u1_n _ _ hb]) rfl)]
  congr 2
  unfold ab_cel
  rw [show gK (gB G N f) (gZ G) = 16 from u1_s _ _ _, show gN (gB G N f) (gZ G) = N from u1_s _ _ _, show gR (gB G N f) (gZ G) = f from u1_s _ _ _]
  rfl
theorem jcast : ∀ ci, ci < 13 → Cond.castable (ab_own ci) "java/lang/Object" ∈ ab_B := by
  intro ci h
  refine List.mem_append_right _ (List.mem_of_getElem? (i := ci) ?_)
  have : ci = 0 ∨ ci = 1 ∨ ci = 2 ∨ ci = 3 ∨ ci = 4 ∨ ci = 5 ∨ ci = 6 ∨ ci = 7 ∨ ci = 8 ∨ ci = 9 ∨ ci = 10 ∨ ci = 11 ∨ ci = 12 := by omega
  rcases this with rfl | rfl | rfl | rfl | rfl | rfl | rfl | rfl | rfl | rfl | rfl | rfl | rfl <;> rfl
section JX3
variable {p : Program} {l : Launch} {e : Env} {R : Room} {s : State} {m : MethodId} {args : Array Value} {below : List Frame} {meth : Method} {c : Code} {Q : State → Prop} {A : Nat → Prop} {D : va_G} {cy : Nat → ClassId} {sp ρ0 ρ : Nat → Nat} {z0 t0 : Nat} {y : MethodName} {cc : ByteArray} {n d : Nat} {ret : Option FieldType} {H : Heap} {locs : List _root_.Jvm.Loc} {G : ab_G} {cells slots mc ms pc : Nat} {ls : Array Slot} {rest : List Value}
theorem jnew (hC : jCx p R s m args meth c A D cy sp t0 y cc n d ret) (hr : jRel D cy A s.heap ρ0 z0 t0 ρ H locs G) {own : String} {index N : Nat} (ho : y.cls = own) (hl : Cond.classLink own index "java/lang/Object" ∈ ab_W) (hd : decode cc pc = .ok (.anewarray index, 3)) (hN : N < 1000) (hz : gZ G < 1000000000) (hc : cells + 1 ≤ R.cells) (hs : slots + N ≤ R.slots)
    (k : ∀ (q : Nat) (H1 : Heap), jRel D cy A s.heap ρ0 z0 t0 (u1 ρ (gZ G) q) H1 locs (gNew G 16 N) → W p l e R s m args below meth c H1 locs (cells + 1) (slots + N) Q (F0 m (pc + 3) ls (.ref (u1 ρ (gZ G) q (gZ G)) :: rest))) : W p l e R s m args below meth c H locs cells slots Q (F0 m pc ls (.int (Int32.ofNat N) :: rest)) := by
  subst ho
  obtain ⟨hx, hb, hml, hown, hts, hK, hA, hE, hRf, hRl, hrt, hnm, hlk⟩ := hC
  obtain ⟨h1, h2, h3, h4, h5, h6, h7⟩ := hr
  refine va_newq hx hb hown (hts _ hl) hE.2.2.2.2.2.2.2.2.2.2.2.2.2 hK h1 h2 h3 hA (jn_ge hN) (jn_cl hN) (by omega) hc hs hd (fun q cA H1 hK1 q1 q2 q3 => ?_)
  have hcA : cA = cy 16 := by
    have e1 := va_nmO (nm := "[Ljava/lang/Object;") (hK1.2 5 (cA, .object "java/lang/Object") rfl).2 (by decide +kernel)
    have e2 := va_nmO (nm := "[Ljava/lang/Object;") (hK.2 3 (cy 16, .object "java/lang/Object") rfl).2 (by decide +kernel)
    exact Option.some.inj (e1.symm.trans e2)
  subst hcA
  have hce : ab_cel cy (u1 ρ (gZ G) q) (gNew G 16 N) (gZ G) = .inl (cy 16, N, .inr (.inr (.inr (.inr (fun _ => none))))) := by
    unfold ab_cel
    rw [show gK (gNew G 16 N) (gZ G) = 16 from u1_s _ _ _, show gN (gNew G 16 N) (gZ G) = N from u1_s _ _ _, show gR (gNew G 16 N) (gZ G) = fun _ => none from u1_s _ _ _]
    rfl
  rw [← hce, ← ab_ws_new h4 hz] at q1 q2
  have hk2 := k q H1 ⟨q1, q2, q3, ab_cl_new h4, Nat.le_succ_of_le h5, fun a ha => by rw [u1_n _ _ (by omega)]; exact h6 a ha, by rw [u1_n _ _ (by omega)]; exact h7⟩
  rw [show u1 ρ (gZ G) q (gZ G) = q from u1_s _ _ _] at hk2
  exact hk2
end JX3
