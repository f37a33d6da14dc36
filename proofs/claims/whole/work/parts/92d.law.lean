/-! the law's cases -/
section CAS
def lF (a : Nat) : Prop := 74 ≤ a ∧ a < 127
def lad (j : Nat) : Nat := 74 + j
def LJ (G : ab_G) (m : Mx) : Prop := EM G lad ∧ RepM (gI G) lad m ∧ gK G 126 = 17 ∧ gN G 126 = 1
def LIw (G : ab_G) (m : Mx) : Prop := ∃ T, Rep2 lF G T ∧ SINV 0 T m ∧ LJ G m
theorem lF_ad {j : Nat} (h : j < 52) : lF (lad j) := ⟨Nat.le_add_right _ _, by show 74 + j < 127; omega⟩
theorem lF_o : lF 126 := ⟨by decide, by decide⟩
theorem LJ.sm {G G1 : ab_G} {m : Mx} (h : LJ G m) (hs : SameF lF G G1) : LJ G1 m := by
  obtain ⟨⟨e1, e2, e3⟩, h2, h3, h4⟩ := h
  refine ⟨⟨e1, (hs _ (lF_ad (by decide))).1.trans e2, fun q hq => ?_⟩, fun k hk => (hs _ (lF_ad hk)).2.2.1.trans (h2 k hk), (hs _ lF_o).1.trans h3, (hs _ lF_o).2.1.trans h4⟩
  obtain ⟨g1, g2, g3, g4⟩ := e3 q hq
  exact ⟨by rw [(hs _ (lF_ad (by decide))).2.2.2.1]; exact g1, (hs _ (lF_ad g4)).1.trans g2, (hs _ (lF_ad g4)).2.1.trans g3, g4⟩
theorem SINV.k {T : Tx} {m : Mx} {x : Nat} (h : SINV x T m) : tK T x = 12 := by
  obtain ⟨_, _, _, _, _, _, _, _, _, h⟩ := h
  exact h.1.1
/-- the reference has been called -/
theorem LIw.md {G : ab_G} {T : Tx} {m m' : Mx} {I1 : Nat → Nat → Int32} (h1 : Rep2 lF G T) (h2 : LJ G m) (hP : RepM I1 lad m') (hF : FrM lad (gI G) I1) (hS : SINV 0 T m') : LIw (gW G I1) m' := by
  refine ⟨T, h1.fg rfl (fun a ha => ⟨rfl, rfl, ?_, rfl⟩), hS, h2.1, hP, h2.2.2.1, h2.2.2.2⟩
  refine hF a (fun i hi e => ha ?_)
  rw [e]
  exact lF_ad hi
/-- something has been put into the long array -/
theorem LJ.sj {G : ab_G} {m : Mx} (h : LJ G m) {v : Int64} : LJ (sJ G 126 0 v) m := h
theorem Rep2.sj {G : ab_G} {T : Tx} (h : Rep2 lF G T) {v : Int64} : Rep2 lF (sJ G 126 0 v) T := h.fg rfl (fun _ _ => ⟨rfl, rfl, rfl, rfl⟩)
theorem gJ_s {G : ab_G} {v : Int64} : gJ (sJ G 126 0 v) 126 0 = v := by
  show u2 (gJ G) 126 0 v 126 0 = v
  rw [u2_s]
  exact if_pos rfl
theorem lcmp_e {v : Int32} {y : Int64} (h : y = v.toInt64) : lg_cmp y v.toInt64 = 0 := by rw [h, lg_0]
/-- a truth is told as 0 or 1 -/
theorem passes01 {x : Nat} {T : Tx} {m : Mx} {tx : List Int32} {es : List Nat} {ts : Nat → List Nat} {as : List Nat} {ps : Nat → Nat} {txs : Nat → List Int32} {ss : Nat → Sx} {pd : Nat} {own : Nat → Nat} {v w u : Int32} (h : SInv x T m tx es ts as ps txs ss pd own) (hu : h_11022 x v w T = some (.inr u)) : u = 0 ∨ u = 1 := by
  have h30 := h.2.2.2.2.1.2.1
  by_cases c : 0 ≤ v.toInt ∧ v.toInt < as.length
  · obtain ⟨j, j1, j2, j3, a1, a2, a3, a4, a5, a6, a7, a8, a9, _⟩ := h.an (i := v.toInt.toNat) (by omega)
    by_cases c2 : 0 ≤ w.toInt ∧ w.toInt < (ts j).length
    · obtain ⟨q1, q2, q3⟩ := a9 w.toInt.toNat (by omega)
      unfold h_11022 at hu
      rw [gd_e h.1.1, g39 h, if_pos c, bXn_some, gd_e a1, a2, bP_some, g41 a3, if_pos c2, bXn_some, gd_e a1, a7, bP_some, gd_e a8, xg_at c2.1, q2] at hu
      rcases q3 with q | q
      · rw [q, if_neg (by decide)] at hu
        cases hu
        exact Or.inl rfl
      · rw [q, if_pos rfl] at hu
        cases hu
        exact Or.inr rfl
    · unfold h_11022 at hu
      rw [gd_e h.1.1, g39 h, if_pos c, bXn_some, gd_e a1, a2, bP_some, g41 a3, if_neg c2] at hu
      cases hu
  · unfold h_11022 at hu
    rw [gd_e h.1.1, g39 h, if_neg c] at hu
    cases hu
section
variable {scL : Nat} {scX : Nat → Int32} {P : ab_Pq} {X : ab_Xq} {R : ab_K} {G : ab_G} {m : Mx} {i : Int32} {w5 w6 : Option Value} {bc bs : Nat}
theorem lc_0 (hR : ab_Cl 1000 (ab_Gam 1000) 13 i_law scL scX P X R) (hI : LIw G m) (hv : ∀ c : Int32, 0 ≤ c.toInt → c.toInt < 8 → vp_in (i + c) (scL - 1)) (hb1 : 500 ≤ bc) (hb2 : 10000 ≤ bs) (hn : ∀ G1 m1 u5 u6 bc1 bs1, LIw G1 m1 → bc ≤ bc1 + 500 → bs ≤ bs1 + 10000 → R 2023 [some (.float 0), some (.ref 0), some (.ref 74), some (.ref 126), some (.int i), u5, u6] [] G1 bc1 bs1) : R 192 [some (.float 0), some (.ref 0), some (.ref 74), some (.ref 126), some (.int i), w5, w6] [] G bc bs := by
  obtain ⟨T, hT, hS, hJ⟩ := hI
  refine us_aload_n hR dL_law_192 rfl ?_
  refine us_aload_nF hR dL_law_193 rfl ?_
  refine us_iload hR dL_law_194 rfl ?_
  refine us_iconstC hR dL_law_196 (c := 1) (by decide) ?_
  refine us_iadd hR dL_law_197 ?_
  refine us_scr hR dL_law_198 rfl (hv 1 (by decide) (by decide)) ?_
  refine us_i2l hR dL_law_199 ?_
  refine us_bipushC hR dL_law_200 (c := 32) (by decide) ?_
  refine us_lshl hR dL_law_202 ?_
  refine us_aload_nF hR dL_law_203 rfl ?_
  refine us_iload hR dL_law_204 rfl ?_
  refine us_iconstC hR dL_law_206 (c := 2) (by decide) ?_
  refine us_iadd hR dL_law_207 ?_
  refine us_scr hR dL_law_208 rfl (hv 2 (by decide) (by decide)) ?_
  refine us_i2l hR dL_law_209 ?_
  refine us_ldc2_w hR dL_law_210 (v := 4294967295) (by decide +kernel) ?_
  refine us_land hR dL_law_213 ?_
  refine us_lor hR dL_law_214 ?_
  refine us_aload_n hR dL_law_215 rfl ?_
  obtain ⟨_, _, _, _, _, _, _, _, _, h⟩ := hS
  have hc : SameT (h_11001 0 (((((scX (i + 1).toNatClampNeg)).toInt64 <<< ((32 : Int32).toInt64 &&& 63)) ||| (((scX (i + 2).toNatClampNeg)).toInt64 &&& 4294967295))) T) (f_12006 (((((scX (i + 1).toNatClampNeg)).toInt64 <<< ((32 : Int32).toInt64 &&& 63)) ||| (((scX (i + 2).toNatClampNeg)).toInt64 &&& 4294967295))) m) cE (SINV 0) := c_write h
  obtain ⟨T1, m1, r, u, hh, hf, hS1, hu⟩ := hc
  have rest : ∀ (G1 : ab_G) (k5 : Int32), Rep2 lF G1 T1 → LJ G1 m → k5 = m1 0 82 → (k5 = 0 → gJ G1 126 0 = r.toInt64) → R 219 [some (.float 0), some (.ref 0), some (.ref 74), some (.ref 126), some (.int i), w5, w6] [.int k5] G1 (bc - 500) (bs - 10000) := by
    intro G1 k5 r1 hJ1 e82 eJ
    refine us_istore hR dL_law_219 (Nat.le_of_ble_eq_true rfl) ?_
    refine us_aload_n hR dL_law_221 rfl ?_
    refine us_aload_nF hR dL_law_222 rfl ?_
    refine us_iload hR dL_law_223 rfl ?_
    refine us_iconstC hR dL_law_225 (c := 1) (by decide) ?_
    refine us_iadd hR dL_law_226 ?_
    refine us_scr hR dL_law_227 rfl (hv 1 (by decide) (by decide)) ?_
    refine us_i2l hR dL_law_228 ?_
    refine us_bipushC hR dL_law_229 (c := 32) (by decide) ?_
    refine us_lshl hR dL_law_231 ?_
    refine us_aload_nF hR dL_law_232 rfl ?_
    refine us_iload hR dL_law_233 rfl ?_
    refine us_iconstC hR dL_law_235 (c := 2) (by decide) ?_
    refine us_iadd hR dL_law_236 ?_
    refine us_scr hR dL_law_237 rfl (hv 2 (by decide) (by decide)) ?_
    refine us_i2l hR dL_law_238 ?_
    refine us_ldc2_w hR dL_law_239 (v := 4294967295) (by decide +kernel) ?_
    refine us_land hR dL_law_242 ?_
    refine us_lor hR dL_law_243 ?_
    refine us_callV hR dL_law_244 (y := 12006) (a := 74) (by decide +kernel) (by decide) (J := i12006) rfl rfl rfl rfl hJ1.1.2.1 rfl (Nat.le_of_ble_eq_true rfl) (Nat.zero_le _) (Nat.zero_le _) ?_
    refine sp_12006 (d := 997) (G := G1) (ad := lad) (I := gI G1) hJ1.1 hJ1.2.1 hf (fun I1 hP hF => ?_)
    have hL := LIw.md r1 hJ1 hP hF hS1
    refine us_istore hR dL_law_247 (Nat.le_of_ble_eq_true rfl) ?_
    refine us_aload_n hR dL_law_249 rfl ?_
    refine us_callV hR dL_law_250 (y := 12001) (a := 74) (by decide +kernel) (by decide) (J := i12001) rfl rfl rfl rfl hJ1.1.2.1 rfl (Nat.le_of_ble_eq_true rfl) (Nat.zero_le _) (Nat.zero_le _) ?_
    refine sp_12001 (d := 999) (G := G1) (ad := lad) (I := I1) hJ1.1 hP ?_
    refine us_iload hR dL_law_253 rfl ?_
    refine us_icmp_eq hR dL_law_255 260 (by decide) (fun _ => ?_) (fun c => absurd e82.symm c)
    refine us_iload hR dL_law_260 rfl ?_
    refine us_if_ne hR dL_law_262 277 (by decide) (fun _ => ?_) (fun c0 => ?_)
    · skip
      refine us_goto hR dL_law_277 2023 (by decide) ?_
      refine hn _ _ _ _ _ _ hL ?_ ?_
      · show bc ≤ bc - 500 - 0 - 0 + 500; omega
      · show bs ≤ bs - 10000 - 0 - 0 + 10000; omega
    · refine us_aload_n hR dL_law_265 rfl ?_
      refine us_iconstC hR dL_law_266 (c := 0) (by decide) ?_
      refine us_laload hR dL_law_267 hJ1.2.2.1 (by rw [show gN (gW G1 I1) 126 = 1 from hJ1.2.2.2]; exact vi_in ⟨by decide, by decide⟩) ?_
      refine us_iload hR dL_law_268 rfl ?_
      refine us_i2l hR dL_law_270 ?_
      refine us_lcmp hR dL_law_271 ?_
      refine us_if_eq hR dL_law_272 277 (by decide) (fun _ => ?_) (fun c => absurd (lcmp_e (eJ c0)) c)
      refine us_goto hR dL_law_277 2023 (by decide) ?_
      refine hn _ _ _ _ _ _ hL ?_ ?_
      · show bc ≤ bc - 500 - 0 - 0 + 500; omega
      · show bs ≤ bs - 10000 - 0 - 0 + 10000; omega
  refine us_callS hR dL_law_216 (y := 13000) (by decide +kernel) (by decide) (J := i13000) rfl rfl rfl rfl (Nat.le_of_ble_eq_true rfl) hb1 hb2 ?_
  refine st_13000 (d := 989) hT h.1.1 lF_o hJ.2.2.1 hJ.2.2.2 hh (fun e he => by
    rcases hu with ⟨v, k1, k2, k3⟩ | ⟨e', k1, k2, k3⟩
    · rw [show (T1, u).2 = .inr v from k1] at he; cases he
    · rw [show (T1, u).2 = .inl e' from k1] at he
      cases he
      exact k2) (fun G1 v he r1 f1 => ?_) (fun G1 e he r1 f1 => ?_)
  · refine rest _ _ r1.sj (hJ.sm f1).sj ?_ (fun _ => ?_)
    · rcases hu with ⟨v', k1, k2, k3⟩ | ⟨e', k1, k2, k3⟩
      · exact k2.symm
      · rw [show (T1, u).2 = .inl e' from k1] at he; cases he
    · rcases hu with ⟨v', k1, k2, k3⟩ | ⟨e', k1, k2, k3⟩
      · rw [show (T1, u).2 = .inr v' from k1] at he
        cases he
        rw [gJ_s, k3]
      · rw [show (T1, u).2 = .inl e' from k1] at he; cases he
  · refine rest _ _ r1 (hJ.sm f1) ?_ (fun z => ?_)
    · rcases hu with ⟨v', k1, k2, k3⟩ | ⟨e', k1, k2, k3⟩
      · rw [show (T1, u).2 = .inr v' from k1] at he; cases he
      · rw [show (T1, u).2 = .inl e' from k1] at he
        cases he
        exact k3.symm
    · rcases hu with ⟨v', k1, k2, k3⟩ | ⟨e', k1, k2, k3⟩
      · rw [show (T1, u).2 = .inr v' from k1] at he; cases he
      · rw [show (T1, u).2 = .inl e' from k1] at he
        cases he
        exact absurd z k2
theorem lc_1 (hR : ab_Cl 1000 (ab_Gam 1000) 13 i_law scL scX P X R) (hI : LIw G m) (hv : ∀ c : Int32, 0 ≤ c.toInt → c.toInt < 8 → vp_in (i + c) (scL - 1)) (hb1 : 500 ≤ bc) (hb2 : 10000 ≤ bs) (hn : ∀ G1 m1 u5 u6 bc1 bs1, LIw G1 m1 → bc ≤ bc1 + 500 → bs ≤ bs1 + 10000 → R 2023 [some (.float 0), some (.ref 0), some (.ref 74), some (.ref 126), some (.int i), u5, u6] [] G1 bc1 bs1) : R 280 [some (.float 0), some (.ref 0), some (.ref 74), some (.ref 126), some (.int i), w5, w6] [] G bc bs := by
  obtain ⟨T, hT, hS, hJ⟩ := hI
  refine us_aload_n hR dL_law_280 rfl ?_
  obtain ⟨_, _, _, _, _, _, _, _, _, h⟩ := hS
  obtain ⟨T1, m1, v, hh, hf, hS1⟩ := c_wipe h
  refine us_callV hR dL_law_281 (y := 11002) (by decide +kernel) (by decide) (J := i11002) rfl rfl rfl rfl (H_sch hT h.1.1) rfl (Nat.le_of_ble_eq_true rfl) (Nat.zero_le _) (Nat.zero_le _) ?_
  refine sh_11002 (d := 998) hT hh (fun G1 r1 f1 => ?_)
  have hJ1 := hJ.sm f1
  refine us_aload_n hR dL_law_284 rfl ?_
  refine us_callV hR dL_law_285 (y := 12007) (a := 74) (by decide +kernel) (by decide) (J := i12007) rfl rfl rfl rfl hJ1.1.2.1 rfl (Nat.le_of_ble_eq_true rfl) (Nat.zero_le _) (Nat.zero_le _) ?_
  refine sp_12007 (d := 998) (G := G1) (ad := lad) (I := gI G1) hJ1.1 hJ1.2.1 (fun I1 o ho hP hF => ?_)
  obtain rfl := ho.trans hf
  refine us_icmp_eq hR dL_law_288 2023 (by decide) (fun _ => ?_) (fun c => absurd rfl c)
  refine hn _ _ _ _ _ _ (LIw.md r1 hJ1 hP hF hS1) ?_ ?_
  · show bc ≤ bc - 0 - 0 + 500; omega
  · show bs ≤ bs - 0 - 0 + 10000; omega
theorem lc_2 (hR : ab_Cl 1000 (ab_Gam 1000) 13 i_law scL scX P X R) (hI : LIw G m) (hv : ∀ c : Int32, 0 ≤ c.toInt → c.toInt < 8 → vp_in (i + c) (scL - 1)) (hb1 : 500 ≤ bc) (hb2 : 10000 ≤ bs) (hn : ∀ G1 m1 u5 u6 bc1 bs1, LIw G1 m1 → bc ≤ bc1 + 500 → bs ≤ bs1 + 10000 → R 2023 [some (.float 0), some (.ref 0), some (.ref 74), some (.ref 126), some (.int i), u5, u6] [] G1 bc1 bs1) : R 293 [some (.float 0), some (.ref 0), some (.ref 74), some (.ref 126), some (.int i), w5, w6] [] G bc bs := by
  obtain ⟨T, hT, hS, hJ⟩ := hI
  refine us_aload_n hR dL_law_293 rfl ?_
  refine us_aload_nF hR dL_law_294 rfl ?_
  refine us_iload hR dL_law_295 rfl ?_
  refine us_iconstC hR dL_law_297 (c := 1) (by decide) ?_
  refine us_iadd hR dL_law_298 ?_
  refine us_scr hR dL_law_299 rfl (hv 1 (by decide) (by decide)) ?_
  refine us_aload_n hR dL_law_300 rfl ?_
  obtain ⟨_, _, _, _, _, _, _, _, _, h⟩ := hS
  have hc : SameT (h_11003 0 ((scX (i + 1).toNatClampNeg)) T) (some (f_12008 ((scX (i + 1).toNatClampNeg)) m)) cE (SINV 0) := c_erase h
  obtain ⟨T1, m1, r, u, hh, hf, hS1, hu⟩ := hc
  have rest : ∀ (G1 : ab_G) (k5 : Int32), Rep2 lF G1 T1 → LJ G1 m → k5 = m1 0 82 → (k5 = 0 → gJ G1 126 0 = r.toInt64) → R 304 [some (.float 0), some (.ref 0), some (.ref 74), some (.ref 126), some (.int i), w5, w6] [.int k5] G1 (bc - 500) (bs - 10000) := by
    intro G1 k5 r1 hJ1 e82 eJ
    refine us_istore hR dL_law_304 (Nat.le_of_ble_eq_true rfl) ?_
    refine us_aload_n hR dL_law_306 rfl ?_
    refine us_aload_nF hR dL_law_307 rfl ?_
    refine us_iload hR dL_law_308 rfl ?_
    refine us_iconstC hR dL_law_310 (c := 1) (by decide) ?_
    refine us_iadd hR dL_law_311 ?_
    refine us_scr hR dL_law_312 rfl (hv 1 (by decide) (by decide)) ?_
    refine us_callV hR dL_law_313 (y := 12008) (a := 74) (by decide +kernel) (by decide) (J := i12008) rfl rfl rfl rfl hJ1.1.2.1 rfl (Nat.le_of_ble_eq_true rfl) (Nat.zero_le _) (Nat.zero_le _) ?_
    have hf0 : f_12008 ((scX (i + 1).toNatClampNeg)) m = (m1, r) := by injection hf
    refine sp_12008 (d := 998) (G := G1) (ad := lad) (I := gI G1) hJ1.1 hJ1.2.1 (fun I1 o ho hP hF => ?_)
    obtain rfl := ho.trans hf0
    have hL := LIw.md r1 hJ1 hP hF hS1
    refine us_istore hR dL_law_316 (Nat.le_of_ble_eq_true rfl) ?_
    refine us_aload_n hR dL_law_318 rfl ?_
    refine us_callV hR dL_law_319 (y := 12001) (a := 74) (by decide +kernel) (by decide) (J := i12001) rfl rfl rfl rfl hJ1.1.2.1 rfl (Nat.le_of_ble_eq_true rfl) (Nat.zero_le _) (Nat.zero_le _) ?_
    refine sp_12001 (d := 999) (G := G1) (ad := lad) (I := I1) hJ1.1 hP ?_
    refine us_iload hR dL_law_322 rfl ?_
    refine us_icmp_eq hR dL_law_324 329 (by decide) (fun _ => ?_) (fun c => absurd e82.symm c)
    refine us_iload hR dL_law_329 rfl ?_
    refine us_if_ne hR dL_law_331 346 (by decide) (fun _ => ?_) (fun c0 => ?_)
    · skip
      refine us_goto hR dL_law_346 2023 (by decide) ?_
      refine hn _ _ _ _ _ _ hL ?_ ?_
      · show bc ≤ bc - 500 - 0 - 0 + 500; omega
      · show bs ≤ bs - 10000 - 0 - 0 + 10000; omega
    · refine us_aload_n hR dL_law_334 rfl ?_
      refine us_iconstC hR dL_law_335 (c := 0) (by decide) ?_
      refine us_laload hR dL_law_336 hJ1.2.2.1 (by rw [show gN (gW G1 I1) 126 = 1 from hJ1.2.2.2]; exact vi_in ⟨by decide, by decide⟩) ?_
      refine us_iload hR dL_law_337 rfl ?_
      refine us_i2l hR dL_law_339 ?_
      refine us_lcmp hR dL_law_340 ?_
      refine us_if_eq hR dL_law_341 346 (by decide) (fun _ => ?_) (fun c => absurd (lcmp_e (eJ c0)) c)
      refine us_goto hR dL_law_346 2023 (by decide) ?_
      refine hn _ _ _ _ _ _ hL ?_ ?_
      · show bc ≤ bc - 500 - 0 - 0 + 500; omega
      · show bs ≤ bs - 10000 - 0 - 0 + 10000; omega
  refine us_callS hR dL_law_301 (y := 13001) (by decide +kernel) (by decide) (J := i13001) rfl rfl rfl rfl (Nat.le_of_ble_eq_true rfl) hb1 hb2 ?_
  refine st_13001 (d := 989) hT h.1.1 lF_o hJ.2.2.1 hJ.2.2.2 hh (fun e he => by
    rcases hu with ⟨v, k1, k2, k3⟩ | ⟨e', k1, k2, k3⟩
    · rw [show (T1, u).2 = .inr v from k1] at he; cases he
    · rw [show (T1, u).2 = .inl e' from k1] at he
      cases he
      exact k2) (fun G1 v he r1 f1 => ?_) (fun G1 e he r1 f1 => ?_)
  · refine rest _ _ r1.sj (hJ.sm f1).sj ?_ (fun _ => ?_)
    · rcases hu with ⟨v', k1, k2, k3⟩ | ⟨e', k1, k2, k3⟩
      · exact k2.symm
      · rw [show (T1, u).2 = .inl e' from k1] at he; cases he
    · rcases hu with ⟨v', k1, k2, k3⟩ | ⟨e', k1, k2, k3⟩
      · rw [show (T1, u).2 = .inr v' from k1] at he
        cases he
        rw [gJ_s, k3]
      · rw [show (T1, u).2 = .inl e' from k1] at he; cases he
  · refine rest _ _ r1 (hJ.sm f1) ?_ (fun z => ?_)
    · rcases hu with ⟨v', k1, k2, k3⟩ | ⟨e', k1, k2, k3⟩
      · rw [show (T1, u).2 = .inr v' from k1] at he; cases he
      · rw [show (T1, u).2 = .inl e' from k1] at he
        cases he
        exact k3.symm
    · rcases hu with ⟨v', k1, k2, k3⟩ | ⟨e', k1, k2, k3⟩
      · rw [show (T1, u).2 = .inr v' from k1] at he; cases he
      · rw [show (T1, u).2 = .inl e' from k1] at he
        cases he
        exact absurd z k2
theorem lc_3 (hR : ab_Cl 1000 (ab_Gam 1000) 13 i_law scL scX P X R) (hI : LIw G m) (hv : ∀ c : Int32, 0 ≤ c.toInt → c.toInt < 8 → vp_in (i + c) (scL - 1)) (hb1 : 500 ≤ bc) (hb2 : 10000 ≤ bs) (hn : ∀ G1 m1 u5 u6 bc1 bs1, LIw G1 m1 → bc ≤ bc1 + 500 → bs ≤ bs1 + 10000 → R 2023 [some (.float 0), some (.ref 0), some (.ref 74), some (.ref 126), some (.int i), u5, u6] [] G1 bc1 bs1) : R 349 [some (.float 0), some (.ref 0), some (.ref 74), some (.ref 126), some (.int i), w5, w6] [] G bc bs := by
  obtain ⟨T, hT, hS, hJ⟩ := hI
  refine us_aload_n hR dL_law_349 rfl ?_
  obtain ⟨_, _, _, _, _, _, _, _, _, h⟩ := hS
  have hc : ∃ v, h_11004 0 T = some v ∧ f_12009 m = (mp m 82 0, v) := ⟨_, (c_length h).1, (c_length h).2⟩
  obtain ⟨v, hh, hf⟩ := hc
  have hS1 : SINV 0 T (mp m 82 0) := ⟨_, _, _, _, _, _, _, _, _, h.mm m82⟩
  refine us_callV hR dL_law_350 (y := 11004) (by decide +kernel) (by decide) (J := i11004) rfl rfl rfl rfl (H_sch hT h.1.1) rfl (Nat.le_of_ble_eq_true rfl) (Nat.zero_le _) (Nat.zero_le _) ?_
  refine sh_11004 (d := 998) hT hh ?_
  refine us_aload_n hR dL_law_353 rfl ?_
  refine us_callV hR dL_law_354 (y := 12009) (a := 74) (by decide +kernel) (by decide) (J := i12009) rfl rfl rfl rfl hJ.1.2.1 rfl (Nat.le_of_ble_eq_true rfl) (Nat.zero_le _) (Nat.zero_le _) ?_
  refine sp_12009 (d := 998) (G := G) (ad := lad) (I := gI G) hJ.1 hJ.2.1 (fun I1 o ho hP hF => ?_)
  obtain rfl := ho.trans hf
  refine us_icmp_eq hR dL_law_357 2023 (by decide) (fun _ => ?_) (fun c => absurd rfl c)
  refine hn _ _ _ _ _ _ (LIw.md hT hJ hP hF hS1) ?_ ?_
  · show bc ≤ bc - 0 - 0 + 500; omega
  · show bs ≤ bs - 0 - 0 + 10000; omega
theorem lc_4 (hR : ab_Cl 1000 (ab_Gam 1000) 13 i_law scL scX P X R) (hI : LIw G m) (hv : ∀ c : Int32, 0 ≤ c.toInt → c.toInt < 8 → vp_in (i + c) (scL - 1)) (hb1 : 500 ≤ bc) (hb2 : 10000 ≤ bs) (hn : ∀ G1 m1 u5 u6 bc1 bs1, LIw G1 m1 → bc ≤ bc1 + 500 → bs ≤ bs1 + 10000 → R 2023 [some (.float 0), some (.ref 0), some (.ref 74), some (.ref 126), some (.int i), u5, u6] [] G1 bc1 bs1) : R 362 [some (.float 0), some (.ref 0), some (.ref 74), some (.ref 126), some (.int i), w5, w6] [] G bc bs := by
  obtain ⟨T, hT, hS, hJ⟩ := hI
  refine us_aload_n hR dL_law_362 rfl ?_
  refine us_aload_nF hR dL_law_363 rfl ?_
  refine us_iload hR dL_law_364 rfl ?_
  refine us_iconstC hR dL_law_366 (c := 1) (by decide) ?_
  refine us_iadd hR dL_law_367 ?_
  refine us_scr hR dL_law_368 rfl (hv 1 (by decide) (by decide)) ?_
  refine us_aload_n hR dL_law_369 rfl ?_
  obtain ⟨_, _, _, _, _, _, _, _, _, h⟩ := hS
  have hc : SameR (h_11005 0 ((scX (i + 1).toNatClampNeg)) T) (f_12010 ((scX (i + 1).toNatClampNeg)) m) cD (SINV 0 T) := c_signAt h
  obtain ⟨m1, r, u, hh, hf, hS1, hu⟩ := hc
  have rest : ∀ (G1 : ab_G) (k5 : Int32), Rep2 lF G1 T → LJ G1 m → k5 = m1 0 82 → (k5 = 0 → gJ G1 126 0 = r.toInt64) → R 373 [some (.float 0), some (.ref 0), some (.ref 74), some (.ref 126), some (.int i), w5, w6] [.int k5] G1 (bc - 500) (bs - 10000) := by
    intro G1 k5 r1 hJ1 e82 eJ
    refine us_istore hR dL_law_373 (Nat.le_of_ble_eq_true rfl) ?_
    refine us_aload_n hR dL_law_375 rfl ?_
    refine us_aload_nF hR dL_law_376 rfl ?_
    refine us_iload hR dL_law_377 rfl ?_
    refine us_iconstC hR dL_law_379 (c := 1) (by decide) ?_
    refine us_iadd hR dL_law_380 ?_
    refine us_scr hR dL_law_381 rfl (hv 1 (by decide) (by decide)) ?_
    refine us_callV hR dL_law_382 (y := 12010) (a := 74) (by decide +kernel) (by decide) (J := i12010) rfl rfl rfl rfl hJ1.1.2.1 rfl (Nat.le_of_ble_eq_true rfl) (Nat.zero_le _) (Nat.zero_le _) ?_
    refine sp_12010 (d := 998) (G := G1) (ad := lad) (I := gI G1) hJ1.1 hJ1.2.1 hf (fun I1 hP hF => ?_)
    have hL := LIw.md r1 hJ1 hP hF hS1
    refine us_istore hR dL_law_385 (Nat.le_of_ble_eq_true rfl) ?_
    refine us_aload_n hR dL_law_387 rfl ?_
    refine us_callV hR dL_law_388 (y := 12001) (a := 74) (by decide +kernel) (by decide) (J := i12001) rfl rfl rfl rfl hJ1.1.2.1 rfl (Nat.le_of_ble_eq_true rfl) (Nat.zero_le _) (Nat.zero_le _) ?_
    refine sp_12001 (d := 999) (G := G1) (ad := lad) (I := I1) hJ1.1 hP ?_
    refine us_iload hR dL_law_391 rfl ?_
    refine us_icmp_eq hR dL_law_393 398 (by decide) (fun _ => ?_) (fun c => absurd e82.symm c)
    refine us_iload hR dL_law_398 rfl ?_
    refine us_if_ne hR dL_law_400 415 (by decide) (fun _ => ?_) (fun c0 => ?_)
    · skip
      refine us_goto hR dL_law_415 2023 (by decide) ?_
      refine hn _ _ _ _ _ _ hL ?_ ?_
      · show bc ≤ bc - 500 - 0 - 0 + 500; omega
      · show bs ≤ bs - 10000 - 0 - 0 + 10000; omega
    · refine us_aload_n hR dL_law_403 rfl ?_
      refine us_iconstC hR dL_law_404 (c := 0) (by decide) ?_
      refine us_laload hR dL_law_405 hJ1.2.2.1 (by rw [show gN (gW G1 I1) 126 = 1 from hJ1.2.2.2]; exact vi_in ⟨by decide, by decide⟩) ?_
      refine us_iload hR dL_law_406 rfl ?_
      refine us_i2l hR dL_law_408 ?_
      refine us_lcmp hR dL_law_409 ?_
      refine us_if_eq hR dL_law_410 415 (by decide) (fun _ => ?_) (fun c => absurd (lcmp_e (eJ c0)) c)
      refine us_goto hR dL_law_415 2023 (by decide) ?_
      refine hn _ _ _ _ _ _ hL ?_ ?_
      · show bc ≤ bc - 500 - 0 - 0 + 500; omega
      · show bs ≤ bs - 10000 - 0 - 0 + 10000; omega
  refine us_callS hR dL_law_370 (y := 13002) (by decide +kernel) (by decide) (J := i13002) rfl rfl rfl rfl (Nat.le_of_ble_eq_true rfl) hb1 hb2 ?_
  refine st_13002 (d := 989) hT h.1.1 lF_o hJ.2.2.1 hJ.2.2.2 hh (fun e he => by
    rcases hu with ⟨v, k1, k2, k3⟩ | ⟨e', k1, k2, k3⟩
    · rw [show u = .inr v from k1] at he; cases he
    · rw [show u = .inl e' from k1] at he
      cases he
      exact k2) (fun v he => ?_) (fun e he => ?_)
  · refine rest _ _ hT.sj hJ.sj ?_ (fun _ => ?_)
    · rcases hu with ⟨v', k1, k2, k3⟩ | ⟨e', k1, k2, k3⟩
      · exact k2.symm
      · rw [show u = .inl e' from k1] at he; cases he
    · rcases hu with ⟨v', k1, k2, k3⟩ | ⟨e', k1, k2, k3⟩
      · rw [show u = .inr v' from k1] at he
        cases he
        rw [gJ_s, k3]
      · rw [show u = .inl e' from k1] at he; cases he
  · refine rest _ _ hT hJ ?_ (fun z => ?_)
    · rcases hu with ⟨v', k1, k2, k3⟩ | ⟨e', k1, k2, k3⟩
      · rw [show u = .inr v' from k1] at he; cases he
      · rw [show u = .inl e' from k1] at he
        cases he
        exact k3.symm
    · rcases hu with ⟨v', k1, k2, k3⟩ | ⟨e', k1, k2, k3⟩
      · rw [show u = .inr v' from k1] at he; cases he
      · rw [show u = .inl e' from k1] at he
        cases he
        exact absurd z k2
theorem lc_5 (hR : ab_Cl 1000 (ab_Gam 1000) 13 i_law scL scX P X R) (hI : LIw G m) (hv : ∀ c : Int32, 0 ≤ c.toInt → c.toInt < 8 → vp_in (i + c) (scL - 1)) (hb1 : 500 ≤ bc) (hb2 : 10000 ≤ bs) (hn : ∀ G1 m1 u5 u6 bc1 bs1, LIw G1 m1 → bc ≤ bc1 + 500 → bs ≤ bs1 + 10000 → R 2023 [some (.float 0), some (.ref 0), some (.ref 74), some (.ref 126), some (.int i), u5, u6] [] G1 bc1 bs1) : R 418 [some (.float 0), some (.ref 0), some (.ref 74), some (.ref 126), some (.int i), w5, w6] [] G bc bs := by
  obtain ⟨T, hT, hS, hJ⟩ := hI
  refine us_aload_n hR dL_law_418 rfl ?_
  obtain ⟨_, _, _, _, _, _, _, _, _, h⟩ := hS
  obtain ⟨T1, m1, v, hh, hf, hS1⟩ := c_fault h
  refine us_callV hR dL_law_419 (y := 11006) (by decide +kernel) (by decide) (J := i11006) rfl rfl rfl rfl (H_sch hT h.1.1) rfl (Nat.le_of_ble_eq_true rfl) hb1 hb2 ?_
  refine sh_11006 (d := 85) hT hh (fun G1 r1 f1 => ?_)
  have hJ1 := hJ.sm f1
  refine us_aload_n hR dL_law_422 rfl ?_
  refine us_callV hR dL_law_423 (y := 12073) (a := 74) (by decide +kernel) (by decide) (J := i12073) rfl rfl rfl rfl hJ1.1.2.1 rfl (Nat.le_of_ble_eq_true rfl) (Nat.zero_le _) (Nat.zero_le _) ?_
  refine sp_12073 (d := 990) (G := G1) (ad := lad) (I := gI G1) hJ1.1 hJ1.2.1 hf (fun I1 hP hF => ?_)
  refine us_icmp_eq hR dL_law_426 2023 (by decide) (fun _ => ?_) (fun c => absurd rfl c)
  refine hn _ _ _ _ _ _ (LIw.md r1 hJ1 hP hF hS1) ?_ ?_
  · show bc ≤ bc - 500 - 0 + 500; omega
  · show bs ≤ bs - 10000 - 0 + 10000; omega
theorem lc_6 (hR : ab_Cl 1000 (ab_Gam 1000) 13 i_law scL scX P X R) (hI : LIw G m) (hv : ∀ c : Int32, 0 ≤ c.toInt → c.toInt < 8 → vp_in (i + c) (scL - 1)) (hb1 : 500 ≤ bc) (hb2 : 10000 ≤ bs) (hn : ∀ G1 m1 u5 u6 bc1 bs1, LIw G1 m1 → bc ≤ bc1 + 500 → bs ≤ bs1 + 10000 → R 2023 [some (.float 0), some (.ref 0), some (.ref 74), some (.ref 126), some (.int i), u5, u6] [] G1 bc1 bs1) : R 431 [some (.float 0), some (.ref 0), some (.ref 74), some (.ref 126), some (.int i), w5, w6] [] G bc bs := by
  obtain ⟨T, hT, hS, hJ⟩ := hI
  refine us_aload_n hR dL_law_431 rfl ?_
  obtain ⟨_, _, _, _, _, _, _, _, _, h⟩ := hS
  obtain ⟨T1, m1, v, hh, hf, hS1⟩ := c_faultPlace h
  refine us_callV hR dL_law_432 (y := 11007) (by decide +kernel) (by decide) (J := i11007) rfl rfl rfl rfl (H_sch hT h.1.1) rfl (Nat.le_of_ble_eq_true rfl) hb1 hb2 ?_
  refine sh_11007 (d := 85) hT hh (fun G1 r1 f1 => ?_)
  have hJ1 := hJ.sm f1
  refine us_aload_n hR dL_law_435 rfl ?_
  refine us_callV hR dL_law_436 (y := 12074) (a := 74) (by decide +kernel) (by decide) (J := i12074) rfl rfl rfl rfl hJ1.1.2.1 rfl (Nat.le_of_ble_eq_true rfl) (Nat.zero_le _) (Nat.zero_le _) ?_
  refine sp_12074 (d := 990) (G := G1) (ad := lad) (I := gI G1) hJ1.1 hJ1.2.1 hf (fun I1 hP hF => ?_)
  refine us_icmp_eq hR dL_law_439 2023 (by decide) (fun _ => ?_) (fun c => absurd rfl c)
  refine hn _ _ _ _ _ _ (LIw.md r1 hJ1 hP hF hS1) ?_ ?_
  · show bc ≤ bc - 500 - 0 + 500; omega
  · show bs ≤ bs - 10000 - 0 + 10000; omega
theorem lc_7 (hR : ab_Cl 1000 (ab_Gam 1000) 13 i_law scL scX P X R) (hI : LIw G m) (hv : ∀ c : Int32, 0 ≤ c.toInt → c.toInt < 8 → vp_in (i + c) (scL - 1)) (hb1 : 500 ≤ bc) (hb2 : 10000 ≤ bs) (hn : ∀ G1 m1 u5 u6 bc1 bs1, LIw G1 m1 → bc ≤ bc1 + 500 → bs ≤ bs1 + 10000 → R 2023 [some (.float 0), some (.ref 0), some (.ref 74), some (.ref 126), some (.int i), u5, u6] [] G1 bc1 bs1) : R 444 [some (.float 0), some (.ref 0), some (.ref 74), some (.ref 126), some (.int i), w5, w6] [] G bc bs := by
  obtain ⟨T, hT, hS, hJ⟩ := hI
  refine us_aload_n hR dL_law_444 rfl ?_
  refine us_aload_n hR dL_law_445 rfl ?_
  obtain ⟨_, _, _, _, _, _, _, _, _, h⟩ := hS
  have hc : SameT (h_11008 0  T) (f_12075  m) cF (SINV 0) := c_draftParts h
  obtain ⟨T1, m1, r, u, hh, hf, hS1, hu⟩ := hc
  have rest : ∀ (G1 : ab_G) (k5 : Int32), Rep2 lF G1 T1 → LJ G1 m → k5 = m1 0 82 → (k5 = 0 → gJ G1 126 0 = r.toInt64) → R 449 [some (.float 0), some (.ref 0), some (.ref 74), some (.ref 126), some (.int i), w5, w6] [.int k5] G1 (bc - 500) (bs - 10000) := by
    intro G1 k5 r1 hJ1 e82 eJ
    refine us_istore hR dL_law_449 (Nat.le_of_ble_eq_true rfl) ?_
    refine us_aload_n hR dL_law_451 rfl ?_
    refine us_callV hR dL_law_452 (y := 12075) (a := 74) (by decide +kernel) (by decide) (J := i12075) rfl rfl rfl rfl hJ1.1.2.1 rfl (Nat.le_of_ble_eq_true rfl) (Nat.zero_le _) (Nat.zero_le _) ?_
    refine sp_12075 (d := 990) (G := G1) (ad := lad) (I := gI G1) hJ1.1 hJ1.2.1 hf (fun I1 hP hF => ?_)
    have hL := LIw.md r1 hJ1 hP hF hS1
    refine us_istore hR dL_law_455 (Nat.le_of_ble_eq_true rfl) ?_
    refine us_aload_n hR dL_law_457 rfl ?_
    refine us_callV hR dL_law_458 (y := 12001) (a := 74) (by decide +kernel) (by decide) (J := i12001) rfl rfl rfl rfl hJ1.1.2.1 rfl (Nat.le_of_ble_eq_true rfl) (Nat.zero_le _) (Nat.zero_le _) ?_
    refine sp_12001 (d := 999) (G := G1) (ad := lad) (I := I1) hJ1.1 hP ?_
    refine us_iload hR dL_law_461 rfl ?_
    refine us_icmp_eq hR dL_law_463 468 (by decide) (fun _ => ?_) (fun c => absurd e82.symm c)
    refine us_iload hR dL_law_468 rfl ?_
    refine us_if_ne hR dL_law_470 485 (by decide) (fun _ => ?_) (fun c0 => ?_)
    · skip
      refine us_goto hR dL_law_485 2023 (by decide) ?_
      refine hn _ _ _ _ _ _ hL ?_ ?_
      · show bc ≤ bc - 500 - 0 - 0 + 500; omega
      · show bs ≤ bs - 10000 - 0 - 0 + 10000; omega
    · refine us_aload_n hR dL_law_473 rfl ?_
      refine us_iconstC hR dL_law_474 (c := 0) (by decide) ?_
      refine us_laload hR dL_law_475 hJ1.2.2.1 (by rw [show gN (gW G1 I1) 126 = 1 from hJ1.2.2.2]; exact vi_in ⟨by decide, by decide⟩) ?_
      refine us_iload hR dL_law_476 rfl ?_
      refine us_i2l hR dL_law_478 ?_
      refine us_lcmp hR dL_law_479 ?_
      refine us_if_eq hR dL_law_480 485 (by decide) (fun _ => ?_) (fun c => absurd (lcmp_e (eJ c0)) c)
      refine us_goto hR dL_law_485 2023 (by decide) ?_
      refine hn _ _ _ _ _ _ hL ?_ ?_
      · show bc ≤ bc - 500 - 0 - 0 + 500; omega
      · show bs ≤ bs - 10000 - 0 - 0 + 10000; omega
  refine us_callS hR dL_law_446 (y := 13003) (by decide +kernel) (by decide) (J := i13003) rfl rfl rfl rfl (Nat.le_of_ble_eq_true rfl) hb1 hb2 ?_
  refine st_13003 (d := 84) hT h.1.1 lF_o hJ.2.2.1 hJ.2.2.2 hh (fun e he => by
    rcases hu with ⟨v, k1, k2, k3⟩ | ⟨e', k1, k2, k3⟩
    · rw [show (T1, u).2 = .inr v from k1] at he; cases he
    · rw [show (T1, u).2 = .inl e' from k1] at he
      cases he
      exact k2) (fun G1 v he r1 f1 => ?_) (fun G1 e he r1 f1 => ?_)
  · refine rest _ _ r1.sj (hJ.sm f1).sj ?_ (fun _ => ?_)
    · rcases hu with ⟨v', k1, k2, k3⟩ | ⟨e', k1, k2, k3⟩
      · exact k2.symm
      · rw [show (T1, u).2 = .inl e' from k1] at he; cases he
    · rcases hu with ⟨v', k1, k2, k3⟩ | ⟨e', k1, k2, k3⟩
      · rw [show (T1, u).2 = .inr v' from k1] at he
        cases he
        rw [gJ_s, k3]
      · rw [show (T1, u).2 = .inl e' from k1] at he; cases he
  · refine rest _ _ r1 (hJ.sm f1) ?_ (fun z => ?_)
    · rcases hu with ⟨v', k1, k2, k3⟩ | ⟨e', k1, k2, k3⟩
      · rw [show (T1, u).2 = .inr v' from k1] at he; cases he
      · rw [show (T1, u).2 = .inl e' from k1] at he
        cases he
        exact k3.symm
    · rcases hu with ⟨v', k1, k2, k3⟩ | ⟨e', k1, k2, k3⟩
      · rw [show (T1, u).2 = .inr v' from k1] at he; cases he
      · rw [show (T1, u).2 = .inl e' from k1] at he
        cases he
        exact absurd z k2
theorem lc_8 (hR : ab_Cl 1000 (ab_Gam 1000) 13 i_law scL scX P X R) (hI : LIw G m) (hv : ∀ c : Int32, 0 ≤ c.toInt → c.toInt < 8 → vp_in (i + c) (scL - 1)) (hb1 : 500 ≤ bc) (hb2 : 10000 ≤ bs) (hn : ∀ G1 m1 u5 u6 bc1 bs1, LIw G1 m1 → bc ≤ bc1 + 500 → bs ≤ bs1 + 10000 → R 2023 [some (.float 0), some (.ref 0), some (.ref 74), some (.ref 126), some (.int i), u5, u6] [] G1 bc1 bs1) : R 488 [some (.float 0), some (.ref 0), some (.ref 74), some (.ref 126), some (.int i), w5, w6] [] G bc bs := by
  obtain ⟨T, hT, hS, hJ⟩ := hI
  refine us_aload_n hR dL_law_488 rfl ?_
  refine us_aload_nF hR dL_law_489 rfl ?_
  refine us_iload hR dL_law_490 rfl ?_
  refine us_iconstC hR dL_law_492 (c := 1) (by decide) ?_
  refine us_iadd hR dL_law_493 ?_
  refine us_scr hR dL_law_494 rfl (hv 1 (by decide) (by decide)) ?_
  refine us_aload_nF hR dL_law_495 rfl ?_
  refine us_iload hR dL_law_496 rfl ?_
  refine us_iconstC hR dL_law_498 (c := 2) (by decide) ?_
  refine us_iadd hR dL_law_499 ?_
  refine us_scr hR dL_law_500 rfl (hv 2 (by decide) (by decide)) ?_
  refine us_aload_nF hR dL_law_501 rfl ?_
  refine us_iload hR dL_law_502 rfl ?_
  refine us_iconstC hR dL_law_504 (c := 3) (by decide) ?_
  refine us_iadd hR dL_law_505 ?_
  refine us_scr hR dL_law_506 rfl (hv 3 (by decide) (by decide)) ?_
  refine us_aload_n hR dL_law_507 rfl ?_
  obtain ⟨_, _, _, _, _, _, _, _, _, h⟩ := hS
  have hc : SameT (h_11009 0 ((scX (i + 1).toNatClampNeg)) ((scX (i + 2).toNatClampNeg)) ((scX (i + 3).toNatClampNeg)) T) (f_12076 ((scX (i + 1).toNatClampNeg)) ((scX (i + 2).toNatClampNeg)) ((scX (i + 3).toNatClampNeg)) m) cA (SINV 0) := c_trial h
  obtain ⟨T1, m1, r, u, hh, hf, hS1, hu⟩ := hc
  have rest : ∀ (G1 : ab_G) (k5 : Int32), Rep2 lF G1 T1 → LJ G1 m → k5 = m1 0 82 → (k5 = 0 → gJ G1 126 0 = r.toInt64) → R 511 [some (.float 0), some (.ref 0), some (.ref 74), some (.ref 126), some (.int i), w5, w6] [.int k5] G1 (bc - 500) (bs - 10000) := by
    intro G1 k5 r1 hJ1 e82 eJ
    refine us_istore hR dL_law_511 (Nat.le_of_ble_eq_true rfl) ?_
    refine us_aload_n hR dL_law_513 rfl ?_
    refine us_aload_nF hR dL_law_514 rfl ?_
    refine us_iload hR dL_law_515 rfl ?_
    refine us_iconstC hR dL_law_517 (c := 1) (by decide) ?_
    refine us_iadd hR dL_law_518 ?_
    refine us_scr hR dL_law_519 rfl (hv 1 (by decide) (by decide)) ?_
    refine us_aload_nF hR dL_law_520 rfl ?_
    refine us_iload hR dL_law_521 rfl ?_
    refine us_iconstC hR dL_law_523 (c := 2) (by decide) ?_
    refine us_iadd hR dL_law_524 ?_
    refine us_scr hR dL_law_525 rfl (hv 2 (by decide) (by decide)) ?_
    refine us_aload_nF hR dL_law_526 rfl ?_
    refine us_iload hR dL_law_527 rfl ?_
    refine us_iconstC hR dL_law_529 (c := 3) (by decide) ?_
    refine us_iadd hR dL_law_530 ?_
    refine us_scr hR dL_law_531 rfl (hv 3 (by decide) (by decide)) ?_
    refine us_callV hR dL_law_532 (y := 12076) (a := 74) (by decide +kernel) (by decide) (J := i12076) rfl rfl rfl rfl hJ1.1.2.1 rfl (Nat.le_of_ble_eq_true rfl) (Nat.zero_le _) (Nat.zero_le _) ?_
    refine sp_12076 (d := 990) (G := G1) (ad := lad) (I := gI G1) hJ1.1 hJ1.2.1 hf (fun I1 hP hF => ?_)
    have hL := LIw.md r1 hJ1 hP hF hS1
    refine us_istore hR dL_law_535 (Nat.le_of_ble_eq_true rfl) ?_
    refine us_aload_n hR dL_law_537 rfl ?_
    refine us_callV hR dL_law_538 (y := 12001) (a := 74) (by decide +kernel) (by decide) (J := i12001) rfl rfl rfl rfl hJ1.1.2.1 rfl (Nat.le_of_ble_eq_true rfl) (Nat.zero_le _) (Nat.zero_le _) ?_
    refine sp_12001 (d := 999) (G := G1) (ad := lad) (I := I1) hJ1.1 hP ?_
    refine us_iload hR dL_law_541 rfl ?_
    refine us_icmp_eq hR dL_law_543 548 (by decide) (fun _ => ?_) (fun c => absurd e82.symm c)
    refine us_iload hR dL_law_548 rfl ?_
    refine us_if_ne hR dL_law_550 565 (by decide) (fun _ => ?_) (fun c0 => ?_)
    · skip
      refine us_goto hR dL_law_565 2023 (by decide) ?_
      refine hn _ _ _ _ _ _ hL ?_ ?_
      · show bc ≤ bc - 500 - 0 - 0 + 500; omega
      · show bs ≤ bs - 10000 - 0 - 0 + 10000; omega
    · refine us_aload_n hR dL_law_553 rfl ?_
      refine us_iconstC hR dL_law_554 (c := 0) (by decide) ?_
      refine us_laload hR dL_law_555 hJ1.2.2.1 (by rw [show gN (gW G1 I1) 126 = 1 from hJ1.2.2.2]; exact vi_in ⟨by decide, by decide⟩) ?_
      refine us_iload hR dL_law_556 rfl ?_
      refine us_i2l hR dL_law_558 ?_
      refine us_lcmp hR dL_law_559 ?_
      refine us_if_eq hR dL_law_560 565 (by decide) (fun _ => ?_) (fun c => absurd (lcmp_e (eJ c0)) c)
      refine us_goto hR dL_law_565 2023 (by decide) ?_
      refine hn _ _ _ _ _ _ hL ?_ ?_
      · show bc ≤ bc - 500 - 0 - 0 + 500; omega
      · show bs ≤ bs - 10000 - 0 - 0 + 10000; omega
  refine us_callS hR dL_law_508 (y := 13004) (by decide +kernel) (by decide) (J := i13004) rfl rfl rfl rfl (Nat.le_of_ble_eq_true rfl) hb1 hb2 ?_
  refine st_13004 (d := 84) hT h.1.1 lF_o hJ.2.2.1 hJ.2.2.2 hh (fun e he => by
    rcases hu with ⟨v, k1, k2, k3⟩ | ⟨e', k1, k2, k3⟩
    · rw [show (T1, u).2 = .inr v from k1] at he; cases he
    · rw [show (T1, u).2 = .inl e' from k1] at he
      cases he
      exact k2) (fun G1 v he r1 f1 => ?_) (fun G1 e he r1 f1 => ?_)
  · refine rest _ _ r1.sj (hJ.sm f1).sj ?_ (fun _ => ?_)
    · rcases hu with ⟨v', k1, k2, k3⟩ | ⟨e', k1, k2, k3⟩
      · exact k2.symm
      · rw [show (T1, u).2 = .inl e' from k1] at he; cases he
    · rcases hu with ⟨v', k1, k2, k3⟩ | ⟨e', k1, k2, k3⟩
      · rw [show (T1, u).2 = .inr v' from k1] at he
        cases he
        rw [gJ_s, k3]
      · rw [show (T1, u).2 = .inl e' from k1] at he; cases he
  · refine rest _ _ r1 (hJ.sm f1) ?_ (fun z => ?_)
    · rcases hu with ⟨v', k1, k2, k3⟩ | ⟨e', k1, k2, k3⟩
      · rw [show (T1, u).2 = .inr v' from k1] at he; cases he
      · rw [show (T1, u).2 = .inl e' from k1] at he
        cases he
        exact k3.symm
    · rcases hu with ⟨v', k1, k2, k3⟩ | ⟨e', k1, k2, k3⟩
      · rw [show (T1, u).2 = .inr v' from k1] at he; cases he
      · rw [show (T1, u).2 = .inl e' from k1] at he
        cases he
        exact absurd z k2
theorem lc_9 (hR : ab_Cl 1000 (ab_Gam 1000) 13 i_law scL scX P X R) (hI : LIw G m) (hv : ∀ c : Int32, 0 ≤ c.toInt → c.toInt < 8 → vp_in (i + c) (scL - 1)) (hb1 : 500 ≤ bc) (hb2 : 10000 ≤ bs) (hn : ∀ G1 m1 u5 u6 bc1 bs1, LIw G1 m1 → bc ≤ bc1 + 500 → bs ≤ bs1 + 10000 → R 2023 [some (.float 0), some (.ref 0), some (.ref 74), some (.ref 126), some (.int i), u5, u6] [] G1 bc1 bs1) : R 568 [some (.float 0), some (.ref 0), some (.ref 74), some (.ref 126), some (.int i), w5, w6] [] G bc bs := by
  obtain ⟨T, hT, hS, hJ⟩ := hI
  refine us_aload_n hR dL_law_568 rfl ?_
  refine us_aload_nF hR dL_law_569 rfl ?_
  refine us_iload hR dL_law_570 rfl ?_
  refine us_iconstC hR dL_law_572 (c := 1) (by decide) ?_
  refine us_iadd hR dL_law_573 ?_
  refine us_scr hR dL_law_574 rfl (hv 1 (by decide) (by decide)) ?_
  refine us_aload_nF hR dL_law_575 rfl ?_
  refine us_iload hR dL_law_576 rfl ?_
  refine us_iconstC hR dL_law_578 (c := 2) (by decide) ?_
  refine us_iadd hR dL_law_579 ?_
  refine us_scr hR dL_law_580 rfl (hv 2 (by decide) (by decide)) ?_
  refine us_aload_nF hR dL_law_581 rfl ?_
  refine us_iload hR dL_law_582 rfl ?_
  refine us_iconstC hR dL_law_584 (c := 3) (by decide) ?_
  refine us_iadd hR dL_law_585 ?_
  refine us_scr hR dL_law_586 rfl (hv 3 (by decide) (by decide)) ?_
  refine us_aload_n hR dL_law_587 rfl ?_
  obtain ⟨_, _, _, _, _, _, _, _, _, h⟩ := hS
  have hc : SameT (h_11010 0 ((scX (i + 1).toNatClampNeg)) ((scX (i + 2).toNatClampNeg)) ((scX (i + 3).toNatClampNeg)) T) (f_12077 ((scX (i + 1).toNatClampNeg)) ((scX (i + 2).toNatClampNeg)) ((scX (i + 3).toNatClampNeg)) m) cA (SINV 0) := c_tree h
  obtain ⟨T1, m1, r, u, hh, hf, hS1, hu⟩ := hc
  have rest : ∀ (G1 : ab_G) (k5 : Int32), Rep2 lF G1 T1 → LJ G1 m → k5 = m1 0 82 → (k5 = 0 → gJ G1 126 0 = r.toInt64) → R 591 [some (.float 0), some (.ref 0), some (.ref 74), some (.ref 126), some (.int i), w5, w6] [.int k5] G1 (bc - 500) (bs - 10000) := by
    intro G1 k5 r1 hJ1 e82 eJ
    refine us_istore hR dL_law_591 (Nat.le_of_ble_eq_true rfl) ?_
    refine us_aload_n hR dL_law_593 rfl ?_
    refine us_aload_nF hR dL_law_594 rfl ?_
    refine us_iload hR dL_law_595 rfl ?_
    refine us_iconstC hR dL_law_597 (c := 1) (by decide) ?_
    refine us_iadd hR dL_law_598 ?_
    refine us_scr hR dL_law_599 rfl (hv 1 (by decide) (by decide)) ?_
    refine us_aload_nF hR dL_law_600 rfl ?_
    refine us_iload hR dL_law_601 rfl ?_
    refine us_iconstC hR dL_law_603 (c := 2) (by decide) ?_
    refine us_iadd hR dL_law_604 ?_
    refine us_scr hR dL_law_605 rfl (hv 2 (by decide) (by decide)) ?_
    refine us_aload_nF hR dL_law_606 rfl ?_
    refine us_iload hR dL_law_607 rfl ?_
    refine us_iconstC hR dL_law_609 (c := 3) (by decide) ?_
    refine us_iadd hR dL_law_610 ?_
    refine us_scr hR dL_law_611 rfl (hv 3 (by decide) (by decide)) ?_
    refine us_callV hR dL_law_612 (y := 12077) (a := 74) (by decide +kernel) (by decide) (J := i12077) rfl rfl rfl rfl hJ1.1.2.1 rfl (Nat.le_of_ble_eq_true rfl) (Nat.zero_le _) (Nat.zero_le _) ?_
    refine sp_12077 (d := 989) (G := G1) (ad := lad) (I := gI G1) hJ1.1 hJ1.2.1 hf (fun I1 hP hF => ?_)
    have hL := LIw.md r1 hJ1 hP hF hS1
    refine us_istore hR dL_law_615 (Nat.le_of_ble_eq_true rfl) ?_
    refine us_aload_n hR dL_law_617 rfl ?_
    refine us_callV hR dL_law_618 (y := 12001) (a := 74) (by decide +kernel) (by decide) (J := i12001) rfl rfl rfl rfl hJ1.1.2.1 rfl (Nat.le_of_ble_eq_true rfl) (Nat.zero_le _) (Nat.zero_le _) ?_
    refine sp_12001 (d := 999) (G := G1) (ad := lad) (I := I1) hJ1.1 hP ?_
    refine us_iload hR dL_law_621 rfl ?_
    refine us_icmp_eq hR dL_law_623 628 (by decide) (fun _ => ?_) (fun c => absurd e82.symm c)
    refine us_iload hR dL_law_628 rfl ?_
    refine us_if_ne hR dL_law_630 645 (by decide) (fun _ => ?_) (fun c0 => ?_)
    · skip
      refine us_goto hR dL_law_645 2023 (by decide) ?_
      refine hn _ _ _ _ _ _ hL ?_ ?_
      · show bc ≤ bc - 500 - 0 - 0 + 500; omega
      · show bs ≤ bs - 10000 - 0 - 0 + 10000; omega
    · refine us_aload_n hR dL_law_633 rfl ?_
      refine us_iconstC hR dL_law_634 (c := 0) (by decide) ?_
      refine us_laload hR dL_law_635 hJ1.2.2.1 (by rw [show gN (gW G1 I1) 126 = 1 from hJ1.2.2.2]; exact vi_in ⟨by decide, by decide⟩) ?_
      refine us_iload hR dL_law_636 rfl ?_
      refine us_i2l hR dL_law_638 ?_
      refine us_lcmp hR dL_law_639 ?_
      refine us_if_eq hR dL_law_640 645 (by decide) (fun _ => ?_) (fun c => absurd (lcmp_e (eJ c0)) c)
      refine us_goto hR dL_law_645 2023 (by decide) ?_
      refine hn _ _ _ _ _ _ hL ?_ ?_
      · show bc ≤ bc - 500 - 0 - 0 + 500; omega
      · show bs ≤ bs - 10000 - 0 - 0 + 10000; omega
  refine us_callS hR dL_law_588 (y := 13005) (by decide +kernel) (by decide) (J := i13005) rfl rfl rfl rfl (Nat.le_of_ble_eq_true rfl) hb1 hb2 ?_
  refine st_13005 (d := 84) hT h.1.1 lF_o hJ.2.2.1 hJ.2.2.2 hh (fun e he => by
    rcases hu with ⟨v, k1, k2, k3⟩ | ⟨e', k1, k2, k3⟩
    · rw [show (T1, u).2 = .inr v from k1] at he; cases he
    · rw [show (T1, u).2 = .inl e' from k1] at he
      cases he
      exact k2) (fun G1 v he r1 f1 => ?_) (fun G1 e he r1 f1 => ?_)
  · refine rest _ _ r1.sj (hJ.sm f1).sj ?_ (fun _ => ?_)
    · rcases hu with ⟨v', k1, k2, k3⟩ | ⟨e', k1, k2, k3⟩
      · exact k2.symm
      · rw [show (T1, u).2 = .inl e' from k1] at he; cases he
    · rcases hu with ⟨v', k1, k2, k3⟩ | ⟨e', k1, k2, k3⟩
      · rw [show (T1, u).2 = .inr v' from k1] at he
        cases he
        rw [gJ_s, k3]
      · rw [show (T1, u).2 = .inl e' from k1] at he; cases he
  · refine rest _ _ r1 (hJ.sm f1) ?_ (fun z => ?_)
    · rcases hu with ⟨v', k1, k2, k3⟩ | ⟨e', k1, k2, k3⟩
      · rw [show (T1, u).2 = .inr v' from k1] at he; cases he
      · rw [show (T1, u).2 = .inl e' from k1] at he
        cases he
        exact k3.symm
    · rcases hu with ⟨v', k1, k2, k3⟩ | ⟨e', k1, k2, k3⟩
      · rw [show (T1, u).2 = .inr v' from k1] at he; cases he
      · rw [show (T1, u).2 = .inl e' from k1] at he
        cases he
        exact absurd z k2
theorem lc_10 (hR : ab_Cl 1000 (ab_Gam 1000) 13 i_law scL scX P X R) (hI : LIw G m) (hv : ∀ c : Int32, 0 ≤ c.toInt → c.toInt < 8 → vp_in (i + c) (scL - 1)) (hb1 : 500 ≤ bc) (hb2 : 10000 ≤ bs) (hn : ∀ G1 m1 u5 u6 bc1 bs1, LIw G1 m1 → bc ≤ bc1 + 500 → bs ≤ bs1 + 10000 → R 2023 [some (.float 0), some (.ref 0), some (.ref 74), some (.ref 126), some (.int i), u5, u6] [] G1 bc1 bs1) : R 648 [some (.float 0), some (.ref 0), some (.ref 74), some (.ref 126), some (.int i), w5, w6] [] G bc bs := by
  obtain ⟨T, hT, hS, hJ⟩ := hI
  refine us_aload_n hR dL_law_648 rfl ?_
  obtain ⟨_, _, _, _, _, _, _, _, _, h⟩ := hS
  obtain ⟨v, hh, hf⟩ := c_outputs h
  have hS1 : SINV 0 T (mp m 82 0) := ⟨_, _, _, _, _, _, _, _, _, h.mm m82⟩
  refine us_callV hR dL_law_649 (y := 11011) (by decide +kernel) (by decide) (J := i11011) rfl rfl rfl rfl (H_sch hT h.1.1) rfl (Nat.le_of_ble_eq_true rfl) (Nat.zero_le _) (Nat.zero_le _) ?_
  refine sh_11011 (d := 997) hT hh ?_
  refine us_aload_n hR dL_law_652 rfl ?_
  refine us_callV hR dL_law_653 (y := 12078) (a := 74) (by decide +kernel) (by decide) (J := i12078) rfl rfl rfl rfl hJ.1.2.1 rfl (Nat.le_of_ble_eq_true rfl) (Nat.zero_le _) (Nat.zero_le _) ?_
  refine sp_12078 (d := 998) (G := G) (ad := lad) (I := gI G) hJ.1 hJ.2.1 (fun I1 o ho hP hF => ?_)
  obtain rfl := ho.trans hf
  refine us_icmp_eq hR dL_law_656 2023 (by decide) (fun _ => ?_) (fun c => absurd rfl c)
  refine hn _ _ _ _ _ _ (LIw.md hT hJ hP hF hS1) ?_ ?_
  · show bc ≤ bc - 0 - 0 + 500; omega
  · show bs ≤ bs - 0 - 0 + 10000; omega
theorem lc_11 (hR : ab_Cl 1000 (ab_Gam 1000) 13 i_law scL scX P X R) (hI : LIw G m) (hv : ∀ c : Int32, 0 ≤ c.toInt → c.toInt < 8 → vp_in (i + c) (scL - 1)) (hb1 : 500 ≤ bc) (hb2 : 10000 ≤ bs) (hn : ∀ G1 m1 u5 u6 bc1 bs1, LIw G1 m1 → bc ≤ bc1 + 500 → bs ≤ bs1 + 10000 → R 2023 [some (.float 0), some (.ref 0), some (.ref 74), some (.ref 126), some (.int i), u5, u6] [] G1 bc1 bs1) : R 661 [some (.float 0), some (.ref 0), some (.ref 74), some (.ref 126), some (.int i), w5, w6] [] G bc bs := by
  obtain ⟨T, hT, hS, hJ⟩ := hI
  refine us_aload_n hR dL_law_661 rfl ?_
  refine us_aload_nF hR dL_law_662 rfl ?_
  refine us_iload hR dL_law_663 rfl ?_
  refine us_iconstC hR dL_law_665 (c := 1) (by decide) ?_
  refine us_iadd hR dL_law_666 ?_
  refine us_scr hR dL_law_667 rfl (hv 1 (by decide) (by decide)) ?_
  refine us_aload_n hR dL_law_668 rfl ?_
  obtain ⟨_, _, _, _, _, _, _, _, _, h⟩ := hS
  have hc : SameR (h_11012 0 ((scX (i + 1).toNatClampNeg)) T) (f_12079 ((scX (i + 1).toNatClampNeg)) m) cD (SINV 0 T) := c_outputAt h
  obtain ⟨m1, r, u, hh, hf, hS1, hu⟩ := hc
  have rest : ∀ (G1 : ab_G) (k5 : Int32), Rep2 lF G1 T → LJ G1 m → k5 = m1 0 82 → (k5 = 0 → gJ G1 126 0 = r.toInt64) → R 672 [some (.float 0), some (.ref 0), some (.ref 74), some (.ref 126), some (.int i), w5, w6] [.int k5] G1 (bc - 500) (bs - 10000) := by
    intro G1 k5 r1 hJ1 e82 eJ
    refine us_istore hR dL_law_672 (Nat.le_of_ble_eq_true rfl) ?_
    refine us_aload_n hR dL_law_674 rfl ?_
    refine us_aload_nF hR dL_law_675 rfl ?_
    refine us_iload hR dL_law_676 rfl ?_
    refine us_iconstC hR dL_law_678 (c := 1) (by decide) ?_
    refine us_iadd hR dL_law_679 ?_
    refine us_scr hR dL_law_680 rfl (hv 1 (by decide) (by decide)) ?_
    refine us_callV hR dL_law_681 (y := 12079) (a := 74) (by decide +kernel) (by decide) (J := i12079) rfl rfl rfl rfl hJ1.1.2.1 rfl (Nat.le_of_ble_eq_true rfl) (Nat.zero_le _) (Nat.zero_le _) ?_
    refine sp_12079 (d := 998) (G := G1) (ad := lad) (I := gI G1) hJ1.1 hJ1.2.1 hf (fun I1 hP hF => ?_)
    have hL := LIw.md r1 hJ1 hP hF hS1
    refine us_istore hR dL_law_684 (Nat.le_of_ble_eq_true rfl) ?_
    refine us_aload_n hR dL_law_686 rfl ?_
    refine us_callV hR dL_law_687 (y := 12001) (a := 74) (by decide +kernel) (by decide) (J := i12001) rfl rfl rfl rfl hJ1.1.2.1 rfl (Nat.le_of_ble_eq_true rfl) (Nat.zero_le _) (Nat.zero_le _) ?_
    refine sp_12001 (d := 999) (G := G1) (ad := lad) (I := I1) hJ1.1 hP ?_
    refine us_iload hR dL_law_690 rfl ?_
    refine us_icmp_eq hR dL_law_692 697 (by decide) (fun _ => ?_) (fun c => absurd e82.symm c)
    refine us_iload hR dL_law_697 rfl ?_
    refine us_if_ne hR dL_law_699 714 (by decide) (fun _ => ?_) (fun c0 => ?_)
    · skip
      refine us_goto hR dL_law_714 2023 (by decide) ?_
      refine hn _ _ _ _ _ _ hL ?_ ?_
      · show bc ≤ bc - 500 - 0 - 0 + 500; omega
      · show bs ≤ bs - 10000 - 0 - 0 + 10000; omega
    · refine us_aload_n hR dL_law_702 rfl ?_
      refine us_iconstC hR dL_law_703 (c := 0) (by decide) ?_
      refine us_laload hR dL_law_704 hJ1.2.2.1 (by rw [show gN (gW G1 I1) 126 = 1 from hJ1.2.2.2]; exact vi_in ⟨by decide, by decide⟩) ?_
      refine us_iload hR dL_law_705 rfl ?_
      refine us_i2l hR dL_law_707 ?_
      refine us_lcmp hR dL_law_708 ?_
      refine us_if_eq hR dL_law_709 714 (by decide) (fun _ => ?_) (fun c => absurd (lcmp_e (eJ c0)) c)
      refine us_goto hR dL_law_714 2023 (by decide) ?_
      refine hn _ _ _ _ _ _ hL ?_ ?_
      · show bc ≤ bc - 500 - 0 - 0 + 500; omega
      · show bs ≤ bs - 10000 - 0 - 0 + 10000; omega
  refine us_callS hR dL_law_669 (y := 13006) (by decide +kernel) (by decide) (J := i13006) rfl rfl rfl rfl (Nat.le_of_ble_eq_true rfl) hb1 hb2 ?_
  refine st_13006 (d := 989) hT h.1.1 lF_o hJ.2.2.1 hJ.2.2.2 hh (fun e he => by
    rcases hu with ⟨v, k1, k2, k3⟩ | ⟨e', k1, k2, k3⟩
    · rw [show u = .inr v from k1] at he; cases he
    · rw [show u = .inl e' from k1] at he
      cases he
      exact k2) (fun v he => ?_) (fun e he => ?_)
  · refine rest _ _ hT.sj hJ.sj ?_ (fun _ => ?_)
    · rcases hu with ⟨v', k1, k2, k3⟩ | ⟨e', k1, k2, k3⟩
      · exact k2.symm
      · rw [show u = .inl e' from k1] at he; cases he
    · rcases hu with ⟨v', k1, k2, k3⟩ | ⟨e', k1, k2, k3⟩
      · rw [show u = .inr v' from k1] at he
        cases he
        rw [gJ_s, k3]
      · rw [show u = .inl e' from k1] at he; cases he
  · refine rest _ _ hT hJ ?_ (fun z => ?_)
    · rcases hu with ⟨v', k1, k2, k3⟩ | ⟨e', k1, k2, k3⟩
      · rw [show u = .inr v' from k1] at he; cases he
      · rw [show u = .inl e' from k1] at he
        cases he
        exact k3.symm
    · rcases hu with ⟨v', k1, k2, k3⟩ | ⟨e', k1, k2, k3⟩
      · rw [show u = .inr v' from k1] at he; cases he
      · rw [show u = .inl e' from k1] at he
        cases he
        exact absurd z k2
theorem lc_12 (hR : ab_Cl 1000 (ab_Gam 1000) 13 i_law scL scX P X R) (hI : LIw G m) (hv : ∀ c : Int32, 0 ≤ c.toInt → c.toInt < 8 → vp_in (i + c) (scL - 1)) (hb1 : 500 ≤ bc) (hb2 : 10000 ≤ bs) (hn : ∀ G1 m1 u5 u6 bc1 bs1, LIw G1 m1 → bc ≤ bc1 + 500 → bs ≤ bs1 + 10000 → R 2023 [some (.float 0), some (.ref 0), some (.ref 74), some (.ref 126), some (.int i), u5, u6] [] G1 bc1 bs1) : R 717 [some (.float 0), some (.ref 0), some (.ref 74), some (.ref 126), some (.int i), w5, w6] [] G bc bs := by
  obtain ⟨T, hT, hS, hJ⟩ := hI
  refine us_aload_n hR dL_law_717 rfl ?_
  obtain ⟨_, _, _, _, _, _, _, _, _, h⟩ := hS
  obtain ⟨v, hh, hf⟩ := c_fuelLeft h
  have hS1 : SINV 0 T (mp m 82 0) := ⟨_, _, _, _, _, _, _, _, _, h.mm m82⟩
  refine us_callV hR dL_law_718 (y := 11013) (by decide +kernel) (by decide) (J := i11013) rfl rfl rfl rfl (H_sch hT h.1.1) rfl (Nat.le_of_ble_eq_true rfl) (Nat.zero_le _) (Nat.zero_le _) ?_
  refine sh_11013 (d := 998) hT hh ?_
  refine us_aload_n hR dL_law_721 rfl ?_
  refine us_callV hR dL_law_722 (y := 12080) (a := 74) (by decide +kernel) (by decide) (J := i12080) rfl rfl rfl rfl hJ.1.2.1 rfl (Nat.le_of_ble_eq_true rfl) (Nat.zero_le _) (Nat.zero_le _) ?_
  refine sp_12080 (d := 998) (G := G) (ad := lad) (I := gI G) hJ.1 hJ.2.1 (fun I1 o ho hP hF => ?_)
  obtain rfl := ho.trans hf
  refine us_icmp_eq hR dL_law_725 2023 (by decide) (fun _ => ?_) (fun c => absurd rfl c)
  refine hn _ _ _ _ _ _ (LIw.md hT hJ hP hF hS1) ?_ ?_
  · show bc ≤ bc - 0 - 0 + 500; omega
  · show bs ≤ bs - 0 - 0 + 10000; omega
theorem lc_13 (hR : ab_Cl 1000 (ab_Gam 1000) 13 i_law scL scX P X R) (hI : LIw G m) (hv : ∀ c : Int32, 0 ≤ c.toInt → c.toInt < 8 → vp_in (i + c) (scL - 1)) (hb1 : 500 ≤ bc) (hb2 : 10000 ≤ bs) (hn : ∀ G1 m1 u5 u6 bc1 bs1, LIw G1 m1 → bc ≤ bc1 + 500 → bs ≤ bs1 + 10000 → R 2023 [some (.float 0), some (.ref 0), some (.ref 74), some (.ref 126), some (.int i), u5, u6] [] G1 bc1 bs1) : R 730 [some (.float 0), some (.ref 0), some (.ref 74), some (.ref 126), some (.int i), w5, w6] [] G bc bs := by
  obtain ⟨T, hT, hS, hJ⟩ := hI
  refine us_aload_n hR dL_law_730 rfl ?_
  refine us_aload_nF hR dL_law_731 rfl ?_
  refine us_iload hR dL_law_732 rfl ?_
  refine us_iconstC hR dL_law_734 (c := 1) (by decide) ?_
  refine us_iadd hR dL_law_735 ?_
  refine us_scr hR dL_law_736 rfl (hv 1 (by decide) (by decide)) ?_
  refine us_aload_n hR dL_law_737 rfl ?_
  obtain ⟨_, _, _, _, _, _, _, _, _, h⟩ := hS
  have hc : SameR (h_11014 0 ((scX (i + 1).toNatClampNeg)) T) (f_12081 ((scX (i + 1).toNatClampNeg)) m) cD (SINV 0 T) := c_cellAt h
  obtain ⟨m1, r, u, hh, hf, hS1, hu⟩ := hc
  have rest : ∀ (G1 : ab_G) (k5 : Int32), Rep2 lF G1 T → LJ G1 m → k5 = m1 0 82 → (k5 = 0 → gJ G1 126 0 = r.toInt64) → R 741 [some (.float 0), some (.ref 0), some (.ref 74), some (.ref 126), some (.int i), w5, w6] [.int k5] G1 (bc - 500) (bs - 10000) := by
    intro G1 k5 r1 hJ1 e82 eJ
    refine us_istore hR dL_law_741 (Nat.le_of_ble_eq_true rfl) ?_
    refine us_aload_n hR dL_law_743 rfl ?_
    refine us_aload_nF hR dL_law_744 rfl ?_
    refine us_iload hR dL_law_745 rfl ?_
    refine us_iconstC hR dL_law_747 (c := 1) (by decide) ?_
    refine us_iadd hR dL_law_748 ?_
    refine us_scr hR dL_law_749 rfl (hv 1 (by decide) (by decide)) ?_
    refine us_callV hR dL_law_750 (y := 12081) (a := 74) (by decide +kernel) (by decide) (J := i12081) rfl rfl rfl rfl hJ1.1.2.1 rfl (Nat.le_of_ble_eq_true rfl) (Nat.zero_le _) (Nat.zero_le _) ?_
    refine sp_12081 (d := 997) (G := G1) (ad := lad) (I := gI G1) hJ1.1 hJ1.2.1 hf (fun I1 hP hF => ?_)
    have hL := LIw.md r1 hJ1 hP hF hS1
    refine us_istore hR dL_law_753 (Nat.le_of_ble_eq_true rfl) ?_
    refine us_aload_n hR dL_law_755 rfl ?_
    refine us_callV hR dL_law_756 (y := 12001) (a := 74) (by decide +kernel) (by decide) (J := i12001) rfl rfl rfl rfl hJ1.1.2.1 rfl (Nat.le_of_ble_eq_true rfl) (Nat.zero_le _) (Nat.zero_le _) ?_
    refine sp_12001 (d := 999) (G := G1) (ad := lad) (I := I1) hJ1.1 hP ?_
    refine us_iload hR dL_law_759 rfl ?_
    refine us_icmp_eq hR dL_law_761 766 (by decide) (fun _ => ?_) (fun c => absurd e82.symm c)
    refine us_iload hR dL_law_766 rfl ?_
    refine us_if_ne hR dL_law_768 783 (by decide) (fun _ => ?_) (fun c0 => ?_)
    · skip
      refine us_goto hR dL_law_783 2023 (by decide) ?_
      refine hn _ _ _ _ _ _ hL ?_ ?_
      · show bc ≤ bc - 500 - 0 - 0 + 500; omega
      · show bs ≤ bs - 10000 - 0 - 0 + 10000; omega
    · refine us_aload_n hR dL_law_771 rfl ?_
      refine us_iconstC hR dL_law_772 (c := 0) (by decide) ?_
      refine us_laload hR dL_law_773 hJ1.2.2.1 (by rw [show gN (gW G1 I1) 126 = 1 from hJ1.2.2.2]; exact vi_in ⟨by decide, by decide⟩) ?_
      refine us_iload hR dL_law_774 rfl ?_
      refine us_i2l hR dL_law_776 ?_
      refine us_lcmp hR dL_law_777 ?_
      refine us_if_eq hR dL_law_778 783 (by decide) (fun _ => ?_) (fun c => absurd (lcmp_e (eJ c0)) c)
      refine us_goto hR dL_law_783 2023 (by decide) ?_
      refine hn _ _ _ _ _ _ hL ?_ ?_
      · show bc ≤ bc - 500 - 0 - 0 + 500; omega
      · show bs ≤ bs - 10000 - 0 - 0 + 10000; omega
  refine us_callS hR dL_law_738 (y := 13007) (by decide +kernel) (by decide) (J := i13007) rfl rfl rfl rfl (Nat.le_of_ble_eq_true rfl) hb1 hb2 ?_
  refine st_13007 (d := 989) hT h.1.1 lF_o hJ.2.2.1 hJ.2.2.2 hh (fun e he => by
    rcases hu with ⟨v, k1, k2, k3⟩ | ⟨e', k1, k2, k3⟩
    · rw [show u = .inr v from k1] at he; cases he
    · rw [show u = .inl e' from k1] at he
      cases he
      exact k2) (fun v he => ?_) (fun e he => ?_)
  · refine rest _ _ hT.sj hJ.sj ?_ (fun _ => ?_)
    · rcases hu with ⟨v', k1, k2, k3⟩ | ⟨e', k1, k2, k3⟩
      · exact k2.symm
      · rw [show u = .inl e' from k1] at he; cases he
    · rcases hu with ⟨v', k1, k2, k3⟩ | ⟨e', k1, k2, k3⟩
      · rw [show u = .inr v' from k1] at he
        cases he
        rw [gJ_s, k3]
      · rw [show u = .inl e' from k1] at he; cases he
  · refine rest _ _ hT hJ ?_ (fun z => ?_)
    · rcases hu with ⟨v', k1, k2, k3⟩ | ⟨e', k1, k2, k3⟩
      · rw [show u = .inr v' from k1] at he; cases he
      · rw [show u = .inl e' from k1] at he
        cases he
        exact k3.symm
    · rcases hu with ⟨v', k1, k2, k3⟩ | ⟨e', k1, k2, k3⟩
      · rw [show u = .inr v' from k1] at he; cases he
      · rw [show u = .inl e' from k1] at he
        cases he
        exact absurd z k2
theorem lc_14 (hR : ab_Cl 1000 (ab_Gam 1000) 13 i_law scL scX P X R) (hI : LIw G m) (hv : ∀ c : Int32, 0 ≤ c.toInt → c.toInt < 8 → vp_in (i + c) (scL - 1)) (hb1 : 500 ≤ bc) (hb2 : 10000 ≤ bs) (hn : ∀ G1 m1 u5 u6 bc1 bs1, LIw G1 m1 → bc ≤ bc1 + 500 → bs ≤ bs1 + 10000 → R 2023 [some (.float 0), some (.ref 0), some (.ref 74), some (.ref 126), some (.int i), u5, u6] [] G1 bc1 bs1) : R 786 [some (.float 0), some (.ref 0), some (.ref 74), some (.ref 126), some (.int i), w5, w6] [] G bc bs := by
  obtain ⟨T, hT, hS, hJ⟩ := hI
  refine us_aload_n hR dL_law_786 rfl ?_
  refine us_aload_nF hR dL_law_787 rfl ?_
  refine us_iload hR dL_law_788 rfl ?_
  refine us_iconstC hR dL_law_790 (c := 1) (by decide) ?_
  refine us_iadd hR dL_law_791 ?_
  refine us_scr hR dL_law_792 rfl (hv 1 (by decide) (by decide)) ?_
  refine us_aload_nF hR dL_law_793 rfl ?_
  refine us_iload hR dL_law_794 rfl ?_
  refine us_iconstC hR dL_law_796 (c := 2) (by decide) ?_
  refine us_iadd hR dL_law_797 ?_
  refine us_scr hR dL_law_798 rfl (hv 2 (by decide) (by decide)) ?_
  refine us_aload_n hR dL_law_799 rfl ?_
  obtain ⟨_, _, _, _, _, _, _, _, _, h⟩ := hS
  have hc : SameT (h_11015 0 ((scX (i + 1).toNatClampNeg)) ((scX (i + 2).toNatClampNeg)) T) (f_12084 ((scX (i + 1).toNatClampNeg)) ((scX (i + 2).toNatClampNeg)) m) cA (SINV 0) := c_addExercise h
  obtain ⟨T1, m1, r, u, hh, hf, hS1, hu⟩ := hc
  have rest : ∀ (G1 : ab_G) (k5 : Int32), Rep2 lF G1 T1 → LJ G1 m → k5 = m1 0 82 → (k5 = 0 → gJ G1 126 0 = r.toInt64) → R 803 [some (.float 0), some (.ref 0), some (.ref 74), some (.ref 126), some (.int i), w5, w6] [.int k5] G1 (bc - 500) (bs - 10000) := by
    intro G1 k5 r1 hJ1 e82 eJ
    refine us_istore hR dL_law_803 (Nat.le_of_ble_eq_true rfl) ?_
    refine us_aload_n hR dL_law_805 rfl ?_
    refine us_aload_nF hR dL_law_806 rfl ?_
    refine us_iload hR dL_law_807 rfl ?_
    refine us_iconstC hR dL_law_809 (c := 1) (by decide) ?_
    refine us_iadd hR dL_law_810 ?_
    refine us_scr hR dL_law_811 rfl (hv 1 (by decide) (by decide)) ?_
    refine us_aload_nF hR dL_law_812 rfl ?_
    refine us_iload hR dL_law_813 rfl ?_
    refine us_iconstC hR dL_law_815 (c := 2) (by decide) ?_
    refine us_iadd hR dL_law_816 ?_
    refine us_scr hR dL_law_817 rfl (hv 2 (by decide) (by decide)) ?_
    refine us_callV hR dL_law_818 (y := 12084) (a := 74) (by decide +kernel) (by decide) (J := i12084) rfl rfl rfl rfl hJ1.1.2.1 rfl (Nat.le_of_ble_eq_true rfl) (Nat.zero_le _) (Nat.zero_le _) ?_
    refine sp_12084 (d := 998) (G := G1) (ad := lad) (I := gI G1) hJ1.1 hJ1.2.1 hf (fun I1 hP hF => ?_)
    have hL := LIw.md r1 hJ1 hP hF hS1
    refine us_istore hR dL_law_821 (Nat.le_of_ble_eq_true rfl) ?_
    refine us_aload_n hR dL_law_823 rfl ?_
    refine us_callV hR dL_law_824 (y := 12001) (a := 74) (by decide +kernel) (by decide) (J := i12001) rfl rfl rfl rfl hJ1.1.2.1 rfl (Nat.le_of_ble_eq_true rfl) (Nat.zero_le _) (Nat.zero_le _) ?_
    refine sp_12001 (d := 999) (G := G1) (ad := lad) (I := I1) hJ1.1 hP ?_
    refine us_iload hR dL_law_827 rfl ?_
    refine us_icmp_eq hR dL_law_829 834 (by decide) (fun _ => ?_) (fun c => absurd e82.symm c)
    refine us_iload hR dL_law_834 rfl ?_
    refine us_if_ne hR dL_law_836 851 (by decide) (fun _ => ?_) (fun c0 => ?_)
    · skip
      refine us_goto hR dL_law_851 2023 (by decide) ?_
      refine hn _ _ _ _ _ _ hL ?_ ?_
      · show bc ≤ bc - 500 - 0 - 0 + 500; omega
      · show bs ≤ bs - 10000 - 0 - 0 + 10000; omega
    · refine us_aload_n hR dL_law_839 rfl ?_
      refine us_iconstC hR dL_law_840 (c := 0) (by decide) ?_
      refine us_laload hR dL_law_841 hJ1.2.2.1 (by rw [show gN (gW G1 I1) 126 = 1 from hJ1.2.2.2]; exact vi_in ⟨by decide, by decide⟩) ?_
      refine us_iload hR dL_law_842 rfl ?_
      refine us_i2l hR dL_law_844 ?_
      refine us_lcmp hR dL_law_845 ?_
      refine us_if_eq hR dL_law_846 851 (by decide) (fun _ => ?_) (fun c => absurd (lcmp_e (eJ c0)) c)
      refine us_goto hR dL_law_851 2023 (by decide) ?_
      refine hn _ _ _ _ _ _ hL ?_ ?_
      · show bc ≤ bc - 500 - 0 - 0 + 500; omega
      · show bs ≤ bs - 10000 - 0 - 0 + 10000; omega
  refine us_callS hR dL_law_800 (y := 13008) (by decide +kernel) (by decide) (J := i13008) rfl rfl rfl rfl (Nat.le_of_ble_eq_true rfl) hb1 hb2 ?_
  refine st_13008 (d := 956) hT h.1.1 lF_o hJ.2.2.1 hJ.2.2.2 hh (fun e he => by
    rcases hu with ⟨v, k1, k2, k3⟩ | ⟨e', k1, k2, k3⟩
    · rw [show (T1, u).2 = .inr v from k1] at he; cases he
    · rw [show (T1, u).2 = .inl e' from k1] at he
      cases he
      exact k2) (fun G1 v he r1 f1 => ?_) (fun G1 e he r1 f1 => ?_)
  · refine rest _ _ r1.sj (hJ.sm f1).sj ?_ (fun _ => ?_)
    · rcases hu with ⟨v', k1, k2, k3⟩ | ⟨e', k1, k2, k3⟩
      · exact k2.symm
      · rw [show (T1, u).2 = .inl e' from k1] at he; cases he
    · rcases hu with ⟨v', k1, k2, k3⟩ | ⟨e', k1, k2, k3⟩
      · rw [show (T1, u).2 = .inr v' from k1] at he
        cases he
        rw [gJ_s, k3]
      · rw [show (T1, u).2 = .inl e' from k1] at he; cases he
  · refine rest _ _ r1 (hJ.sm f1) ?_ (fun z => ?_)
    · rcases hu with ⟨v', k1, k2, k3⟩ | ⟨e', k1, k2, k3⟩
      · rw [show (T1, u).2 = .inr v' from k1] at he; cases he
      · rw [show (T1, u).2 = .inl e' from k1] at he
        cases he
        exact k3.symm
    · rcases hu with ⟨v', k1, k2, k3⟩ | ⟨e', k1, k2, k3⟩
      · rw [show (T1, u).2 = .inr v' from k1] at he; cases he
      · rw [show (T1, u).2 = .inl e' from k1] at he
        cases he
        exact absurd z k2
theorem lc_15 (hR : ab_Cl 1000 (ab_Gam 1000) 13 i_law scL scX P X R) (hI : LIw G m) (hv : ∀ c : Int32, 0 ≤ c.toInt → c.toInt < 8 → vp_in (i + c) (scL - 1)) (hb1 : 500 ≤ bc) (hb2 : 10000 ≤ bs) (hn : ∀ G1 m1 u5 u6 bc1 bs1, LIw G1 m1 → bc ≤ bc1 + 500 → bs ≤ bs1 + 10000 → R 2023 [some (.float 0), some (.ref 0), some (.ref 74), some (.ref 126), some (.int i), u5, u6] [] G1 bc1 bs1) : R 854 [some (.float 0), some (.ref 0), some (.ref 74), some (.ref 126), some (.int i), w5, w6] [] G bc bs := by
  obtain ⟨T, hT, hS, hJ⟩ := hI
  refine us_aload_n hR dL_law_854 rfl ?_
  refine us_aload_nF hR dL_law_855 rfl ?_
  refine us_iload hR dL_law_856 rfl ?_
  refine us_iconstC hR dL_law_858 (c := 1) (by decide) ?_
  refine us_iadd hR dL_law_859 ?_
  refine us_scr hR dL_law_860 rfl (hv 1 (by decide) (by decide)) ?_
  refine us_aload_nF hR dL_law_861 rfl ?_
  refine us_iload hR dL_law_862 rfl ?_
  refine us_iconstC hR dL_law_864 (c := 2) (by decide) ?_
  refine us_iadd hR dL_law_865 ?_
  refine us_scr hR dL_law_866 rfl (hv 2 (by decide) (by decide)) ?_
  refine us_aload_nF hR dL_law_867 rfl ?_
  refine us_iload hR dL_law_868 rfl ?_
  refine us_iconstC hR dL_law_870 (c := 3) (by decide) ?_
  refine us_iadd hR dL_law_871 ?_
  refine us_scr hR dL_law_872 rfl (hv 3 (by decide) (by decide)) ?_
  refine us_aload_nF hR dL_law_873 rfl ?_
  refine us_iload hR dL_law_874 rfl ?_
  refine us_iconstC hR dL_law_876 (c := 4) (by decide) ?_
  refine us_iadd hR dL_law_877 ?_
  refine us_scr hR dL_law_878 rfl (hv 4 (by decide) (by decide)) ?_
  refine us_aload_nF hR dL_law_879 rfl ?_
  refine us_iload hR dL_law_880 rfl ?_
  refine us_iconstC hR dL_law_882 (c := 5) (by decide) ?_
  refine us_iadd hR dL_law_883 ?_
  refine us_scr hR dL_law_884 rfl (hv 5 (by decide) (by decide)) ?_
  refine us_aload_nF hR dL_law_885 rfl ?_
  refine us_iload hR dL_law_886 rfl ?_
  refine us_bipushC hR dL_law_888 (c := 6) (by decide) ?_
  refine us_iadd hR dL_law_890 ?_
  refine us_scr hR dL_law_891 rfl (hv 6 (by decide) (by decide)) ?_
  refine us_aload_nF hR dL_law_892 rfl ?_
  refine us_iload hR dL_law_893 rfl ?_
  refine us_bipushC hR dL_law_895 (c := 7) (by decide) ?_
  refine us_iadd hR dL_law_897 ?_
  refine us_scr hR dL_law_898 rfl (hv 7 (by decide) (by decide)) ?_
  refine us_aload_n hR dL_law_899 rfl ?_
  obtain ⟨_, _, _, _, _, _, _, _, _, h⟩ := hS
  have hc : SameT (h_11016 0 ((scX (i + 1).toNatClampNeg)) ((scX (i + 2).toNatClampNeg)) ((scX (i + 3).toNatClampNeg)) ((scX (i + 4).toNatClampNeg)) ((scX (i + 5).toNatClampNeg)) ((scX (i + 6).toNatClampNeg)) ((scX (i + 7).toNatClampNeg)) T) (f_12086 ((scX (i + 1).toNatClampNeg)) ((scX (i + 2).toNatClampNeg)) ((scX (i + 3).toNatClampNeg)) ((scX (i + 4).toNatClampNeg)) ((scX (i + 5).toNatClampNeg)) ((scX (i + 6).toNatClampNeg)) ((scX (i + 7).toNatClampNeg)) m) cC (SINV 0) := c_addTest h
  obtain ⟨T1, m1, r, u, hh, hf, hS1, hu⟩ := hc
  have rest : ∀ (G1 : ab_G) (k5 : Int32), Rep2 lF G1 T1 → LJ G1 m → k5 = m1 0 82 → (k5 = 0 → gJ G1 126 0 = r.toInt64) → R 903 [some (.float 0), some (.ref 0), some (.ref 74), some (.ref 126), some (.int i), w5, w6] [.int k5] G1 (bc - 500) (bs - 10000) := by
    intro G1 k5 r1 hJ1 e82 eJ
    refine us_istore hR dL_law_903 (Nat.le_of_ble_eq_true rfl) ?_
    refine us_aload_n hR dL_law_905 rfl ?_
    refine us_aload_nF hR dL_law_906 rfl ?_
    refine us_iload hR dL_law_907 rfl ?_
    refine us_iconstC hR dL_law_909 (c := 1) (by decide) ?_
    refine us_iadd hR dL_law_910 ?_
    refine us_scr hR dL_law_911 rfl (hv 1 (by decide) (by decide)) ?_
    refine us_aload_nF hR dL_law_912 rfl ?_
    refine us_iload hR dL_law_913 rfl ?_
    refine us_iconstC hR dL_law_915 (c := 2) (by decide) ?_
    refine us_iadd hR dL_law_916 ?_
    refine us_scr hR dL_law_917 rfl (hv 2 (by decide) (by decide)) ?_
    refine us_aload_nF hR dL_law_918 rfl ?_
    refine us_iload hR dL_law_919 rfl ?_
    refine us_iconstC hR dL_law_921 (c := 3) (by decide) ?_
    refine us_iadd hR dL_law_922 ?_
    refine us_scr hR dL_law_923 rfl (hv 3 (by decide) (by decide)) ?_
    refine us_aload_nF hR dL_law_924 rfl ?_
    refine us_iload hR dL_law_925 rfl ?_
    refine us_iconstC hR dL_law_927 (c := 4) (by decide) ?_
    refine us_iadd hR dL_law_928 ?_
    refine us_scr hR dL_law_929 rfl (hv 4 (by decide) (by decide)) ?_
    refine us_aload_nF hR dL_law_930 rfl ?_
    refine us_iload hR dL_law_931 rfl ?_
    refine us_iconstC hR dL_law_933 (c := 5) (by decide) ?_
    refine us_iadd hR dL_law_934 ?_
    refine us_scr hR dL_law_935 rfl (hv 5 (by decide) (by decide)) ?_
    refine us_aload_nF hR dL_law_936 rfl ?_
    refine us_iload hR dL_law_937 rfl ?_
    refine us_bipushC hR dL_law_939 (c := 6) (by decide) ?_
    refine us_iadd hR dL_law_941 ?_
    refine us_scr hR dL_law_942 rfl (hv 6 (by decide) (by decide)) ?_
    refine us_aload_nF hR dL_law_943 rfl ?_
    refine us_iload hR dL_law_944 rfl ?_
    refine us_bipushC hR dL_law_946 (c := 7) (by decide) ?_
    refine us_iadd hR dL_law_948 ?_
    refine us_scr hR dL_law_949 rfl (hv 7 (by decide) (by decide)) ?_
    refine us_callV hR dL_law_950 (y := 12086) (a := 74) (by decide +kernel) (by decide) (J := i12086) rfl rfl rfl rfl hJ1.1.2.1 rfl (Nat.le_of_ble_eq_true rfl) (Nat.zero_le _) (Nat.zero_le _) ?_
    refine sp_12086 (d := 990) (G := G1) (ad := lad) (I := gI G1) hJ1.1 hJ1.2.1 hf (fun I1 hP hF => ?_)
    have hL := LIw.md r1 hJ1 hP hF hS1
    refine us_istore hR dL_law_953 (Nat.le_of_ble_eq_true rfl) ?_
    refine us_aload_n hR dL_law_955 rfl ?_
    refine us_callV hR dL_law_956 (y := 12001) (a := 74) (by decide +kernel) (by decide) (J := i12001) rfl rfl rfl rfl hJ1.1.2.1 rfl (Nat.le_of_ble_eq_true rfl) (Nat.zero_le _) (Nat.zero_le _) ?_
    refine sp_12001 (d := 999) (G := G1) (ad := lad) (I := I1) hJ1.1 hP ?_
    refine us_iload hR dL_law_959 rfl ?_
    refine us_icmp_eq hR dL_law_961 966 (by decide) (fun _ => ?_) (fun c => absurd e82.symm c)
    refine us_iload hR dL_law_966 rfl ?_
    refine us_if_ne hR dL_law_968 983 (by decide) (fun _ => ?_) (fun c0 => ?_)
    · skip
      refine us_goto hR dL_law_983 2023 (by decide) ?_
      refine hn _ _ _ _ _ _ hL ?_ ?_
      · show bc ≤ bc - 500 - 0 - 0 + 500; omega
      · show bs ≤ bs - 10000 - 0 - 0 + 10000; omega
    · refine us_aload_n hR dL_law_971 rfl ?_
      refine us_iconstC hR dL_law_972 (c := 0) (by decide) ?_
      refine us_laload hR dL_law_973 hJ1.2.2.1 (by rw [show gN (gW G1 I1) 126 = 1 from hJ1.2.2.2]; exact vi_in ⟨by decide, by decide⟩) ?_
      refine us_iload hR dL_law_974 rfl ?_
      refine us_i2l hR dL_law_976 ?_
      refine us_lcmp hR dL_law_977 ?_
      refine us_if_eq hR dL_law_978 983 (by decide) (fun _ => ?_) (fun c => absurd (lcmp_e (eJ c0)) c)
      refine us_goto hR dL_law_983 2023 (by decide) ?_
      refine hn _ _ _ _ _ _ hL ?_ ?_
      · show bc ≤ bc - 500 - 0 - 0 + 500; omega
      · show bs ≤ bs - 10000 - 0 - 0 + 10000; omega
  refine us_callS hR dL_law_900 (y := 13009) (by decide +kernel) (by decide) (J := i13009) rfl rfl rfl rfl (Nat.le_of_ble_eq_true rfl) hb1 hb2 ?_
  refine st_13009 (d := 956) hT h.1.1 lF_o hJ.2.2.1 hJ.2.2.2 hh (fun e he => by
    rcases hu with ⟨v, k1, k2, k3⟩ | ⟨e', k1, k2, k3⟩
    · rw [show (T1, u).2 = .inr v from k1] at he; cases he
    · rw [show (T1, u).2 = .inl e' from k1] at he
      cases he
      exact k2) (fun G1 v he r1 f1 => ?_) (fun G1 e he r1 f1 => ?_)
  · refine rest _ _ r1.sj (hJ.sm f1).sj ?_ (fun _ => ?_)
    · rcases hu with ⟨v', k1, k2, k3⟩ | ⟨e', k1, k2, k3⟩
      · exact k2.symm
      · rw [show (T1, u).2 = .inl e' from k1] at he; cases he
    · rcases hu with ⟨v', k1, k2, k3⟩ | ⟨e', k1, k2, k3⟩
      · rw [show (T1, u).2 = .inr v' from k1] at he
        cases he
        rw [gJ_s, k3]
      · rw [show (T1, u).2 = .inl e' from k1] at he; cases he
  · refine rest _ _ r1 (hJ.sm f1) ?_ (fun z => ?_)
    · rcases hu with ⟨v', k1, k2, k3⟩ | ⟨e', k1, k2, k3⟩
      · rw [show (T1, u).2 = .inr v' from k1] at he; cases he
      · rw [show (T1, u).2 = .inl e' from k1] at he
        cases he
        exact k3.symm
    · rcases hu with ⟨v', k1, k2, k3⟩ | ⟨e', k1, k2, k3⟩
      · rw [show (T1, u).2 = .inr v' from k1] at he; cases he
      · rw [show (T1, u).2 = .inl e' from k1] at he
        cases he
        exact absurd z k2
theorem lc_16 (hR : ab_Cl 1000 (ab_Gam 1000) 13 i_law scL scX P X R) (hI : LIw G m) (hv : ∀ c : Int32, 0 ≤ c.toInt → c.toInt < 8 → vp_in (i + c) (scL - 1)) (hb1 : 500 ≤ bc) (hb2 : 10000 ≤ bs) (hn : ∀ G1 m1 u5 u6 bc1 bs1, LIw G1 m1 → bc ≤ bc1 + 500 → bs ≤ bs1 + 10000 → R 2023 [some (.float 0), some (.ref 0), some (.ref 74), some (.ref 126), some (.int i), u5, u6] [] G1 bc1 bs1) : R 986 [some (.float 0), some (.ref 0), some (.ref 74), some (.ref 126), some (.int i), w5, w6] [] G bc bs := by
  obtain ⟨T, hT, hS, hJ⟩ := hI
  refine us_aload_n hR dL_law_986 rfl ?_
  refine us_aload_nF hR dL_law_987 rfl ?_
  refine us_iload hR dL_law_988 rfl ?_
  refine us_iconstC hR dL_law_990 (c := 1) (by decide) ?_
  refine us_iadd hR dL_law_991 ?_
  refine us_scr hR dL_law_992 rfl (hv 1 (by decide) (by decide)) ?_
  refine us_aload_nF hR dL_law_993 rfl ?_
  refine us_iload hR dL_law_994 rfl ?_
  refine us_iconstC hR dL_law_996 (c := 2) (by decide) ?_
  refine us_iadd hR dL_law_997 ?_
  refine us_scr hR dL_law_998 rfl (hv 2 (by decide) (by decide)) ?_
  refine us_aload_n hR dL_law_999 rfl ?_
  obtain ⟨_, _, _, _, _, _, _, _, _, h⟩ := hS
  have hc : SameT (h_11017 0 ((scX (i + 1).toNatClampNeg)) ((scX (i + 2).toNatClampNeg)) T) (f_12087 ((scX (i + 1).toNatClampNeg)) ((scX (i + 2).toNatClampNeg)) m) cB (SINV 0) := c_withdraw h
  obtain ⟨T1, m1, r, u, hh, hf, hS1, hu⟩ := hc
  have rest : ∀ (G1 : ab_G) (k5 : Int32), Rep2 lF G1 T1 → LJ G1 m → k5 = m1 0 82 → (k5 = 0 → gJ G1 126 0 = r.toInt64) → R 1003 [some (.float 0), some (.ref 0), some (.ref 74), some (.ref 126), some (.int i), w5, w6] [.int k5] G1 (bc - 500) (bs - 10000) := by
    intro G1 k5 r1 hJ1 e82 eJ
    refine us_istore hR dL_law_1003 (Nat.le_of_ble_eq_true rfl) ?_
    refine us_aload_n hR dL_law_1005 rfl ?_
    refine us_aload_nF hR dL_law_1006 rfl ?_
    refine us_iload hR dL_law_1007 rfl ?_
    refine us_iconstC hR dL_law_1009 (c := 1) (by decide) ?_
    refine us_iadd hR dL_law_1010 ?_
    refine us_scr hR dL_law_1011 rfl (hv 1 (by decide) (by decide)) ?_
    refine us_aload_nF hR dL_law_1012 rfl ?_
    refine us_iload hR dL_law_1013 rfl ?_
    refine us_iconstC hR dL_law_1015 (c := 2) (by decide) ?_
    refine us_iadd hR dL_law_1016 ?_
    refine us_scr hR dL_law_1017 rfl (hv 2 (by decide) (by decide)) ?_
    refine us_callV hR dL_law_1018 (y := 12087) (a := 74) (by decide +kernel) (by decide) (J := i12087) rfl rfl rfl rfl hJ1.1.2.1 rfl (Nat.le_of_ble_eq_true rfl) (Nat.zero_le _) (Nat.zero_le _) ?_
    refine sp_12087 (d := 996) (G := G1) (ad := lad) (I := gI G1) hJ1.1 hJ1.2.1 hf (fun I1 hP hF => ?_)
    have hL := LIw.md r1 hJ1 hP hF hS1
    refine us_istore hR dL_law_1021 (Nat.le_of_ble_eq_true rfl) ?_
    refine us_aload_n hR dL_law_1023 rfl ?_
    refine us_callV hR dL_law_1024 (y := 12001) (a := 74) (by decide +kernel) (by decide) (J := i12001) rfl rfl rfl rfl hJ1.1.2.1 rfl (Nat.le_of_ble_eq_true rfl) (Nat.zero_le _) (Nat.zero_le _) ?_
    refine sp_12001 (d := 999) (G := G1) (ad := lad) (I := I1) hJ1.1 hP ?_
    refine us_iload hR dL_law_1027 rfl ?_
    refine us_icmp_eq hR dL_law_1029 1034 (by decide) (fun _ => ?_) (fun c => absurd e82.symm c)
    refine us_iload hR dL_law_1034 rfl ?_
    refine us_if_ne hR dL_law_1036 1051 (by decide) (fun _ => ?_) (fun c0 => ?_)
    · skip
      refine us_goto hR dL_law_1051 2023 (by decide) ?_
      refine hn _ _ _ _ _ _ hL ?_ ?_
      · show bc ≤ bc - 500 - 0 - 0 + 500; omega
      · show bs ≤ bs - 10000 - 0 - 0 + 10000; omega
    · refine us_aload_n hR dL_law_1039 rfl ?_
      refine us_iconstC hR dL_law_1040 (c := 0) (by decide) ?_
      refine us_laload hR dL_law_1041 hJ1.2.2.1 (by rw [show gN (gW G1 I1) 126 = 1 from hJ1.2.2.2]; exact vi_in ⟨by decide, by decide⟩) ?_
      refine us_iload hR dL_law_1042 rfl ?_
      refine us_i2l hR dL_law_1044 ?_
      refine us_lcmp hR dL_law_1045 ?_
      refine us_if_eq hR dL_law_1046 1051 (by decide) (fun _ => ?_) (fun c => absurd (lcmp_e (eJ c0)) c)
      refine us_goto hR dL_law_1051 2023 (by decide) ?_
      refine hn _ _ _ _ _ _ hL ?_ ?_
      · show bc ≤ bc - 500 - 0 - 0 + 500; omega
      · show bs ≤ bs - 10000 - 0 - 0 + 10000; omega
  refine us_callS hR dL_law_1000 (y := 13010) (by decide +kernel) (by decide) (J := i13010) rfl rfl rfl rfl (Nat.le_of_ble_eq_true rfl) hb1 hb2 ?_
  refine st_13010 (d := 954) hT h.1.1 lF_o hJ.2.2.1 hJ.2.2.2 hh (fun e he => by
    rcases hu with ⟨v, k1, k2, k3⟩ | ⟨e', k1, k2, k3⟩
    · rw [show (T1, u).2 = .inr v from k1] at he; cases he
    · rw [show (T1, u).2 = .inl e' from k1] at he
      cases he
      exact k2) (fun G1 v he r1 f1 => ?_) (fun G1 e he r1 f1 => ?_)
  · refine rest _ _ r1.sj (hJ.sm f1).sj ?_ (fun _ => ?_)
    · rcases hu with ⟨v', k1, k2, k3⟩ | ⟨e', k1, k2, k3⟩
      · exact k2.symm
      · rw [show (T1, u).2 = .inl e' from k1] at he; cases he
    · rcases hu with ⟨v', k1, k2, k3⟩ | ⟨e', k1, k2, k3⟩
      · rw [show (T1, u).2 = .inr v' from k1] at he
        cases he
        rw [gJ_s, k3]
      · rw [show (T1, u).2 = .inl e' from k1] at he; cases he
  · refine rest _ _ r1 (hJ.sm f1) ?_ (fun z => ?_)
    · rcases hu with ⟨v', k1, k2, k3⟩ | ⟨e', k1, k2, k3⟩
      · rw [show (T1, u).2 = .inr v' from k1] at he; cases he
      · rw [show (T1, u).2 = .inl e' from k1] at he
        cases he
        exact k3.symm
    · rcases hu with ⟨v', k1, k2, k3⟩ | ⟨e', k1, k2, k3⟩
      · rw [show (T1, u).2 = .inr v' from k1] at he; cases he
      · rw [show (T1, u).2 = .inl e' from k1] at he
        cases he
        exact absurd z k2
theorem lc_17 (hR : ab_Cl 1000 (ab_Gam 1000) 13 i_law scL scX P X R) (hI : LIw G m) (hv : ∀ c : Int32, 0 ≤ c.toInt → c.toInt < 8 → vp_in (i + c) (scL - 1)) (hb1 : 500 ≤ bc) (hb2 : 10000 ≤ bs) (hn : ∀ G1 m1 u5 u6 bc1 bs1, LIw G1 m1 → bc ≤ bc1 + 500 → bs ≤ bs1 + 10000 → R 2023 [some (.float 0), some (.ref 0), some (.ref 74), some (.ref 126), some (.int i), u5, u6] [] G1 bc1 bs1) : R 1054 [some (.float 0), some (.ref 0), some (.ref 74), some (.ref 126), some (.int i), w5, w6] [] G bc bs := by
  obtain ⟨T, hT, hS, hJ⟩ := hI
  refine us_aload_n hR dL_law_1054 rfl ?_
  refine us_aload_nF hR dL_law_1055 rfl ?_
  refine us_iload hR dL_law_1056 rfl ?_
  refine us_iconstC hR dL_law_1058 (c := 1) (by decide) ?_
  refine us_iadd hR dL_law_1059 ?_
  refine us_scr hR dL_law_1060 rfl (hv 1 (by decide) (by decide)) ?_
  refine us_aload_n hR dL_law_1061 rfl ?_
  obtain ⟨_, _, _, _, _, _, _, _, _, h⟩ := hS
  have hc : SameT (h_11018 0 ((scX (i + 1).toNatClampNeg)) T) (some (f_12088 ((scX (i + 1).toNatClampNeg)) m)) cA (SINV 0) := c_pass h
  obtain ⟨T1, m1, r, u, hh, hf, hS1, hu⟩ := hc
  have rest : ∀ (G1 : ab_G) (k5 : Int32), Rep2 lF G1 T1 → LJ G1 m → k5 = m1 0 82 → (k5 = 0 → gJ G1 126 0 = r.toInt64) → R 1065 [some (.float 0), some (.ref 0), some (.ref 74), some (.ref 126), some (.int i), w5, w6] [.int k5] G1 (bc - 500) (bs - 10000) := by
    intro G1 k5 r1 hJ1 e82 eJ
    refine us_istore hR dL_law_1065 (Nat.le_of_ble_eq_true rfl) ?_
    refine us_aload_n hR dL_law_1067 rfl ?_
    refine us_aload_nF hR dL_law_1068 rfl ?_
    refine us_iload hR dL_law_1069 rfl ?_
    refine us_iconstC hR dL_law_1071 (c := 1) (by decide) ?_
    refine us_iadd hR dL_law_1072 ?_
    refine us_scr hR dL_law_1073 rfl (hv 1 (by decide) (by decide)) ?_
    refine us_callV hR dL_law_1074 (y := 12088) (a := 74) (by decide +kernel) (by decide) (J := i12088) rfl rfl rfl rfl hJ1.1.2.1 rfl (Nat.le_of_ble_eq_true rfl) (Nat.zero_le _) (Nat.zero_le _) ?_
    have hf0 : f_12088 ((scX (i + 1).toNatClampNeg)) m = (m1, r) := by injection hf
    refine sp_12088 (d := 998) (G := G1) (ad := lad) (I := gI G1) hJ1.1 hJ1.2.1 (fun I1 o ho hP hF => ?_)
    obtain rfl := ho.trans hf0
    have hL := LIw.md r1 hJ1 hP hF hS1
    refine us_istore hR dL_law_1077 (Nat.le_of_ble_eq_true rfl) ?_
    refine us_aload_n hR dL_law_1079 rfl ?_
    refine us_callV hR dL_law_1080 (y := 12001) (a := 74) (by decide +kernel) (by decide) (J := i12001) rfl rfl rfl rfl hJ1.1.2.1 rfl (Nat.le_of_ble_eq_true rfl) (Nat.zero_le _) (Nat.zero_le _) ?_
    refine sp_12001 (d := 999) (G := G1) (ad := lad) (I := I1) hJ1.1 hP ?_
    refine us_iload hR dL_law_1083 rfl ?_
    refine us_icmp_eq hR dL_law_1085 1090 (by decide) (fun _ => ?_) (fun c => absurd e82.symm c)
    refine us_iload hR dL_law_1090 rfl ?_
    refine us_if_ne hR dL_law_1092 1107 (by decide) (fun _ => ?_) (fun c0 => ?_)
    · skip
      refine us_goto hR dL_law_1107 2023 (by decide) ?_
      refine hn _ _ _ _ _ _ hL ?_ ?_
      · show bc ≤ bc - 500 - 0 - 0 + 500; omega
      · show bs ≤ bs - 10000 - 0 - 0 + 10000; omega
    · refine us_aload_n hR dL_law_1095 rfl ?_
      refine us_iconstC hR dL_law_1096 (c := 0) (by decide) ?_
      refine us_laload hR dL_law_1097 hJ1.2.2.1 (by rw [show gN (gW G1 I1) 126 = 1 from hJ1.2.2.2]; exact vi_in ⟨by decide, by decide⟩) ?_
      refine us_iload hR dL_law_1098 rfl ?_
      refine us_i2l hR dL_law_1100 ?_
      refine us_lcmp hR dL_law_1101 ?_
      refine us_if_eq hR dL_law_1102 1107 (by decide) (fun _ => ?_) (fun c => absurd (lcmp_e (eJ c0)) c)
      refine us_goto hR dL_law_1107 2023 (by decide) ?_
      refine hn _ _ _ _ _ _ hL ?_ ?_
      · show bc ≤ bc - 500 - 0 - 0 + 500; omega
      · show bs ≤ bs - 10000 - 0 - 0 + 10000; omega
  refine us_callS hR dL_law_1062 (y := 13011) (by decide +kernel) (by decide) (J := i13011) rfl rfl rfl rfl (Nat.le_of_ble_eq_true rfl) hb1 hb2 ?_
  refine st_13011 (d := 989) hT h.1.1 lF_o hJ.2.2.1 hJ.2.2.2 hh (fun e he => by
    rcases hu with ⟨v, k1, k2, k3⟩ | ⟨e', k1, k2, k3⟩
    · rw [show (T1, u).2 = .inr v from k1] at he; cases he
    · rw [show (T1, u).2 = .inl e' from k1] at he
      cases he
      exact k2) (fun G1 v he r1 f1 => ?_) (fun G1 e he r1 f1 => ?_)
  · refine rest _ _ r1.sj (hJ.sm f1).sj ?_ (fun _ => ?_)
    · rcases hu with ⟨v', k1, k2, k3⟩ | ⟨e', k1, k2, k3⟩
      · exact k2.symm
      · rw [show (T1, u).2 = .inl e' from k1] at he; cases he
    · rcases hu with ⟨v', k1, k2, k3⟩ | ⟨e', k1, k2, k3⟩
      · rw [show (T1, u).2 = .inr v' from k1] at he
        cases he
        rw [gJ_s, k3]
      · rw [show (T1, u).2 = .inl e' from k1] at he; cases he
  · refine rest _ _ r1 (hJ.sm f1) ?_ (fun z => ?_)
    · rcases hu with ⟨v', k1, k2, k3⟩ | ⟨e', k1, k2, k3⟩
      · rw [show (T1, u).2 = .inr v' from k1] at he; cases he
      · rw [show (T1, u).2 = .inl e' from k1] at he
        cases he
        exact k3.symm
    · rcases hu with ⟨v', k1, k2, k3⟩ | ⟨e', k1, k2, k3⟩
      · rw [show (T1, u).2 = .inr v' from k1] at he; cases he
      · rw [show (T1, u).2 = .inl e' from k1] at he
        cases he
        exact absurd z k2
theorem lc_18 (hR : ab_Cl 1000 (ab_Gam 1000) 13 i_law scL scX P X R) (hI : LIw G m) (hv : ∀ c : Int32, 0 ≤ c.toInt → c.toInt < 8 → vp_in (i + c) (scL - 1)) (hb1 : 500 ≤ bc) (hb2 : 10000 ≤ bs) (hn : ∀ G1 m1 u5 u6 bc1 bs1, LIw G1 m1 → bc ≤ bc1 + 500 → bs ≤ bs1 + 10000 → R 2023 [some (.float 0), some (.ref 0), some (.ref 74), some (.ref 126), some (.int i), u5, u6] [] G1 bc1 bs1) : R 1110 [some (.float 0), some (.ref 0), some (.ref 74), some (.ref 126), some (.int i), w5, w6] [] G bc bs := by
  obtain ⟨T, hT, hS, hJ⟩ := hI
  refine us_aload_n hR dL_law_1110 rfl ?_
  obtain ⟨_, _, _, _, _, _, _, _, _, h⟩ := hS
  obtain ⟨v, hh, hf⟩ := c_today h
  have hS1 : SINV 0 T (mp m 82 0) := ⟨_, _, _, _, _, _, _, _, _, h.mm m82⟩
  refine us_callV hR dL_law_1111 (y := 11019) (by decide +kernel) (by decide) (J := i11019) rfl rfl rfl rfl (H_sch hT h.1.1) rfl (Nat.le_of_ble_eq_true rfl) (Nat.zero_le _) (Nat.zero_le _) ?_
  refine sh_11019 (d := 999) hT hh ?_
  refine us_aload_n hR dL_law_1114 rfl ?_
  refine us_callV hR dL_law_1115 (y := 12089) (a := 74) (by decide +kernel) (by decide) (J := i12089) rfl rfl rfl rfl hJ.1.2.1 rfl (Nat.le_of_ble_eq_true rfl) (Nat.zero_le _) (Nat.zero_le _) ?_
  refine sp_12089 (d := 998) (G := G) (ad := lad) (I := gI G) hJ.1 hJ.2.1 (fun I1 o ho hP hF => ?_)
  obtain rfl := ho.trans hf
  refine us_icmp_eq hR dL_law_1118 2023 (by decide) (fun _ => ?_) (fun c => absurd rfl c)
  refine hn _ _ _ _ _ _ (LIw.md hT hJ hP hF hS1) ?_ ?_
  · show bc ≤ bc - 0 - 0 + 500; omega
  · show bs ≤ bs - 0 - 0 + 10000; omega
theorem lc_19 (hR : ab_Cl 1000 (ab_Gam 1000) 13 i_law scL scX P X R) (hI : LIw G m) (hv : ∀ c : Int32, 0 ≤ c.toInt → c.toInt < 8 → vp_in (i + c) (scL - 1)) (hb1 : 500 ≤ bc) (hb2 : 10000 ≤ bs) (hn : ∀ G1 m1 u5 u6 bc1 bs1, LIw G1 m1 → bc ≤ bc1 + 500 → bs ≤ bs1 + 10000 → R 2023 [some (.float 0), some (.ref 0), some (.ref 74), some (.ref 126), some (.int i), u5, u6] [] G1 bc1 bs1) : R 1123 [some (.float 0), some (.ref 0), some (.ref 74), some (.ref 126), some (.int i), w5, w6] [] G bc bs := by
  obtain ⟨T, hT, hS, hJ⟩ := hI
  refine us_aload_n hR dL_law_1123 rfl ?_
  refine us_aload_nF hR dL_law_1124 rfl ?_
  refine us_iload hR dL_law_1125 rfl ?_
  refine us_iconstC hR dL_law_1127 (c := 1) (by decide) ?_
  refine us_iadd hR dL_law_1128 ?_
  refine us_scr hR dL_law_1129 rfl (hv 1 (by decide) (by decide)) ?_
  refine us_aload_nF hR dL_law_1130 rfl ?_
  refine us_iload hR dL_law_1131 rfl ?_
  refine us_iconstC hR dL_law_1133 (c := 2) (by decide) ?_
  refine us_iadd hR dL_law_1134 ?_
  refine us_scr hR dL_law_1135 rfl (hv 2 (by decide) (by decide)) ?_
  refine us_aload_n hR dL_law_1136 rfl ?_
  obtain ⟨_, _, _, _, _, _, _, _, _, h⟩ := hS
  have hc : SameT (h_11020 0 ((scX (i + 1).toNatClampNeg)) ((scX (i + 2).toNatClampNeg)) T) (f_12092 ((scX (i + 1).toNatClampNeg)) ((scX (i + 2).toNatClampNeg)) m) cB (SINV 0) := c_hand h
  obtain ⟨T1, m1, r, u, hh, hf, hS1, hu⟩ := hc
  have rest : ∀ (G1 : ab_G) (k5 : Int32), Rep2 lF G1 T1 → LJ G1 m → k5 = m1 0 82 → (k5 = 0 → gJ G1 126 0 = r.toInt64) → R 1140 [some (.float 0), some (.ref 0), some (.ref 74), some (.ref 126), some (.int i), w5, w6] [.int k5] G1 (bc - 500) (bs - 10000) := by
    intro G1 k5 r1 hJ1 e82 eJ
    refine us_istore hR dL_law_1140 (Nat.le_of_ble_eq_true rfl) ?_
    refine us_aload_n hR dL_law_1142 rfl ?_
    refine us_aload_nF hR dL_law_1143 rfl ?_
    refine us_iload hR dL_law_1144 rfl ?_
    refine us_iconstC hR dL_law_1146 (c := 1) (by decide) ?_
    refine us_iadd hR dL_law_1147 ?_
    refine us_scr hR dL_law_1148 rfl (hv 1 (by decide) (by decide)) ?_
    refine us_aload_nF hR dL_law_1149 rfl ?_
    refine us_iload hR dL_law_1150 rfl ?_
    refine us_iconstC hR dL_law_1152 (c := 2) (by decide) ?_
    refine us_iadd hR dL_law_1153 ?_
    refine us_scr hR dL_law_1154 rfl (hv 2 (by decide) (by decide)) ?_
    refine us_callV hR dL_law_1155 (y := 12092) (a := 74) (by decide +kernel) (by decide) (J := i12092) rfl rfl rfl rfl hJ1.1.2.1 rfl (Nat.le_of_ble_eq_true rfl) (Nat.zero_le _) (Nat.zero_le _) ?_
    refine sp_12092 (d := 990) (G := G1) (ad := lad) (I := gI G1) hJ1.1 hJ1.2.1 hf (fun I1 hP hF => ?_)
    have hL := LIw.md r1 hJ1 hP hF hS1
    refine us_istore hR dL_law_1158 (Nat.le_of_ble_eq_true rfl) ?_
    refine us_aload_n hR dL_law_1160 rfl ?_
    refine us_callV hR dL_law_1161 (y := 12001) (a := 74) (by decide +kernel) (by decide) (J := i12001) rfl rfl rfl rfl hJ1.1.2.1 rfl (Nat.le_of_ble_eq_true rfl) (Nat.zero_le _) (Nat.zero_le _) ?_
    refine sp_12001 (d := 999) (G := G1) (ad := lad) (I := I1) hJ1.1 hP ?_
    refine us_iload hR dL_law_1164 rfl ?_
    refine us_icmp_eq hR dL_law_1166 1171 (by decide) (fun _ => ?_) (fun c => absurd e82.symm c)
    refine us_iload hR dL_law_1171 rfl ?_
    refine us_if_ne hR dL_law_1173 1188 (by decide) (fun _ => ?_) (fun c0 => ?_)
    · skip
      refine us_goto hR dL_law_1188 2023 (by decide) ?_
      refine hn _ _ _ _ _ _ hL ?_ ?_
      · show bc ≤ bc - 500 - 0 - 0 + 500; omega
      · show bs ≤ bs - 10000 - 0 - 0 + 10000; omega
    · refine us_aload_n hR dL_law_1176 rfl ?_
      refine us_iconstC hR dL_law_1177 (c := 0) (by decide) ?_
      refine us_laload hR dL_law_1178 hJ1.2.2.1 (by rw [show gN (gW G1 I1) 126 = 1 from hJ1.2.2.2]; exact vi_in ⟨by decide, by decide⟩) ?_
      refine us_iload hR dL_law_1179 rfl ?_
      refine us_i2l hR dL_law_1181 ?_
      refine us_lcmp hR dL_law_1182 ?_
      refine us_if_eq hR dL_law_1183 1188 (by decide) (fun _ => ?_) (fun c => absurd (lcmp_e (eJ c0)) c)
      refine us_goto hR dL_law_1188 2023 (by decide) ?_
      refine hn _ _ _ _ _ _ hL ?_ ?_
      · show bc ≤ bc - 500 - 0 - 0 + 500; omega
      · show bs ≤ bs - 10000 - 0 - 0 + 10000; omega
  refine us_callS hR dL_law_1137 (y := 13012) (by decide +kernel) (by decide) (J := i13012) rfl rfl rfl rfl (Nat.le_of_ble_eq_true rfl) hb1 hb2 ?_
  refine st_13012 (d := 84) hT h.1.1 lF_o hJ.2.2.1 hJ.2.2.2 hh (fun e he => by
    rcases hu with ⟨v, k1, k2, k3⟩ | ⟨e', k1, k2, k3⟩
    · rw [show (T1, u).2 = .inr v from k1] at he; cases he
    · rw [show (T1, u).2 = .inl e' from k1] at he
      cases he
      exact k2) (fun G1 v he r1 f1 => ?_) (fun G1 e he r1 f1 => ?_)
  · refine rest _ _ r1.sj (hJ.sm f1).sj ?_ (fun _ => ?_)
    · rcases hu with ⟨v', k1, k2, k3⟩ | ⟨e', k1, k2, k3⟩
      · exact k2.symm
      · rw [show (T1, u).2 = .inl e' from k1] at he; cases he
    · rcases hu with ⟨v', k1, k2, k3⟩ | ⟨e', k1, k2, k3⟩
      · rw [show (T1, u).2 = .inr v' from k1] at he
        cases he
        rw [gJ_s, k3]
      · rw [show (T1, u).2 = .inl e' from k1] at he; cases he
  · refine rest _ _ r1 (hJ.sm f1) ?_ (fun z => ?_)
    · rcases hu with ⟨v', k1, k2, k3⟩ | ⟨e', k1, k2, k3⟩
      · rw [show (T1, u).2 = .inr v' from k1] at he; cases he
      · rw [show (T1, u).2 = .inl e' from k1] at he
        cases he
        exact k3.symm
    · rcases hu with ⟨v', k1, k2, k3⟩ | ⟨e', k1, k2, k3⟩
      · rw [show (T1, u).2 = .inr v' from k1] at he; cases he
      · rw [show (T1, u).2 = .inl e' from k1] at he
        cases he
        exact absurd z k2
theorem lc_20 (hR : ab_Cl 1000 (ab_Gam 1000) 13 i_law scL scX P X R) (hI : LIw G m) (hv : ∀ c : Int32, 0 ≤ c.toInt → c.toInt < 8 → vp_in (i + c) (scL - 1)) (hb1 : 500 ≤ bc) (hb2 : 10000 ≤ bs) (hn : ∀ G1 m1 u5 u6 bc1 bs1, LIw G1 m1 → bc ≤ bc1 + 500 → bs ≤ bs1 + 10000 → R 2023 [some (.float 0), some (.ref 0), some (.ref 74), some (.ref 126), some (.int i), u5, u6] [] G1 bc1 bs1) : R 1191 [some (.float 0), some (.ref 0), some (.ref 74), some (.ref 126), some (.int i), w5, w6] [] G bc bs := by
  obtain ⟨T, hT, hS, hJ⟩ := hI
  refine us_aload_n hR dL_law_1191 rfl ?_
  obtain ⟨_, _, _, _, _, _, _, _, _, h⟩ := hS
  obtain ⟨v, hh, hf⟩ := c_answers h
  have hS1 : SINV 0 T (mp m 82 0) := ⟨_, _, _, _, _, _, _, _, _, h.mm m82⟩
  refine us_callV hR dL_law_1192 (y := 11021) (by decide +kernel) (by decide) (J := i11021) rfl rfl rfl rfl (H_sch hT h.1.1) rfl (Nat.le_of_ble_eq_true rfl) (Nat.zero_le _) (Nat.zero_le _) ?_
  refine sh_11021 (d := 958) hT hh ?_
  refine us_aload_n hR dL_law_1195 rfl ?_
  refine us_callV hR dL_law_1196 (y := 12093) (a := 74) (by decide +kernel) (by decide) (J := i12093) rfl rfl rfl rfl hJ.1.2.1 rfl (Nat.le_of_ble_eq_true rfl) (Nat.zero_le _) (Nat.zero_le _) ?_
  refine sp_12093 (d := 998) (G := G) (ad := lad) (I := gI G) hJ.1 hJ.2.1 (fun I1 o ho hP hF => ?_)
  obtain rfl := ho.trans hf
  refine us_icmp_eq hR dL_law_1199 2023 (by decide) (fun _ => ?_) (fun c => absurd rfl c)
  refine hn _ _ _ _ _ _ (LIw.md hT hJ hP hF hS1) ?_ ?_
  · show bc ≤ bc - 0 - 0 + 500; omega
  · show bs ≤ bs - 0 - 0 + 10000; omega
theorem lc_21 (hR : ab_Cl 1000 (ab_Gam 1000) 13 i_law scL scX P X R) (hI : LIw G m) (hv : ∀ c : Int32, 0 ≤ c.toInt → c.toInt < 8 → vp_in (i + c) (scL - 1)) (hb1 : 500 ≤ bc) (hb2 : 10000 ≤ bs) (hn : ∀ G1 m1 u5 u6 bc1 bs1, LIw G1 m1 → bc ≤ bc1 + 500 → bs ≤ bs1 + 10000 → R 2023 [some (.float 0), some (.ref 0), some (.ref 74), some (.ref 126), some (.int i), u5, u6] [] G1 bc1 bs1) : R 1204 [some (.float 0), some (.ref 0), some (.ref 74), some (.ref 126), some (.int i), w5, w6] [] G bc bs := by
  obtain ⟨T, hT, hS, hJ⟩ := hI
  refine us_aload_n hR dL_law_1204 rfl ?_
  refine us_aload_nF hR dL_law_1205 rfl ?_
  refine us_iload hR dL_law_1206 rfl ?_
  refine us_iconstC hR dL_law_1208 (c := 1) (by decide) ?_
  refine us_iadd hR dL_law_1209 ?_
  refine us_scr hR dL_law_1210 rfl (hv 1 (by decide) (by decide)) ?_
  refine us_aload_nF hR dL_law_1211 rfl ?_
  refine us_iload hR dL_law_1212 rfl ?_
  refine us_iconstC hR dL_law_1214 (c := 2) (by decide) ?_
  refine us_iadd hR dL_law_1215 ?_
  refine us_scr hR dL_law_1216 rfl (hv 2 (by decide) (by decide)) ?_
  refine us_aload_n hR dL_law_1217 rfl ?_
  obtain ⟨_, _, _, _, _, _, _, _, _, h⟩ := hS
  have hc : SameR (h_11022 0 ((scX (i + 1).toNatClampNeg)) ((scX (i + 2).toNatClampNeg)) T) (f_12095 ((scX (i + 1).toNatClampNeg)) ((scX (i + 2).toNatClampNeg)) m) cD (SINV 0 T) := c_passes h
  obtain ⟨m1, r, u, hh, hf, hS1, hu⟩ := hc
  have rest : ∀ (G1 : ab_G) (k5 : Int32), Rep2 lF G1 T → LJ G1 m → k5 = m1 0 82 → (k5 = 0 → gJ G1 126 0 = r.toInt64) → R 1221 [some (.float 0), some (.ref 0), some (.ref 74), some (.ref 126), some (.int i), w5, w6] [.int k5] G1 (bc - 500) (bs - 10000) := by
    intro G1 k5 r1 hJ1 e82 eJ
    refine us_istore hR dL_law_1221 (Nat.le_of_ble_eq_true rfl) ?_
    refine us_aload_n hR dL_law_1223 rfl ?_
    refine us_aload_nF hR dL_law_1224 rfl ?_
    refine us_iload hR dL_law_1225 rfl ?_
    refine us_iconstC hR dL_law_1227 (c := 1) (by decide) ?_
    refine us_iadd hR dL_law_1228 ?_
    refine us_scr hR dL_law_1229 rfl (hv 1 (by decide) (by decide)) ?_
    refine us_aload_nF hR dL_law_1230 rfl ?_
    refine us_iload hR dL_law_1231 rfl ?_
    refine us_iconstC hR dL_law_1233 (c := 2) (by decide) ?_
    refine us_iadd hR dL_law_1234 ?_
    refine us_scr hR dL_law_1235 rfl (hv 2 (by decide) (by decide)) ?_
    refine us_callV hR dL_law_1236 (y := 12095) (a := 74) (by decide +kernel) (by decide) (J := i12095) rfl rfl rfl rfl hJ1.1.2.1 rfl (Nat.le_of_ble_eq_true rfl) (Nat.zero_le _) (Nat.zero_le _) ?_
    refine sp_12095 (d := 996) (G := G1) (ad := lad) (I := gI G1) hJ1.1 hJ1.2.1 hf (fun I1 h01 hP hF => ?_)
    have hL := LIw.md r1 hJ1 hP hF hS1
    refine us_istore hR dL_law_1239 (Nat.le_of_ble_eq_true rfl) ?_
    refine us_aload_n hR dL_law_1241 rfl ?_
    refine us_callV hR dL_law_1242 (y := 12001) (a := 74) (by decide +kernel) (by decide) (J := i12001) rfl rfl rfl rfl hJ1.1.2.1 rfl (Nat.le_of_ble_eq_true rfl) (Nat.zero_le _) (Nat.zero_le _) ?_
    refine sp_12001 (d := 999) (G := G1) (ad := lad) (I := I1) hJ1.1 hP ?_
    refine us_iload hR dL_law_1245 rfl ?_
    refine us_icmp_eq hR dL_law_1247 1252 (by decide) (fun _ => ?_) (fun c => absurd e82.symm c)
    refine us_iload hR dL_law_1252 rfl ?_
    refine us_if_ne hR dL_law_1254 1276 (by decide) (fun _ => ?_) (fun c0 => ?_)
    · skip
      refine us_goto hR dL_law_1276 2023 (by decide) ?_
      refine hn _ _ _ _ _ _ hL ?_ ?_
      · show bc ≤ bc - 500 - 0 - 0 + 500; omega
      · show bs ≤ bs - 10000 - 0 - 0 + 10000; omega
    · refine us_aload_n hR dL_law_1257 rfl ?_
      refine us_iconstC hR dL_law_1258 (c := 0) (by decide) ?_
      refine us_laload hR dL_law_1259 hJ1.2.2.1 (by rw [show gN (gW G1 I1) 126 = 1 from hJ1.2.2.2]; exact vi_in ⟨by decide, by decide⟩) ?_
      refine us_iload hR dL_law_1260 rfl ?_
      refine us_if_eq hR dL_law_1262 1269 (by decide) (fun cr => ?_) (fun cr => ?_)
      · refine us_lconstC hR dL_law_1269 (c := 0) (by decide) ?_
        refine us_lcmp hR dL_law_1270 ?_
        refine us_if_eq hR dL_law_1271 1276 (by decide) (fun _ => ?_) (fun c => absurd (show lg_cmp (gJ G1 126 0) 0 = 0 by rw [eJ c0, show r = 0 from cr]; decide) c)
        refine us_goto hR dL_law_1276 2023 (by decide) ?_
        refine hn _ _ _ _ _ _ hL ?_ ?_
        · show bc ≤ bc - 500 - 0 - 0 + 500; omega
        · show bs ≤ bs - 10000 - 0 - 0 + 10000; omega
      · refine us_lconstC hR dL_law_1265 (c := 1) (by decide) ?_
        refine us_goto hR dL_law_1266 1270 (by decide) ?_
        refine us_lcmp hR dL_law_1270 ?_
        refine us_if_eq hR dL_law_1271 1276 (by decide) (fun _ => ?_) (fun c => absurd (show lg_cmp (gJ G1 126 0) 1 = 0 by rw [eJ c0, show r = 1 from h01.resolve_left cr]; decide) c)
        refine us_goto hR dL_law_1276 2023 (by decide) ?_
        refine hn _ _ _ _ _ _ hL ?_ ?_
        · show bc ≤ bc - 500 - 0 - 0 + 500; omega
        · show bs ≤ bs - 10000 - 0 - 0 + 10000; omega
  refine us_callS hR dL_law_1218 (y := 13013) (by decide +kernel) (by decide) (J := i13013) rfl rfl rfl rfl (Nat.le_of_ble_eq_true rfl) hb1 hb2 ?_
  refine st_13013 (d := 955) hT h.1.1 lF_o hJ.2.2.1 hJ.2.2.2 hh (fun e he => by
    rcases hu with ⟨v, k1, k2, k3⟩ | ⟨e', k1, k2, k3⟩
    · rw [show u = .inr v from k1] at he; cases he
    · rw [show u = .inl e' from k1] at he
      cases he
      exact k2) (fun v hv => passes01 h (hh.trans (congrArg some hv))) (fun v he => ?_) (fun e he => ?_)
  · refine rest _ _ hT.sj hJ.sj ?_ (fun _ => ?_)
    · rcases hu with ⟨v', k1, k2, k3⟩ | ⟨e', k1, k2, k3⟩
      · exact k2.symm
      · rw [show u = .inl e' from k1] at he; cases he
    · rcases hu with ⟨v', k1, k2, k3⟩ | ⟨e', k1, k2, k3⟩
      · rw [show u = .inr v' from k1] at he
        cases he
        rw [gJ_s, k3]
      · rw [show u = .inl e' from k1] at he; cases he
  · refine rest _ _ hT hJ ?_ (fun z => ?_)
    · rcases hu with ⟨v', k1, k2, k3⟩ | ⟨e', k1, k2, k3⟩
      · rw [show u = .inr v' from k1] at he; cases he
      · rw [show u = .inl e' from k1] at he
        cases he
        exact k3.symm
    · rcases hu with ⟨v', k1, k2, k3⟩ | ⟨e', k1, k2, k3⟩
      · rw [show u = .inr v' from k1] at he; cases he
      · rw [show u = .inl e' from k1] at he
        cases he
        exact absurd z k2
theorem lc_22 (hR : ab_Cl 1000 (ab_Gam 1000) 13 i_law scL scX P X R) (hI : LIw G m) (hv : ∀ c : Int32, 0 ≤ c.toInt → c.toInt < 8 → vp_in (i + c) (scL - 1)) (hb1 : 500 ≤ bc) (hb2 : 10000 ≤ bs) (hn : ∀ G1 m1 u5 u6 bc1 bs1, LIw G1 m1 → bc ≤ bc1 + 500 → bs ≤ bs1 + 10000 → R 2023 [some (.float 0), some (.ref 0), some (.ref 74), some (.ref 126), some (.int i), u5, u6] [] G1 bc1 bs1) : R 1279 [some (.float 0), some (.ref 0), some (.ref 74), some (.ref 126), some (.int i), w5, w6] [] G bc bs := by
  obtain ⟨T, hT, hS, hJ⟩ := hI
  refine us_aload_n hR dL_law_1279 rfl ?_
  refine us_aload_nF hR dL_law_1280 rfl ?_
  refine us_iload hR dL_law_1281 rfl ?_
  refine us_iconstC hR dL_law_1283 (c := 1) (by decide) ?_
  refine us_iadd hR dL_law_1284 ?_
  refine us_scr hR dL_law_1285 rfl (hv 1 (by decide) (by decide)) ?_
  refine us_aload_nF hR dL_law_1286 rfl ?_
  refine us_iload hR dL_law_1287 rfl ?_
  refine us_iconstC hR dL_law_1289 (c := 2) (by decide) ?_
  refine us_iadd hR dL_law_1290 ?_
  refine us_scr hR dL_law_1291 rfl (hv 2 (by decide) (by decide)) ?_
  refine us_aload_n hR dL_law_1292 rfl ?_
  obtain ⟨_, _, _, _, _, _, _, _, _, h⟩ := hS
  have hc : SameR (h_11023 0 ((scX (i + 1).toNatClampNeg)) ((scX (i + 2).toNatClampNeg)) T) (f_12096 ((scX (i + 1).toNatClampNeg)) ((scX (i + 2).toNatClampNeg)) m) cD (SINV 0 T) := c_endOf h
  obtain ⟨m1, r, u, hh, hf, hS1, hu⟩ := hc
  have rest : ∀ (G1 : ab_G) (k5 : Int32), Rep2 lF G1 T → LJ G1 m → k5 = m1 0 82 → (k5 = 0 → gJ G1 126 0 = r.toInt64) → R 1296 [some (.float 0), some (.ref 0), some (.ref 74), some (.ref 126), some (.int i), w5, w6] [.int k5] G1 (bc - 500) (bs - 10000) := by
    intro G1 k5 r1 hJ1 e82 eJ
    refine us_istore hR dL_law_1296 (Nat.le_of_ble_eq_true rfl) ?_
    refine us_aload_n hR dL_law_1298 rfl ?_
    refine us_aload_nF hR dL_law_1299 rfl ?_
    refine us_iload hR dL_law_1300 rfl ?_
    refine us_iconstC hR dL_law_1302 (c := 1) (by decide) ?_
    refine us_iadd hR dL_law_1303 ?_
    refine us_scr hR dL_law_1304 rfl (hv 1 (by decide) (by decide)) ?_
    refine us_aload_nF hR dL_law_1305 rfl ?_
    refine us_iload hR dL_law_1306 rfl ?_
    refine us_iconstC hR dL_law_1308 (c := 2) (by decide) ?_
    refine us_iadd hR dL_law_1309 ?_
    refine us_scr hR dL_law_1310 rfl (hv 2 (by decide) (by decide)) ?_
    refine us_callV hR dL_law_1311 (y := 12096) (a := 74) (by decide +kernel) (by decide) (J := i12096) rfl rfl rfl rfl hJ1.1.2.1 rfl (Nat.le_of_ble_eq_true rfl) (Nat.zero_le _) (Nat.zero_le _) ?_
    refine sp_12096 (d := 996) (G := G1) (ad := lad) (I := gI G1) hJ1.1 hJ1.2.1 hf (fun I1 hP hF => ?_)
    have hL := LIw.md r1 hJ1 hP hF hS1
    refine us_istore hR dL_law_1314 (Nat.le_of_ble_eq_true rfl) ?_
    refine us_aload_n hR dL_law_1316 rfl ?_
    refine us_callV hR dL_law_1317 (y := 12001) (a := 74) (by decide +kernel) (by decide) (J := i12001) rfl rfl rfl rfl hJ1.1.2.1 rfl (Nat.le_of_ble_eq_true rfl) (Nat.zero_le _) (Nat.zero_le _) ?_
    refine sp_12001 (d := 999) (G := G1) (ad := lad) (I := I1) hJ1.1 hP ?_
    refine us_iload hR dL_law_1320 rfl ?_
    refine us_icmp_eq hR dL_law_1322 1327 (by decide) (fun _ => ?_) (fun c => absurd e82.symm c)
    refine us_iload hR dL_law_1327 rfl ?_
    refine us_if_ne hR dL_law_1329 1344 (by decide) (fun _ => ?_) (fun c0 => ?_)
    · skip
      refine us_goto hR dL_law_1344 2023 (by decide) ?_
      refine hn _ _ _ _ _ _ hL ?_ ?_
      · show bc ≤ bc - 500 - 0 - 0 + 500; omega
      · show bs ≤ bs - 10000 - 0 - 0 + 10000; omega
    · refine us_aload_n hR dL_law_1332 rfl ?_
      refine us_iconstC hR dL_law_1333 (c := 0) (by decide) ?_
      refine us_laload hR dL_law_1334 hJ1.2.2.1 (by rw [show gN (gW G1 I1) 126 = 1 from hJ1.2.2.2]; exact vi_in ⟨by decide, by decide⟩) ?_
      refine us_iload hR dL_law_1335 rfl ?_
      refine us_i2l hR dL_law_1337 ?_
      refine us_lcmp hR dL_law_1338 ?_
      refine us_if_eq hR dL_law_1339 1344 (by decide) (fun _ => ?_) (fun c => absurd (lcmp_e (eJ c0)) c)
      refine us_goto hR dL_law_1344 2023 (by decide) ?_
      refine hn _ _ _ _ _ _ hL ?_ ?_
      · show bc ≤ bc - 500 - 0 - 0 + 500; omega
      · show bs ≤ bs - 10000 - 0 - 0 + 10000; omega
  refine us_callS hR dL_law_1293 (y := 13014) (by decide +kernel) (by decide) (J := i13014) rfl rfl rfl rfl (Nat.le_of_ble_eq_true rfl) hb1 hb2 ?_
  refine st_13014 (d := 955) hT h.1.1 lF_o hJ.2.2.1 hJ.2.2.2 hh (fun e he => by
    rcases hu with ⟨v, k1, k2, k3⟩ | ⟨e', k1, k2, k3⟩
    · rw [show u = .inr v from k1] at he; cases he
    · rw [show u = .inl e' from k1] at he
      cases he
      exact k2) (fun v he => ?_) (fun e he => ?_)
  · refine rest _ _ hT.sj hJ.sj ?_ (fun _ => ?_)
    · rcases hu with ⟨v', k1, k2, k3⟩ | ⟨e', k1, k2, k3⟩
      · exact k2.symm
      · rw [show u = .inl e' from k1] at he; cases he
    · rcases hu with ⟨v', k1, k2, k3⟩ | ⟨e', k1, k2, k3⟩
      · rw [show u = .inr v' from k1] at he
        cases he
        rw [gJ_s, k3]
      · rw [show u = .inl e' from k1] at he; cases he
  · refine rest _ _ hT hJ ?_ (fun z => ?_)
    · rcases hu with ⟨v', k1, k2, k3⟩ | ⟨e', k1, k2, k3⟩
      · rw [show u = .inr v' from k1] at he; cases he
      · rw [show u = .inl e' from k1] at he
        cases he
        exact k3.symm
    · rcases hu with ⟨v', k1, k2, k3⟩ | ⟨e', k1, k2, k3⟩
      · rw [show u = .inr v' from k1] at he; cases he
      · rw [show u = .inl e' from k1] at he
        cases he
        exact absurd z k2
theorem lc_23 (hR : ab_Cl 1000 (ab_Gam 1000) 13 i_law scL scX P X R) (hI : LIw G m) (hv : ∀ c : Int32, 0 ≤ c.toInt → c.toInt < 8 → vp_in (i + c) (scL - 1)) (hb1 : 500 ≤ bc) (hb2 : 10000 ≤ bs) (hn : ∀ G1 m1 u5 u6 bc1 bs1, LIw G1 m1 → bc ≤ bc1 + 500 → bs ≤ bs1 + 10000 → R 2023 [some (.float 0), some (.ref 0), some (.ref 74), some (.ref 126), some (.int i), u5, u6] [] G1 bc1 bs1) : R 1347 [some (.float 0), some (.ref 0), some (.ref 74), some (.ref 126), some (.int i), w5, w6] [] G bc bs := by
  obtain ⟨T, hT, hS, hJ⟩ := hI
  refine us_aload_n hR dL_law_1347 rfl ?_
  refine us_aload_nF hR dL_law_1348 rfl ?_
  refine us_iload hR dL_law_1349 rfl ?_
  refine us_iconstC hR dL_law_1351 (c := 1) (by decide) ?_
  refine us_iadd hR dL_law_1352 ?_
  refine us_scr hR dL_law_1353 rfl (hv 1 (by decide) (by decide)) ?_
  refine us_aload_n hR dL_law_1354 rfl ?_
  obtain ⟨_, _, _, _, _, _, _, _, _, h⟩ := hS
  have hc : SameR (h_11024 0 ((scX (i + 1).toNatClampNeg)) T) (f_12099 ((scX (i + 1).toNatClampNeg)) m) cD (SINV 0 T) := c_points h
  obtain ⟨m1, r, u, hh, hf, hS1, hu⟩ := hc
  have rest : ∀ (G1 : ab_G) (k5 : Int32), Rep2 lF G1 T → LJ G1 m → k5 = m1 0 82 → (k5 = 0 → gJ G1 126 0 = r.toInt64) → R 1358 [some (.float 0), some (.ref 0), some (.ref 74), some (.ref 126), some (.int i), w5, w6] [.int k5] G1 (bc - 500) (bs - 10000) := by
    intro G1 k5 r1 hJ1 e82 eJ
    refine us_istore hR dL_law_1358 (Nat.le_of_ble_eq_true rfl) ?_
    refine us_aload_n hR dL_law_1360 rfl ?_
    refine us_aload_nF hR dL_law_1361 rfl ?_
    refine us_iload hR dL_law_1362 rfl ?_
    refine us_iconstC hR dL_law_1364 (c := 1) (by decide) ?_
    refine us_iadd hR dL_law_1365 ?_
    refine us_scr hR dL_law_1366 rfl (hv 1 (by decide) (by decide)) ?_
    refine us_callV hR dL_law_1367 (y := 12099) (a := 74) (by decide +kernel) (by decide) (J := i12099) rfl rfl rfl rfl hJ1.1.2.1 rfl (Nat.le_of_ble_eq_true rfl) (Nat.zero_le _) (Nat.zero_le _) ?_
    refine sp_12099 (d := 997) (G := G1) (ad := lad) (I := gI G1) hJ1.1 hJ1.2.1 hf (fun I1 hP hF => ?_)
    have hL := LIw.md r1 hJ1 hP hF hS1
    refine us_istore hR dL_law_1370 (Nat.le_of_ble_eq_true rfl) ?_
    refine us_aload_n hR dL_law_1372 rfl ?_
    refine us_callV hR dL_law_1373 (y := 12001) (a := 74) (by decide +kernel) (by decide) (J := i12001) rfl rfl rfl rfl hJ1.1.2.1 rfl (Nat.le_of_ble_eq_true rfl) (Nat.zero_le _) (Nat.zero_le _) ?_
    refine sp_12001 (d := 999) (G := G1) (ad := lad) (I := I1) hJ1.1 hP ?_
    refine us_iload hR dL_law_1376 rfl ?_
    refine us_icmp_eq hR dL_law_1378 1383 (by decide) (fun _ => ?_) (fun c => absurd e82.symm c)
    refine us_iload hR dL_law_1383 rfl ?_
    refine us_if_ne hR dL_law_1385 1400 (by decide) (fun _ => ?_) (fun c0 => ?_)
    · skip
      refine us_goto hR dL_law_1400 2023 (by decide) ?_
      refine hn _ _ _ _ _ _ hL ?_ ?_
      · show bc ≤ bc - 500 - 0 - 0 + 500; omega
      · show bs ≤ bs - 10000 - 0 - 0 + 10000; omega
    · refine us_aload_n hR dL_law_1388 rfl ?_
      refine us_iconstC hR dL_law_1389 (c := 0) (by decide) ?_
      refine us_laload hR dL_law_1390 hJ1.2.2.1 (by rw [show gN (gW G1 I1) 126 = 1 from hJ1.2.2.2]; exact vi_in ⟨by decide, by decide⟩) ?_
      refine us_iload hR dL_law_1391 rfl ?_
      refine us_i2l hR dL_law_1393 ?_
      refine us_lcmp hR dL_law_1394 ?_
      refine us_if_eq hR dL_law_1395 1400 (by decide) (fun _ => ?_) (fun c => absurd (lcmp_e (eJ c0)) c)
      refine us_goto hR dL_law_1400 2023 (by decide) ?_
      refine hn _ _ _ _ _ _ hL ?_ ?_
      · show bc ≤ bc - 500 - 0 - 0 + 500; omega
      · show bs ≤ bs - 10000 - 0 - 0 + 10000; omega
  refine us_callS hR dL_law_1355 (y := 13015) (by decide +kernel) (by decide) (J := i13015) rfl rfl rfl rfl (Nat.le_of_ble_eq_true rfl) hb1 hb2 ?_
  refine st_13015 (d := 956) hT h.1.1 lF_o hJ.2.2.1 hJ.2.2.2 hh (fun e he => by
    rcases hu with ⟨v, k1, k2, k3⟩ | ⟨e', k1, k2, k3⟩
    · rw [show u = .inr v from k1] at he; cases he
    · rw [show u = .inl e' from k1] at he
      cases he
      exact k2) (fun v he => ?_) (fun e he => ?_)
  · refine rest _ _ hT.sj hJ.sj ?_ (fun _ => ?_)
    · rcases hu with ⟨v', k1, k2, k3⟩ | ⟨e', k1, k2, k3⟩
      · exact k2.symm
      · rw [show u = .inl e' from k1] at he; cases he
    · rcases hu with ⟨v', k1, k2, k3⟩ | ⟨e', k1, k2, k3⟩
      · rw [show u = .inr v' from k1] at he
        cases he
        rw [gJ_s, k3]
      · rw [show u = .inl e' from k1] at he; cases he
  · refine rest _ _ hT hJ ?_ (fun z => ?_)
    · rcases hu with ⟨v', k1, k2, k3⟩ | ⟨e', k1, k2, k3⟩
      · rw [show u = .inr v' from k1] at he; cases he
      · rw [show u = .inl e' from k1] at he
        cases he
        exact k3.symm
    · rcases hu with ⟨v', k1, k2, k3⟩ | ⟨e', k1, k2, k3⟩
      · rw [show u = .inr v' from k1] at he; cases he
      · rw [show u = .inl e' from k1] at he
        cases he
        exact absurd z k2
theorem lc_24 (hR : ab_Cl 1000 (ab_Gam 1000) 13 i_law scL scX P X R) (hI : LIw G m) (hv : ∀ c : Int32, 0 ≤ c.toInt → c.toInt < 8 → vp_in (i + c) (scL - 1)) (hb1 : 500 ≤ bc) (hb2 : 10000 ≤ bs) (hn : ∀ G1 m1 u5 u6 bc1 bs1, LIw G1 m1 → bc ≤ bc1 + 500 → bs ≤ bs1 + 10000 → R 2023 [some (.float 0), some (.ref 0), some (.ref 74), some (.ref 126), some (.int i), u5, u6] [] G1 bc1 bs1) : R 1403 [some (.float 0), some (.ref 0), some (.ref 74), some (.ref 126), some (.int i), w5, w6] [] G bc bs := by
  obtain ⟨T, hT, hS, hJ⟩ := hI
  refine us_aload_n hR dL_law_1403 rfl ?_
  refine us_aload_nF hR dL_law_1404 rfl ?_
  refine us_iload hR dL_law_1405 rfl ?_
  refine us_iconstC hR dL_law_1407 (c := 1) (by decide) ?_
  refine us_iadd hR dL_law_1408 ?_
  refine us_scr hR dL_law_1409 rfl (hv 1 (by decide) (by decide)) ?_
  refine us_aload_n hR dL_law_1410 rfl ?_
  obtain ⟨_, _, _, _, _, _, _, _, _, h⟩ := hS
  have hc : SameR (h_11025 0 ((scX (i + 1).toNatClampNeg)) T) (f_12100 ((scX (i + 1).toNatClampNeg)) m) cD (SINV 0 T) := c_mark h
  obtain ⟨m1, r, u, hh, hf, hS1, hu⟩ := hc
  have rest : ∀ (G1 : ab_G) (k5 : Int32), Rep2 lF G1 T → LJ G1 m → k5 = m1 0 82 → (k5 = 0 → gJ G1 126 0 = r.toInt64) → R 1414 [some (.float 0), some (.ref 0), some (.ref 74), some (.ref 126), some (.int i), w5, w6] [.int k5] G1 (bc - 500) (bs - 10000) := by
    intro G1 k5 r1 hJ1 e82 eJ
    refine us_istore hR dL_law_1414 (Nat.le_of_ble_eq_true rfl) ?_
    refine us_aload_n hR dL_law_1416 rfl ?_
    refine us_aload_nF hR dL_law_1417 rfl ?_
    refine us_iload hR dL_law_1418 rfl ?_
    refine us_iconstC hR dL_law_1420 (c := 1) (by decide) ?_
    refine us_iadd hR dL_law_1421 ?_
    refine us_scr hR dL_law_1422 rfl (hv 1 (by decide) (by decide)) ?_
    refine us_callV hR dL_law_1423 (y := 12100) (a := 74) (by decide +kernel) (by decide) (J := i12100) rfl rfl rfl rfl hJ1.1.2.1 rfl (Nat.le_of_ble_eq_true rfl) (Nat.zero_le _) (Nat.zero_le _) ?_
    refine sp_12100 (d := 997) (G := G1) (ad := lad) (I := gI G1) hJ1.1 hJ1.2.1 hf (fun I1 hP hF => ?_)
    have hL := LIw.md r1 hJ1 hP hF hS1
    refine us_istore hR dL_law_1426 (Nat.le_of_ble_eq_true rfl) ?_
    refine us_aload_n hR dL_law_1428 rfl ?_
    refine us_callV hR dL_law_1429 (y := 12001) (a := 74) (by decide +kernel) (by decide) (J := i12001) rfl rfl rfl rfl hJ1.1.2.1 rfl (Nat.le_of_ble_eq_true rfl) (Nat.zero_le _) (Nat.zero_le _) ?_
    refine sp_12001 (d := 999) (G := G1) (ad := lad) (I := I1) hJ1.1 hP ?_
    refine us_iload hR dL_law_1432 rfl ?_
    refine us_icmp_eq hR dL_law_1434 1439 (by decide) (fun _ => ?_) (fun c => absurd e82.symm c)
    refine us_iload hR dL_law_1439 rfl ?_
    refine us_if_ne hR dL_law_1441 1456 (by decide) (fun _ => ?_) (fun c0 => ?_)
    · skip
      refine us_goto hR dL_law_1456 2023 (by decide) ?_
      refine hn _ _ _ _ _ _ hL ?_ ?_
      · show bc ≤ bc - 500 - 0 - 0 + 500; omega
      · show bs ≤ bs - 10000 - 0 - 0 + 10000; omega
    · refine us_aload_n hR dL_law_1444 rfl ?_
      refine us_iconstC hR dL_law_1445 (c := 0) (by decide) ?_
      refine us_laload hR dL_law_1446 hJ1.2.2.1 (by rw [show gN (gW G1 I1) 126 = 1 from hJ1.2.2.2]; exact vi_in ⟨by decide, by decide⟩) ?_
      refine us_iload hR dL_law_1447 rfl ?_
      refine us_i2l hR dL_law_1449 ?_
      refine us_lcmp hR dL_law_1450 ?_
      refine us_if_eq hR dL_law_1451 1456 (by decide) (fun _ => ?_) (fun c => absurd (lcmp_e (eJ c0)) c)
      refine us_goto hR dL_law_1456 2023 (by decide) ?_
      refine hn _ _ _ _ _ _ hL ?_ ?_
      · show bc ≤ bc - 500 - 0 - 0 + 500; omega
      · show bs ≤ bs - 10000 - 0 - 0 + 10000; omega
  refine us_callS hR dL_law_1411 (y := 13016) (by decide +kernel) (by decide) (J := i13016) rfl rfl rfl rfl (Nat.le_of_ble_eq_true rfl) hb1 hb2 ?_
  refine st_13016 (d := 955) hT h.1.1 lF_o hJ.2.2.1 hJ.2.2.2 hh (fun e he => by
    rcases hu with ⟨v, k1, k2, k3⟩ | ⟨e', k1, k2, k3⟩
    · rw [show u = .inr v from k1] at he; cases he
    · rw [show u = .inl e' from k1] at he
      cases he
      exact k2) (fun v he => ?_) (fun e he => ?_)
  · refine rest _ _ hT.sj hJ.sj ?_ (fun _ => ?_)
    · rcases hu with ⟨v', k1, k2, k3⟩ | ⟨e', k1, k2, k3⟩
      · exact k2.symm
      · rw [show u = .inl e' from k1] at he; cases he
    · rcases hu with ⟨v', k1, k2, k3⟩ | ⟨e', k1, k2, k3⟩
      · rw [show u = .inr v' from k1] at he
        cases he
        rw [gJ_s, k3]
      · rw [show u = .inl e' from k1] at he; cases he
  · refine rest _ _ hT hJ ?_ (fun z => ?_)
    · rcases hu with ⟨v', k1, k2, k3⟩ | ⟨e', k1, k2, k3⟩
      · rw [show u = .inr v' from k1] at he; cases he
      · rw [show u = .inl e' from k1] at he
        cases he
        exact k3.symm
    · rcases hu with ⟨v', k1, k2, k3⟩ | ⟨e', k1, k2, k3⟩
      · rw [show u = .inr v' from k1] at he; cases he
      · rw [show u = .inl e' from k1] at he
        cases he
        exact absurd z k2
theorem lc_25 (hR : ab_Cl 1000 (ab_Gam 1000) 13 i_law scL scX P X R) (hI : LIw G m) (hv : ∀ c : Int32, 0 ≤ c.toInt → c.toInt < 8 → vp_in (i + c) (scL - 1)) (hb1 : 500 ≤ bc) (hb2 : 10000 ≤ bs) (hn : ∀ G1 m1 u5 u6 bc1 bs1, LIw G1 m1 → bc ≤ bc1 + 500 → bs ≤ bs1 + 10000 → R 2023 [some (.float 0), some (.ref 0), some (.ref 74), some (.ref 126), some (.int i), u5, u6] [] G1 bc1 bs1) : R 1459 [some (.float 0), some (.ref 0), some (.ref 74), some (.ref 126), some (.int i), w5, w6] [] G bc bs := by
  obtain ⟨T, hT, hS, hJ⟩ := hI
  refine us_aload_n hR dL_law_1459 rfl ?_
  refine us_aload_nF hR dL_law_1460 rfl ?_
  refine us_iload hR dL_law_1461 rfl ?_
  refine us_iconstC hR dL_law_1463 (c := 1) (by decide) ?_
  refine us_iadd hR dL_law_1464 ?_
  refine us_scr hR dL_law_1465 rfl (hv 1 (by decide) (by decide)) ?_
  refine us_aload_n hR dL_law_1466 rfl ?_
  obtain ⟨_, _, _, _, _, _, _, _, _, h⟩ := hS
  have hc : SameT (h_11026 0 ((scX (i + 1).toNatClampNeg)) T) (f_12101 ((scX (i + 1).toNatClampNeg)) m) cD (SINV 0) := c_markAnew h
  obtain ⟨T1, m1, r, u, hh, hf, hS1, hu⟩ := hc
  have rest : ∀ (G1 : ab_G) (k5 : Int32), Rep2 lF G1 T1 → LJ G1 m → k5 = m1 0 82 → (k5 = 0 → gJ G1 126 0 = r.toInt64) → R 1470 [some (.float 0), some (.ref 0), some (.ref 74), some (.ref 126), some (.int i), w5, w6] [.int k5] G1 (bc - 500) (bs - 10000) := by
    intro G1 k5 r1 hJ1 e82 eJ
    refine us_istore hR dL_law_1470 (Nat.le_of_ble_eq_true rfl) ?_
    refine us_aload_n hR dL_law_1472 rfl ?_
    refine us_aload_nF hR dL_law_1473 rfl ?_
    refine us_iload hR dL_law_1474 rfl ?_
    refine us_iconstC hR dL_law_1476 (c := 1) (by decide) ?_
    refine us_iadd hR dL_law_1477 ?_
    refine us_scr hR dL_law_1478 rfl (hv 1 (by decide) (by decide)) ?_
    refine us_callV hR dL_law_1479 (y := 12101) (a := 74) (by decide +kernel) (by decide) (J := i12101) rfl rfl rfl rfl hJ1.1.2.1 rfl (Nat.le_of_ble_eq_true rfl) (Nat.zero_le _) (Nat.zero_le _) ?_
    refine sp_12101 (d := 996) (G := G1) (ad := lad) (I := gI G1) hJ1.1 hJ1.2.1 hf (fun I1 hP hF => ?_)
    have hL := LIw.md r1 hJ1 hP hF hS1
    refine us_istore hR dL_law_1482 (Nat.le_of_ble_eq_true rfl) ?_
    refine us_aload_n hR dL_law_1484 rfl ?_
    refine us_callV hR dL_law_1485 (y := 12001) (a := 74) (by decide +kernel) (by decide) (J := i12001) rfl rfl rfl rfl hJ1.1.2.1 rfl (Nat.le_of_ble_eq_true rfl) (Nat.zero_le _) (Nat.zero_le _) ?_
    refine sp_12001 (d := 999) (G := G1) (ad := lad) (I := I1) hJ1.1 hP ?_
    refine us_iload hR dL_law_1488 rfl ?_
    refine us_icmp_eq hR dL_law_1490 1495 (by decide) (fun _ => ?_) (fun c => absurd e82.symm c)
    refine us_iload hR dL_law_1495 rfl ?_
    refine us_if_ne hR dL_law_1497 1512 (by decide) (fun _ => ?_) (fun c0 => ?_)
    · skip
      refine us_goto hR dL_law_1512 2023 (by decide) ?_
      refine hn _ _ _ _ _ _ hL ?_ ?_
      · show bc ≤ bc - 500 - 0 - 0 + 500; omega
      · show bs ≤ bs - 10000 - 0 - 0 + 10000; omega
    · refine us_aload_n hR dL_law_1500 rfl ?_
      refine us_iconstC hR dL_law_1501 (c := 0) (by decide) ?_
      refine us_laload hR dL_law_1502 hJ1.2.2.1 (by rw [show gN (gW G1 I1) 126 = 1 from hJ1.2.2.2]; exact vi_in ⟨by decide, by decide⟩) ?_
      refine us_iload hR dL_law_1503 rfl ?_
      refine us_i2l hR dL_law_1505 ?_
      refine us_lcmp hR dL_law_1506 ?_
      refine us_if_eq hR dL_law_1507 1512 (by decide) (fun _ => ?_) (fun c => absurd (lcmp_e (eJ c0)) c)
      refine us_goto hR dL_law_1512 2023 (by decide) ?_
      refine hn _ _ _ _ _ _ hL ?_ ?_
      · show bc ≤ bc - 500 - 0 - 0 + 500; omega
      · show bs ≤ bs - 10000 - 0 - 0 + 10000; omega
  refine us_callS hR dL_law_1467 (y := 13017) (by decide +kernel) (by decide) (J := i13017) rfl rfl rfl rfl (Nat.le_of_ble_eq_true rfl) hb1 hb2 ?_
  refine st_13017 (d := 955) hT h.1.1 lF_o hJ.2.2.1 hJ.2.2.2 hh (fun e he => by
    rcases hu with ⟨v, k1, k2, k3⟩ | ⟨e', k1, k2, k3⟩
    · rw [show (T1, u).2 = .inr v from k1] at he; cases he
    · rw [show (T1, u).2 = .inl e' from k1] at he
      cases he
      exact k2) (fun G1 v he r1 f1 => ?_) (fun G1 e he r1 f1 => ?_)
  · refine rest _ _ r1.sj (hJ.sm f1).sj ?_ (fun _ => ?_)
    · rcases hu with ⟨v', k1, k2, k3⟩ | ⟨e', k1, k2, k3⟩
      · exact k2.symm
      · rw [show (T1, u).2 = .inl e' from k1] at he; cases he
    · rcases hu with ⟨v', k1, k2, k3⟩ | ⟨e', k1, k2, k3⟩
      · rw [show (T1, u).2 = .inr v' from k1] at he
        cases he
        rw [gJ_s, k3]
      · rw [show (T1, u).2 = .inl e' from k1] at he; cases he
  · refine rest _ _ r1 (hJ.sm f1) ?_ (fun z => ?_)
    · rcases hu with ⟨v', k1, k2, k3⟩ | ⟨e', k1, k2, k3⟩
      · rw [show (T1, u).2 = .inr v' from k1] at he; cases he
      · rw [show (T1, u).2 = .inl e' from k1] at he
        cases he
        exact k3.symm
    · rcases hu with ⟨v', k1, k2, k3⟩ | ⟨e', k1, k2, k3⟩
      · rw [show (T1, u).2 = .inr v' from k1] at he; cases he
      · rw [show (T1, u).2 = .inl e' from k1] at he
        cases he
        exact absurd z k2
theorem lc_26 (hR : ab_Cl 1000 (ab_Gam 1000) 13 i_law scL scX P X R) (hI : LIw G m) (hv : ∀ c : Int32, 0 ≤ c.toInt → c.toInt < 8 → vp_in (i + c) (scL - 1)) (hb1 : 500 ≤ bc) (hb2 : 10000 ≤ bs) (hn : ∀ G1 m1 u5 u6 bc1 bs1, LIw G1 m1 → bc ≤ bc1 + 500 → bs ≤ bs1 + 10000 → R 2023 [some (.float 0), some (.ref 0), some (.ref 74), some (.ref 126), some (.int i), u5, u6] [] G1 bc1 bs1) : R 1515 [some (.float 0), some (.ref 0), some (.ref 74), some (.ref 126), some (.int i), w5, w6] [] G bc bs := by
  obtain ⟨T, hT, hS, hJ⟩ := hI
  refine us_aload_n hR dL_law_1515 rfl ?_
  refine us_aload_nF hR dL_law_1516 rfl ?_
  refine us_iload hR dL_law_1517 rfl ?_
  refine us_iconstC hR dL_law_1519 (c := 1) (by decide) ?_
  refine us_iadd hR dL_law_1520 ?_
  refine us_scr hR dL_law_1521 rfl (hv 1 (by decide) (by decide)) ?_
  refine us_aload_nF hR dL_law_1522 rfl ?_
  refine us_iload hR dL_law_1523 rfl ?_
  refine us_iconstC hR dL_law_1525 (c := 2) (by decide) ?_
  refine us_iadd hR dL_law_1526 ?_
  refine us_scr hR dL_law_1527 rfl (hv 2 (by decide) (by decide)) ?_
  refine us_aload_n hR dL_law_1528 rfl ?_
  obtain ⟨_, _, _, _, _, _, _, _, _, h⟩ := hS
  have hc : SameR (h_11027 0 ((scX (i + 1).toNatClampNeg)) ((scX (i + 2).toNatClampNeg)) T) (f_12102 ((scX (i + 1).toNatClampNeg)) ((scX (i + 2).toNatClampNeg)) m) cD (SINV 0 T) := c_best h
  obtain ⟨m1, r, u, hh, hf, hS1, hu⟩ := hc
  have rest : ∀ (G1 : ab_G) (k5 : Int32), Rep2 lF G1 T → LJ G1 m → k5 = m1 0 82 → (k5 = 0 → gJ G1 126 0 = r.toInt64) → R 1532 [some (.float 0), some (.ref 0), some (.ref 74), some (.ref 126), some (.int i), w5, w6] [.int k5] G1 (bc - 500) (bs - 10000) := by
    intro G1 k5 r1 hJ1 e82 eJ
    refine us_istore hR dL_law_1532 (Nat.le_of_ble_eq_true rfl) ?_
    refine us_aload_n hR dL_law_1534 rfl ?_
    refine us_aload_nF hR dL_law_1535 rfl ?_
    refine us_iload hR dL_law_1536 rfl ?_
    refine us_iconstC hR dL_law_1538 (c := 1) (by decide) ?_
    refine us_iadd hR dL_law_1539 ?_
    refine us_scr hR dL_law_1540 rfl (hv 1 (by decide) (by decide)) ?_
    refine us_aload_nF hR dL_law_1541 rfl ?_
    refine us_iload hR dL_law_1542 rfl ?_
    refine us_iconstC hR dL_law_1544 (c := 2) (by decide) ?_
    refine us_iadd hR dL_law_1545 ?_
    refine us_scr hR dL_law_1546 rfl (hv 2 (by decide) (by decide)) ?_
    refine us_callV hR dL_law_1547 (y := 12102) (a := 74) (by decide +kernel) (by decide) (J := i12102) rfl rfl rfl rfl hJ1.1.2.1 rfl (Nat.le_of_ble_eq_true rfl) (Nat.zero_le _) (Nat.zero_le _) ?_
    refine sp_12102 (d := 997) (G := G1) (ad := lad) (I := gI G1) hJ1.1 hJ1.2.1 hf (fun I1 hP hF => ?_)
    have hL := LIw.md r1 hJ1 hP hF hS1
    refine us_istore hR dL_law_1550 (Nat.le_of_ble_eq_true rfl) ?_
    refine us_aload_n hR dL_law_1552 rfl ?_
    refine us_callV hR dL_law_1553 (y := 12001) (a := 74) (by decide +kernel) (by decide) (J := i12001) rfl rfl rfl rfl hJ1.1.2.1 rfl (Nat.le_of_ble_eq_true rfl) (Nat.zero_le _) (Nat.zero_le _) ?_
    refine sp_12001 (d := 999) (G := G1) (ad := lad) (I := I1) hJ1.1 hP ?_
    refine us_iload hR dL_law_1556 rfl ?_
    refine us_icmp_eq hR dL_law_1558 1563 (by decide) (fun _ => ?_) (fun c => absurd e82.symm c)
    refine us_iload hR dL_law_1563 rfl ?_
    refine us_if_ne hR dL_law_1565 1580 (by decide) (fun _ => ?_) (fun c0 => ?_)
    · skip
      refine us_goto hR dL_law_1580 2023 (by decide) ?_
      refine hn _ _ _ _ _ _ hL ?_ ?_
      · show bc ≤ bc - 500 - 0 - 0 + 500; omega
      · show bs ≤ bs - 10000 - 0 - 0 + 10000; omega
    · refine us_aload_n hR dL_law_1568 rfl ?_
      refine us_iconstC hR dL_law_1569 (c := 0) (by decide) ?_
      refine us_laload hR dL_law_1570 hJ1.2.2.1 (by rw [show gN (gW G1 I1) 126 = 1 from hJ1.2.2.2]; exact vi_in ⟨by decide, by decide⟩) ?_
      refine us_iload hR dL_law_1571 rfl ?_
      refine us_i2l hR dL_law_1573 ?_
      refine us_lcmp hR dL_law_1574 ?_
      refine us_if_eq hR dL_law_1575 1580 (by decide) (fun _ => ?_) (fun c => absurd (lcmp_e (eJ c0)) c)
      refine us_goto hR dL_law_1580 2023 (by decide) ?_
      refine hn _ _ _ _ _ _ hL ?_ ?_
      · show bc ≤ bc - 500 - 0 - 0 + 500; omega
      · show bs ≤ bs - 10000 - 0 - 0 + 10000; omega
  refine us_callS hR dL_law_1529 (y := 13018) (by decide +kernel) (by decide) (J := i13018) rfl rfl rfl rfl (Nat.le_of_ble_eq_true rfl) hb1 hb2 ?_
  refine st_13018 (d := 955) hT h.1.1 lF_o hJ.2.2.1 hJ.2.2.2 hh (fun e he => by
    rcases hu with ⟨v, k1, k2, k3⟩ | ⟨e', k1, k2, k3⟩
    · rw [show u = .inr v from k1] at he; cases he
    · rw [show u = .inl e' from k1] at he
      cases he
      exact k2) (fun v he => ?_) (fun e he => ?_)
  · refine rest _ _ hT.sj hJ.sj ?_ (fun _ => ?_)
    · rcases hu with ⟨v', k1, k2, k3⟩ | ⟨e', k1, k2, k3⟩
      · exact k2.symm
      · rw [show u = .inl e' from k1] at he; cases he
    · rcases hu with ⟨v', k1, k2, k3⟩ | ⟨e', k1, k2, k3⟩
      · rw [show u = .inr v' from k1] at he
        cases he
        rw [gJ_s, k3]
      · rw [show u = .inl e' from k1] at he; cases he
  · refine rest _ _ hT hJ ?_ (fun z => ?_)
    · rcases hu with ⟨v', k1, k2, k3⟩ | ⟨e', k1, k2, k3⟩
      · rw [show u = .inr v' from k1] at he; cases he
      · rw [show u = .inl e' from k1] at he
        cases he
        exact k3.symm
    · rcases hu with ⟨v', k1, k2, k3⟩ | ⟨e', k1, k2, k3⟩
      · rw [show u = .inr v' from k1] at he; cases he
      · rw [show u = .inl e' from k1] at he
        cases he
        exact absurd z k2
theorem lc_27 (hR : ab_Cl 1000 (ab_Gam 1000) 13 i_law scL scX P X R) (hI : LIw G m) (hv : ∀ c : Int32, 0 ≤ c.toInt → c.toInt < 8 → vp_in (i + c) (scL - 1)) (hb1 : 500 ≤ bc) (hb2 : 10000 ≤ bs) (hn : ∀ G1 m1 u5 u6 bc1 bs1, LIw G1 m1 → bc ≤ bc1 + 500 → bs ≤ bs1 + 10000 → R 2023 [some (.float 0), some (.ref 0), some (.ref 74), some (.ref 126), some (.int i), u5, u6] [] G1 bc1 bs1) : R 1583 [some (.float 0), some (.ref 0), some (.ref 74), some (.ref 126), some (.int i), w5, w6] [] G bc bs := by
  obtain ⟨T, hT, hS, hJ⟩ := hI
  refine us_aload_n hR dL_law_1583 rfl ?_
  refine us_aload_nF hR dL_law_1584 rfl ?_
  refine us_iload hR dL_law_1585 rfl ?_
  refine us_iconstC hR dL_law_1587 (c := 1) (by decide) ?_
  refine us_iadd hR dL_law_1588 ?_
  refine us_scr hR dL_law_1589 rfl (hv 1 (by decide) (by decide)) ?_
  refine us_aload_nF hR dL_law_1590 rfl ?_
  refine us_iload hR dL_law_1591 rfl ?_
  refine us_iconstC hR dL_law_1593 (c := 2) (by decide) ?_
  refine us_iadd hR dL_law_1594 ?_
  refine us_scr hR dL_law_1595 rfl (hv 2 (by decide) (by decide)) ?_
  refine us_aload_n hR dL_law_1596 rfl ?_
  obtain ⟨_, _, _, _, _, _, _, _, _, h⟩ := hS
  have hc : SameR (h_11028 0 ((scX (i + 1).toNatClampNeg)) ((scX (i + 2).toNatClampNeg)) T) (f_12103 ((scX (i + 1).toNatClampNeg)) ((scX (i + 2).toNatClampNeg)) m) cD (SINV 0 T) := c_passed h
  obtain ⟨m1, r, u, hh, hf, hS1, hu⟩ := hc
  have rest : ∀ (G1 : ab_G) (k5 : Int32), Rep2 lF G1 T → LJ G1 m → k5 = m1 0 82 → (k5 = 0 → gJ G1 126 0 = r.toInt64) → R 1600 [some (.float 0), some (.ref 0), some (.ref 74), some (.ref 126), some (.int i), w5, w6] [.int k5] G1 (bc - 500) (bs - 10000) := by
    intro G1 k5 r1 hJ1 e82 eJ
    refine us_istore hR dL_law_1600 (Nat.le_of_ble_eq_true rfl) ?_
    refine us_aload_n hR dL_law_1602 rfl ?_
    refine us_aload_nF hR dL_law_1603 rfl ?_
    refine us_iload hR dL_law_1604 rfl ?_
    refine us_iconstC hR dL_law_1606 (c := 1) (by decide) ?_
    refine us_iadd hR dL_law_1607 ?_
    refine us_scr hR dL_law_1608 rfl (hv 1 (by decide) (by decide)) ?_
    refine us_aload_nF hR dL_law_1609 rfl ?_
    refine us_iload hR dL_law_1610 rfl ?_
    refine us_iconstC hR dL_law_1612 (c := 2) (by decide) ?_
    refine us_iadd hR dL_law_1613 ?_
    refine us_scr hR dL_law_1614 rfl (hv 2 (by decide) (by decide)) ?_
    refine us_callV hR dL_law_1615 (y := 12103) (a := 74) (by decide +kernel) (by decide) (J := i12103) rfl rfl rfl rfl hJ1.1.2.1 rfl (Nat.le_of_ble_eq_true rfl) (Nat.zero_le _) (Nat.zero_le _) ?_
    refine sp_12103 (d := 996) (G := G1) (ad := lad) (I := gI G1) hJ1.1 hJ1.2.1 hf (fun I1 hP hF => ?_)
    have hL := LIw.md r1 hJ1 hP hF hS1
    refine us_istore hR dL_law_1618 (Nat.le_of_ble_eq_true rfl) ?_
    refine us_aload_n hR dL_law_1620 rfl ?_
    refine us_callV hR dL_law_1621 (y := 12001) (a := 74) (by decide +kernel) (by decide) (J := i12001) rfl rfl rfl rfl hJ1.1.2.1 rfl (Nat.le_of_ble_eq_true rfl) (Nat.zero_le _) (Nat.zero_le _) ?_
    refine sp_12001 (d := 999) (G := G1) (ad := lad) (I := I1) hJ1.1 hP ?_
    refine us_iload hR dL_law_1624 rfl ?_
    refine us_icmp_eq hR dL_law_1626 1631 (by decide) (fun _ => ?_) (fun c => absurd e82.symm c)
    refine us_iload hR dL_law_1631 rfl ?_
    refine us_if_ne hR dL_law_1633 1648 (by decide) (fun _ => ?_) (fun c0 => ?_)
    · skip
      refine us_goto hR dL_law_1648 2023 (by decide) ?_
      refine hn _ _ _ _ _ _ hL ?_ ?_
      · show bc ≤ bc - 500 - 0 - 0 + 500; omega
      · show bs ≤ bs - 10000 - 0 - 0 + 10000; omega
    · refine us_aload_n hR dL_law_1636 rfl ?_
      refine us_iconstC hR dL_law_1637 (c := 0) (by decide) ?_
      refine us_laload hR dL_law_1638 hJ1.2.2.1 (by rw [show gN (gW G1 I1) 126 = 1 from hJ1.2.2.2]; exact vi_in ⟨by decide, by decide⟩) ?_
      refine us_iload hR dL_law_1639 rfl ?_
      refine us_i2l hR dL_law_1641 ?_
      refine us_lcmp hR dL_law_1642 ?_
      refine us_if_eq hR dL_law_1643 1648 (by decide) (fun _ => ?_) (fun c => absurd (lcmp_e (eJ c0)) c)
      refine us_goto hR dL_law_1648 2023 (by decide) ?_
      refine hn _ _ _ _ _ _ hL ?_ ?_
      · show bc ≤ bc - 500 - 0 - 0 + 500; omega
      · show bs ≤ bs - 10000 - 0 - 0 + 10000; omega
  refine us_callS hR dL_law_1597 (y := 13019) (by decide +kernel) (by decide) (J := i13019) rfl rfl rfl rfl (Nat.le_of_ble_eq_true rfl) hb1 hb2 ?_
  refine st_13019 (d := 955) hT h.1.1 lF_o hJ.2.2.1 hJ.2.2.2 hh (fun e he => by
    rcases hu with ⟨v, k1, k2, k3⟩ | ⟨e', k1, k2, k3⟩
    · rw [show u = .inr v from k1] at he; cases he
    · rw [show u = .inl e' from k1] at he
      cases he
      exact k2) (fun v he => ?_) (fun e he => ?_)
  · refine rest _ _ hT.sj hJ.sj ?_ (fun _ => ?_)
    · rcases hu with ⟨v', k1, k2, k3⟩ | ⟨e', k1, k2, k3⟩
      · exact k2.symm
      · rw [show u = .inl e' from k1] at he; cases he
    · rcases hu with ⟨v', k1, k2, k3⟩ | ⟨e', k1, k2, k3⟩
      · rw [show u = .inr v' from k1] at he
        cases he
        rw [gJ_s, k3]
      · rw [show u = .inl e' from k1] at he; cases he
  · refine rest _ _ hT hJ ?_ (fun z => ?_)
    · rcases hu with ⟨v', k1, k2, k3⟩ | ⟨e', k1, k2, k3⟩
      · rw [show u = .inr v' from k1] at he; cases he
      · rw [show u = .inl e' from k1] at he
        cases he
        exact k3.symm
    · rcases hu with ⟨v', k1, k2, k3⟩ | ⟨e', k1, k2, k3⟩
      · rw [show u = .inr v' from k1] at he; cases he
      · rw [show u = .inl e' from k1] at he
        cases he
        exact absurd z k2
theorem lc_28 (hR : ab_Cl 1000 (ab_Gam 1000) 13 i_law scL scX P X R) (hI : LIw G m) (hv : ∀ c : Int32, 0 ≤ c.toInt → c.toInt < 8 → vp_in (i + c) (scL - 1)) (hb1 : 500 ≤ bc) (hb2 : 10000 ≤ bs) (hn : ∀ G1 m1 u5 u6 bc1 bs1, LIw G1 m1 → bc ≤ bc1 + 500 → bs ≤ bs1 + 10000 → R 2023 [some (.float 0), some (.ref 0), some (.ref 74), some (.ref 126), some (.int i), u5, u6] [] G1 bc1 bs1) : R 1651 [some (.float 0), some (.ref 0), some (.ref 74), some (.ref 126), some (.int i), w5, w6] [] G bc bs := by
  obtain ⟨T, hT, hS, hJ⟩ := hI
  refine us_aload_n hR dL_law_1651 rfl ?_
  refine us_aload_nF hR dL_law_1652 rfl ?_
  refine us_iload hR dL_law_1653 rfl ?_
  refine us_iconstC hR dL_law_1655 (c := 1) (by decide) ?_
  refine us_iadd hR dL_law_1656 ?_
  refine us_scr hR dL_law_1657 rfl (hv 1 (by decide) (by decide)) ?_
  refine us_aload_n hR dL_law_1658 rfl ?_
  obtain ⟨_, _, _, _, _, _, _, _, _, h⟩ := hS
  have hc : SameR (h_11029 0 ((scX (i + 1).toNatClampNeg)) T) (f_12104 ((scX (i + 1).toNatClampNeg)) m) cD (SINV 0 T) := c_parts h
  obtain ⟨m1, r, u, hh, hf, hS1, hu⟩ := hc
  have rest : ∀ (G1 : ab_G) (k5 : Int32), Rep2 lF G1 T → LJ G1 m → k5 = m1 0 82 → (k5 = 0 → gJ G1 126 0 = r.toInt64) → R 1662 [some (.float 0), some (.ref 0), some (.ref 74), some (.ref 126), some (.int i), w5, w6] [.int k5] G1 (bc - 500) (bs - 10000) := by
    intro G1 k5 r1 hJ1 e82 eJ
    refine us_istore hR dL_law_1662 (Nat.le_of_ble_eq_true rfl) ?_
    refine us_aload_n hR dL_law_1664 rfl ?_
    refine us_aload_nF hR dL_law_1665 rfl ?_
    refine us_iload hR dL_law_1666 rfl ?_
    refine us_iconstC hR dL_law_1668 (c := 1) (by decide) ?_
    refine us_iadd hR dL_law_1669 ?_
    refine us_scr hR dL_law_1670 rfl (hv 1 (by decide) (by decide)) ?_
    refine us_callV hR dL_law_1671 (y := 12104) (a := 74) (by decide +kernel) (by decide) (J := i12104) rfl rfl rfl rfl hJ1.1.2.1 rfl (Nat.le_of_ble_eq_true rfl) (Nat.zero_le _) (Nat.zero_le _) ?_
    refine sp_12104 (d := 990) (G := G1) (ad := lad) (I := gI G1) hJ1.1 hJ1.2.1 hf (fun I1 hP hF => ?_)
    have hL := LIw.md r1 hJ1 hP hF hS1
    refine us_istore hR dL_law_1674 (Nat.le_of_ble_eq_true rfl) ?_
    refine us_aload_n hR dL_law_1676 rfl ?_
    refine us_callV hR dL_law_1677 (y := 12001) (a := 74) (by decide +kernel) (by decide) (J := i12001) rfl rfl rfl rfl hJ1.1.2.1 rfl (Nat.le_of_ble_eq_true rfl) (Nat.zero_le _) (Nat.zero_le _) ?_
    refine sp_12001 (d := 999) (G := G1) (ad := lad) (I := I1) hJ1.1 hP ?_
    refine us_iload hR dL_law_1680 rfl ?_
    refine us_icmp_eq hR dL_law_1682 1687 (by decide) (fun _ => ?_) (fun c => absurd e82.symm c)
    refine us_iload hR dL_law_1687 rfl ?_
    refine us_if_ne hR dL_law_1689 1704 (by decide) (fun _ => ?_) (fun c0 => ?_)
    · skip
      refine us_goto hR dL_law_1704 2023 (by decide) ?_
      refine hn _ _ _ _ _ _ hL ?_ ?_
      · show bc ≤ bc - 500 - 0 - 0 + 500; omega
      · show bs ≤ bs - 10000 - 0 - 0 + 10000; omega
    · refine us_aload_n hR dL_law_1692 rfl ?_
      refine us_iconstC hR dL_law_1693 (c := 0) (by decide) ?_
      refine us_laload hR dL_law_1694 hJ1.2.2.1 (by rw [show gN (gW G1 I1) 126 = 1 from hJ1.2.2.2]; exact vi_in ⟨by decide, by decide⟩) ?_
      refine us_iload hR dL_law_1695 rfl ?_
      refine us_i2l hR dL_law_1697 ?_
      refine us_lcmp hR dL_law_1698 ?_
      refine us_if_eq hR dL_law_1699 1704 (by decide) (fun _ => ?_) (fun c => absurd (lcmp_e (eJ c0)) c)
      refine us_goto hR dL_law_1704 2023 (by decide) ?_
      refine hn _ _ _ _ _ _ hL ?_ ?_
      · show bc ≤ bc - 500 - 0 - 0 + 500; omega
      · show bs ≤ bs - 10000 - 0 - 0 + 10000; omega
  refine us_callS hR dL_law_1659 (y := 13020) (by decide +kernel) (by decide) (J := i13020) rfl rfl rfl rfl (Nat.le_of_ble_eq_true rfl) hb1 hb2 ?_
  refine st_13020 (d := 956) hT h.1.1 lF_o hJ.2.2.1 hJ.2.2.2 hh (fun e he => by
    rcases hu with ⟨v, k1, k2, k3⟩ | ⟨e', k1, k2, k3⟩
    · rw [show u = .inr v from k1] at he; cases he
    · rw [show u = .inl e' from k1] at he
      cases he
      exact k2) (fun v he => ?_) (fun e he => ?_)
  · refine rest _ _ hT.sj hJ.sj ?_ (fun _ => ?_)
    · rcases hu with ⟨v', k1, k2, k3⟩ | ⟨e', k1, k2, k3⟩
      · exact k2.symm
      · rw [show u = .inl e' from k1] at he; cases he
    · rcases hu with ⟨v', k1, k2, k3⟩ | ⟨e', k1, k2, k3⟩
      · rw [show u = .inr v' from k1] at he
        cases he
        rw [gJ_s, k3]
      · rw [show u = .inl e' from k1] at he; cases he
  · refine rest _ _ hT hJ ?_ (fun z => ?_)
    · rcases hu with ⟨v', k1, k2, k3⟩ | ⟨e', k1, k2, k3⟩
      · rw [show u = .inr v' from k1] at he; cases he
      · rw [show u = .inl e' from k1] at he
        cases he
        exact k3.symm
    · rcases hu with ⟨v', k1, k2, k3⟩ | ⟨e', k1, k2, k3⟩
      · rw [show u = .inr v' from k1] at he; cases he
      · rw [show u = .inl e' from k1] at he
        cases he
        exact absurd z k2
theorem lc_29 (hR : ab_Cl 1000 (ab_Gam 1000) 13 i_law scL scX P X R) (hI : LIw G m) (hv : ∀ c : Int32, 0 ≤ c.toInt → c.toInt < 8 → vp_in (i + c) (scL - 1)) (hb1 : 500 ≤ bc) (hb2 : 10000 ≤ bs) (hn : ∀ G1 m1 u5 u6 bc1 bs1, LIw G1 m1 → bc ≤ bc1 + 500 → bs ≤ bs1 + 10000 → R 2023 [some (.float 0), some (.ref 0), some (.ref 74), some (.ref 126), some (.int i), u5, u6] [] G1 bc1 bs1) : R 1707 [some (.float 0), some (.ref 0), some (.ref 74), some (.ref 126), some (.int i), w5, w6] [] G bc bs := by
  obtain ⟨T, hT, hS, hJ⟩ := hI
  refine us_aload_n hR dL_law_1707 rfl ?_
  refine us_aload_nF hR dL_law_1708 rfl ?_
  refine us_iload hR dL_law_1709 rfl ?_
  refine us_iconstC hR dL_law_1711 (c := 1) (by decide) ?_
  refine us_iadd hR dL_law_1712 ?_
  refine us_scr hR dL_law_1713 rfl (hv 1 (by decide) (by decide)) ?_
  refine us_aload_nF hR dL_law_1714 rfl ?_
  refine us_iload hR dL_law_1715 rfl ?_
  refine us_iconstC hR dL_law_1717 (c := 2) (by decide) ?_
  refine us_iadd hR dL_law_1718 ?_
  refine us_scr hR dL_law_1719 rfl (hv 2 (by decide) (by decide)) ?_
  refine us_aload_n hR dL_law_1720 rfl ?_
  obtain ⟨_, _, _, _, _, _, _, _, _, h⟩ := hS
  have hc : SameR (h_11030 0 ((scX (i + 1).toNatClampNeg)) ((scX (i + 2).toNatClampNeg)) T) (f_12109 ((scX (i + 1).toNatClampNeg)) ((scX (i + 2).toNatClampNeg)) m) cD (SINV 0 T) := c_common h
  obtain ⟨m1, r, u, hh, hf, hS1, hu⟩ := hc
  have rest : ∀ (G1 : ab_G) (k5 : Int32), Rep2 lF G1 T → LJ G1 m → k5 = m1 0 82 → (k5 = 0 → gJ G1 126 0 = r.toInt64) → R 1724 [some (.float 0), some (.ref 0), some (.ref 74), some (.ref 126), some (.int i), w5, w6] [.int k5] G1 (bc - 500) (bs - 10000) := by
    intro G1 k5 r1 hJ1 e82 eJ
    refine us_istore hR dL_law_1724 (Nat.le_of_ble_eq_true rfl) ?_
    refine us_aload_n hR dL_law_1726 rfl ?_
    refine us_aload_nF hR dL_law_1727 rfl ?_
    refine us_iload hR dL_law_1728 rfl ?_
    refine us_iconstC hR dL_law_1730 (c := 1) (by decide) ?_
    refine us_iadd hR dL_law_1731 ?_
    refine us_scr hR dL_law_1732 rfl (hv 1 (by decide) (by decide)) ?_
    refine us_aload_nF hR dL_law_1733 rfl ?_
    refine us_iload hR dL_law_1734 rfl ?_
    refine us_iconstC hR dL_law_1736 (c := 2) (by decide) ?_
    refine us_iadd hR dL_law_1737 ?_
    refine us_scr hR dL_law_1738 rfl (hv 2 (by decide) (by decide)) ?_
    refine us_callV hR dL_law_1739 (y := 12109) (a := 74) (by decide +kernel) (by decide) (J := i12109) rfl rfl rfl rfl hJ1.1.2.1 rfl (Nat.le_of_ble_eq_true rfl) (Nat.zero_le _) (Nat.zero_le _) ?_
    refine sp_12109 (d := 989) (G := G1) (ad := lad) (I := gI G1) hJ1.1 hJ1.2.1 hf (fun I1 hP hF => ?_)
    have hL := LIw.md r1 hJ1 hP hF hS1
    refine us_istore hR dL_law_1742 (Nat.le_of_ble_eq_true rfl) ?_
    refine us_aload_n hR dL_law_1744 rfl ?_
    refine us_callV hR dL_law_1745 (y := 12001) (a := 74) (by decide +kernel) (by decide) (J := i12001) rfl rfl rfl rfl hJ1.1.2.1 rfl (Nat.le_of_ble_eq_true rfl) (Nat.zero_le _) (Nat.zero_le _) ?_
    refine sp_12001 (d := 999) (G := G1) (ad := lad) (I := I1) hJ1.1 hP ?_
    refine us_iload hR dL_law_1748 rfl ?_
    refine us_icmp_eq hR dL_law_1750 1755 (by decide) (fun _ => ?_) (fun c => absurd e82.symm c)
    refine us_iload hR dL_law_1755 rfl ?_
    refine us_if_ne hR dL_law_1757 1772 (by decide) (fun _ => ?_) (fun c0 => ?_)
    · skip
      refine us_goto hR dL_law_1772 2023 (by decide) ?_
      refine hn _ _ _ _ _ _ hL ?_ ?_
      · show bc ≤ bc - 500 - 0 - 0 + 500; omega
      · show bs ≤ bs - 10000 - 0 - 0 + 10000; omega
    · refine us_aload_n hR dL_law_1760 rfl ?_
      refine us_iconstC hR dL_law_1761 (c := 0) (by decide) ?_
      refine us_laload hR dL_law_1762 hJ1.2.2.1 (by rw [show gN (gW G1 I1) 126 = 1 from hJ1.2.2.2]; exact vi_in ⟨by decide, by decide⟩) ?_
      refine us_iload hR dL_law_1763 rfl ?_
      refine us_i2l hR dL_law_1765 ?_
      refine us_lcmp hR dL_law_1766 ?_
      refine us_if_eq hR dL_law_1767 1772 (by decide) (fun _ => ?_) (fun c => absurd (lcmp_e (eJ c0)) c)
      refine us_goto hR dL_law_1772 2023 (by decide) ?_
      refine hn _ _ _ _ _ _ hL ?_ ?_
      · show bc ≤ bc - 500 - 0 - 0 + 500; omega
      · show bs ≤ bs - 10000 - 0 - 0 + 10000; omega
  refine us_callS hR dL_law_1721 (y := 13021) (by decide +kernel) (by decide) (J := i13021) rfl rfl rfl rfl (Nat.le_of_ble_eq_true rfl) hb1 hb2 ?_
  refine st_13021 (d := 955) hT h.1.1 lF_o hJ.2.2.1 hJ.2.2.2 hh (fun e he => by
    rcases hu with ⟨v, k1, k2, k3⟩ | ⟨e', k1, k2, k3⟩
    · rw [show u = .inr v from k1] at he; cases he
    · rw [show u = .inl e' from k1] at he
      cases he
      exact k2) (fun v he => ?_) (fun e he => ?_)
  · refine rest _ _ hT.sj hJ.sj ?_ (fun _ => ?_)
    · rcases hu with ⟨v', k1, k2, k3⟩ | ⟨e', k1, k2, k3⟩
      · exact k2.symm
      · rw [show u = .inl e' from k1] at he; cases he
    · rcases hu with ⟨v', k1, k2, k3⟩ | ⟨e', k1, k2, k3⟩
      · rw [show u = .inr v' from k1] at he
        cases he
        rw [gJ_s, k3]
      · rw [show u = .inl e' from k1] at he; cases he
  · refine rest _ _ hT hJ ?_ (fun z => ?_)
    · rcases hu with ⟨v', k1, k2, k3⟩ | ⟨e', k1, k2, k3⟩
      · rw [show u = .inr v' from k1] at he; cases he
      · rw [show u = .inl e' from k1] at he
        cases he
        exact k3.symm
    · rcases hu with ⟨v', k1, k2, k3⟩ | ⟨e', k1, k2, k3⟩
      · rw [show u = .inr v' from k1] at he; cases he
      · rw [show u = .inl e' from k1] at he
        cases he
        exact absurd z k2
theorem lc_30 (hR : ab_Cl 1000 (ab_Gam 1000) 13 i_law scL scX P X R) (hI : LIw G m) (hv : ∀ c : Int32, 0 ≤ c.toInt → c.toInt < 8 → vp_in (i + c) (scL - 1)) (hb1 : 500 ≤ bc) (hb2 : 10000 ≤ bs) (hn : ∀ G1 m1 u5 u6 bc1 bs1, LIw G1 m1 → bc ≤ bc1 + 500 → bs ≤ bs1 + 10000 → R 2023 [some (.float 0), some (.ref 0), some (.ref 74), some (.ref 126), some (.int i), u5, u6] [] G1 bc1 bs1) : R 1775 [some (.float 0), some (.ref 0), some (.ref 74), some (.ref 126), some (.int i), w5, w6] [] G bc bs := by
  obtain ⟨T, hT, hS, hJ⟩ := hI
  refine us_aload_n hR dL_law_1775 rfl ?_
  refine us_aload_nF hR dL_law_1776 rfl ?_
  refine us_iload hR dL_law_1777 rfl ?_
  refine us_iconstC hR dL_law_1779 (c := 1) (by decide) ?_
  refine us_iadd hR dL_law_1780 ?_
  refine us_scr hR dL_law_1781 rfl (hv 1 (by decide) (by decide)) ?_
  refine us_aload_nF hR dL_law_1782 rfl ?_
  refine us_iload hR dL_law_1783 rfl ?_
  refine us_iconstC hR dL_law_1785 (c := 2) (by decide) ?_
  refine us_iadd hR dL_law_1786 ?_
  refine us_scr hR dL_law_1787 rfl (hv 2 (by decide) (by decide)) ?_
  refine us_aload_n hR dL_law_1788 rfl ?_
  obtain ⟨_, _, _, _, _, _, _, _, _, h⟩ := hS
  have hc : SameR (h_11031 0 ((scX (i + 1).toNatClampNeg)) ((scX (i + 2).toNatClampNeg)) T) (f_12110 ((scX (i + 1).toNatClampNeg)) ((scX (i + 2).toNatClampNeg)) m) cD (SINV 0 T) := c_likeness h
  obtain ⟨m1, r, u, hh, hf, hS1, hu⟩ := hc
  have rest : ∀ (G1 : ab_G) (k5 : Int32), Rep2 lF G1 T → LJ G1 m → k5 = m1 0 82 → (k5 = 0 → gJ G1 126 0 = r.toInt64) → R 1792 [some (.float 0), some (.ref 0), some (.ref 74), some (.ref 126), some (.int i), w5, w6] [.int k5] G1 (bc - 500) (bs - 10000) := by
    intro G1 k5 r1 hJ1 e82 eJ
    refine us_istore hR dL_law_1792 (Nat.le_of_ble_eq_true rfl) ?_
    refine us_aload_n hR dL_law_1794 rfl ?_
    refine us_aload_nF hR dL_law_1795 rfl ?_
    refine us_iload hR dL_law_1796 rfl ?_
    refine us_iconstC hR dL_law_1798 (c := 1) (by decide) ?_
    refine us_iadd hR dL_law_1799 ?_
    refine us_scr hR dL_law_1800 rfl (hv 1 (by decide) (by decide)) ?_
    refine us_aload_nF hR dL_law_1801 rfl ?_
    refine us_iload hR dL_law_1802 rfl ?_
    refine us_iconstC hR dL_law_1804 (c := 2) (by decide) ?_
    refine us_iadd hR dL_law_1805 ?_
    refine us_scr hR dL_law_1806 rfl (hv 2 (by decide) (by decide)) ?_
    refine us_callV hR dL_law_1807 (y := 12110) (a := 74) (by decide +kernel) (by decide) (J := i12110) rfl rfl rfl rfl hJ1.1.2.1 rfl (Nat.le_of_ble_eq_true rfl) (Nat.zero_le _) (Nat.zero_le _) ?_
    refine sp_12110 (d := 988) (G := G1) (ad := lad) (I := gI G1) hJ1.1 hJ1.2.1 hf (fun I1 hP hF => ?_)
    have hL := LIw.md r1 hJ1 hP hF hS1
    refine us_istore hR dL_law_1810 (Nat.le_of_ble_eq_true rfl) ?_
    refine us_aload_n hR dL_law_1812 rfl ?_
    refine us_callV hR dL_law_1813 (y := 12001) (a := 74) (by decide +kernel) (by decide) (J := i12001) rfl rfl rfl rfl hJ1.1.2.1 rfl (Nat.le_of_ble_eq_true rfl) (Nat.zero_le _) (Nat.zero_le _) ?_
    refine sp_12001 (d := 999) (G := G1) (ad := lad) (I := I1) hJ1.1 hP ?_
    refine us_iload hR dL_law_1816 rfl ?_
    refine us_icmp_eq hR dL_law_1818 1823 (by decide) (fun _ => ?_) (fun c => absurd e82.symm c)
    refine us_iload hR dL_law_1823 rfl ?_
    refine us_if_ne hR dL_law_1825 1840 (by decide) (fun _ => ?_) (fun c0 => ?_)
    · skip
      refine us_goto hR dL_law_1840 2023 (by decide) ?_
      refine hn _ _ _ _ _ _ hL ?_ ?_
      · show bc ≤ bc - 500 - 0 - 0 + 500; omega
      · show bs ≤ bs - 10000 - 0 - 0 + 10000; omega
    · refine us_aload_n hR dL_law_1828 rfl ?_
      refine us_iconstC hR dL_law_1829 (c := 0) (by decide) ?_
      refine us_laload hR dL_law_1830 hJ1.2.2.1 (by rw [show gN (gW G1 I1) 126 = 1 from hJ1.2.2.2]; exact vi_in ⟨by decide, by decide⟩) ?_
      refine us_iload hR dL_law_1831 rfl ?_
      refine us_i2l hR dL_law_1833 ?_
      refine us_lcmp hR dL_law_1834 ?_
      refine us_if_eq hR dL_law_1835 1840 (by decide) (fun _ => ?_) (fun c => absurd (lcmp_e (eJ c0)) c)
      refine us_goto hR dL_law_1840 2023 (by decide) ?_
      refine hn _ _ _ _ _ _ hL ?_ ?_
      · show bc ≤ bc - 500 - 0 - 0 + 500; omega
      · show bs ≤ bs - 10000 - 0 - 0 + 10000; omega
  refine us_callS hR dL_law_1789 (y := 13022) (by decide +kernel) (by decide) (J := i13022) rfl rfl rfl rfl (Nat.le_of_ble_eq_true rfl) hb1 hb2 ?_
  refine st_13022 (d := 954) hT h.1.1 lF_o hJ.2.2.1 hJ.2.2.2 hh (fun e he => by
    rcases hu with ⟨v, k1, k2, k3⟩ | ⟨e', k1, k2, k3⟩
    · rw [show u = .inr v from k1] at he; cases he
    · rw [show u = .inl e' from k1] at he
      cases he
      exact k2) (fun v he => ?_) (fun e he => ?_)
  · refine rest _ _ hT.sj hJ.sj ?_ (fun _ => ?_)
    · rcases hu with ⟨v', k1, k2, k3⟩ | ⟨e', k1, k2, k3⟩
      · exact k2.symm
      · rw [show u = .inl e' from k1] at he; cases he
    · rcases hu with ⟨v', k1, k2, k3⟩ | ⟨e', k1, k2, k3⟩
      · rw [show u = .inr v' from k1] at he
        cases he
        rw [gJ_s, k3]
      · rw [show u = .inl e' from k1] at he; cases he
  · refine rest _ _ hT hJ ?_ (fun z => ?_)
    · rcases hu with ⟨v', k1, k2, k3⟩ | ⟨e', k1, k2, k3⟩
      · rw [show u = .inr v' from k1] at he; cases he
      · rw [show u = .inl e' from k1] at he
        cases he
        exact k3.symm
    · rcases hu with ⟨v', k1, k2, k3⟩ | ⟨e', k1, k2, k3⟩
      · rw [show u = .inr v' from k1] at he; cases he
      · rw [show u = .inl e' from k1] at he
        cases he
        exact absurd z k2
theorem lc_31 (hR : ab_Cl 1000 (ab_Gam 1000) 13 i_law scL scX P X R) (hI : LIw G m) (hv : ∀ c : Int32, 0 ≤ c.toInt → c.toInt < 8 → vp_in (i + c) (scL - 1)) (hb1 : 500 ≤ bc) (hb2 : 10000 ≤ bs) (hn : ∀ G1 m1 u5 u6 bc1 bs1, LIw G1 m1 → bc ≤ bc1 + 500 → bs ≤ bs1 + 10000 → R 2023 [some (.float 0), some (.ref 0), some (.ref 74), some (.ref 126), some (.int i), u5, u6] [] G1 bc1 bs1) : R 1843 [some (.float 0), some (.ref 0), some (.ref 74), some (.ref 126), some (.int i), w5, w6] [] G bc bs := by
  obtain ⟨T, hT, hS, hJ⟩ := hI
  refine us_aload_n hR dL_law_1843 rfl ?_
  refine us_aload_nF hR dL_law_1844 rfl ?_
  refine us_iload hR dL_law_1845 rfl ?_
  refine us_iconstC hR dL_law_1847 (c := 1) (by decide) ?_
  refine us_iadd hR dL_law_1848 ?_
  refine us_scr hR dL_law_1849 rfl (hv 1 (by decide) (by decide)) ?_
  refine us_aload_nF hR dL_law_1850 rfl ?_
  refine us_iload hR dL_law_1851 rfl ?_
  refine us_iconstC hR dL_law_1853 (c := 2) (by decide) ?_
  refine us_iadd hR dL_law_1854 ?_
  refine us_scr hR dL_law_1855 rfl (hv 2 (by decide) (by decide)) ?_
  refine us_aload_n hR dL_law_1856 rfl ?_
  obtain ⟨_, _, _, _, _, _, _, _, _, h⟩ := hS
  have hc : SameT (h_11032 0 ((scX (i + 1).toNatClampNeg)) ((scX (i + 2).toNatClampNeg)) T) (f_12112 ((scX (i + 1).toNatClampNeg)) ((scX (i + 2).toNatClampNeg)) m) cB (SINV 0) := c_accuse h
  obtain ⟨T1, m1, r, u, hh, hf, hS1, hu⟩ := hc
  have rest : ∀ (G1 : ab_G) (k5 : Int32), Rep2 lF G1 T1 → LJ G1 m → k5 = m1 0 82 → (k5 = 0 → gJ G1 126 0 = r.toInt64) → R 1860 [some (.float 0), some (.ref 0), some (.ref 74), some (.ref 126), some (.int i), w5, w6] [.int k5] G1 (bc - 500) (bs - 10000) := by
    intro G1 k5 r1 hJ1 e82 eJ
    refine us_istore hR dL_law_1860 (Nat.le_of_ble_eq_true rfl) ?_
    refine us_aload_n hR dL_law_1862 rfl ?_
    refine us_aload_nF hR dL_law_1863 rfl ?_
    refine us_iload hR dL_law_1864 rfl ?_
    refine us_iconstC hR dL_law_1866 (c := 1) (by decide) ?_
    refine us_iadd hR dL_law_1867 ?_
    refine us_scr hR dL_law_1868 rfl (hv 1 (by decide) (by decide)) ?_
    refine us_aload_nF hR dL_law_1869 rfl ?_
    refine us_iload hR dL_law_1870 rfl ?_
    refine us_iconstC hR dL_law_1872 (c := 2) (by decide) ?_
    refine us_iadd hR dL_law_1873 ?_
    refine us_scr hR dL_law_1874 rfl (hv 2 (by decide) (by decide)) ?_
    refine us_callV hR dL_law_1875 (y := 12112) (a := 74) (by decide +kernel) (by decide) (J := i12112) rfl rfl rfl rfl hJ1.1.2.1 rfl (Nat.le_of_ble_eq_true rfl) (Nat.zero_le _) (Nat.zero_le _) ?_
    refine sp_12112 (d := 987) (G := G1) (ad := lad) (I := gI G1) hJ1.1 hJ1.2.1 hf (fun I1 hP hF => ?_)
    have hL := LIw.md r1 hJ1 hP hF hS1
    refine us_istore hR dL_law_1878 (Nat.le_of_ble_eq_true rfl) ?_
    refine us_aload_n hR dL_law_1880 rfl ?_
    refine us_callV hR dL_law_1881 (y := 12001) (a := 74) (by decide +kernel) (by decide) (J := i12001) rfl rfl rfl rfl hJ1.1.2.1 rfl (Nat.le_of_ble_eq_true rfl) (Nat.zero_le _) (Nat.zero_le _) ?_
    refine sp_12001 (d := 999) (G := G1) (ad := lad) (I := I1) hJ1.1 hP ?_
    refine us_iload hR dL_law_1884 rfl ?_
    refine us_icmp_eq hR dL_law_1886 1891 (by decide) (fun _ => ?_) (fun c => absurd e82.symm c)
    refine us_iload hR dL_law_1891 rfl ?_
    refine us_if_ne hR dL_law_1893 1908 (by decide) (fun _ => ?_) (fun c0 => ?_)
    · skip
      refine us_goto hR dL_law_1908 2023 (by decide) ?_
      refine hn _ _ _ _ _ _ hL ?_ ?_
      · show bc ≤ bc - 500 - 0 - 0 + 500; omega
      · show bs ≤ bs - 10000 - 0 - 0 + 10000; omega
    · refine us_aload_n hR dL_law_1896 rfl ?_
      refine us_iconstC hR dL_law_1897 (c := 0) (by decide) ?_
      refine us_laload hR dL_law_1898 hJ1.2.2.1 (by rw [show gN (gW G1 I1) 126 = 1 from hJ1.2.2.2]; exact vi_in ⟨by decide, by decide⟩) ?_
      refine us_iload hR dL_law_1899 rfl ?_
      refine us_i2l hR dL_law_1901 ?_
      refine us_lcmp hR dL_law_1902 ?_
      refine us_if_eq hR dL_law_1903 1908 (by decide) (fun _ => ?_) (fun c => absurd (lcmp_e (eJ c0)) c)
      refine us_goto hR dL_law_1908 2023 (by decide) ?_
      refine hn _ _ _ _ _ _ hL ?_ ?_
      · show bc ≤ bc - 500 - 0 - 0 + 500; omega
      · show bs ≤ bs - 10000 - 0 - 0 + 10000; omega
  refine us_callS hR dL_law_1857 (y := 13023) (by decide +kernel) (by decide) (J := i13023) rfl rfl rfl rfl (Nat.le_of_ble_eq_true rfl) hb1 hb2 ?_
  refine st_13023 (d := 953) hT h.1.1 lF_o hJ.2.2.1 hJ.2.2.2 hh (fun e he => by
    rcases hu with ⟨v, k1, k2, k3⟩ | ⟨e', k1, k2, k3⟩
    · rw [show (T1, u).2 = .inr v from k1] at he; cases he
    · rw [show (T1, u).2 = .inl e' from k1] at he
      cases he
      exact k2) (fun G1 v he r1 f1 => ?_) (fun G1 e he r1 f1 => ?_)
  · refine rest _ _ r1.sj (hJ.sm f1).sj ?_ (fun _ => ?_)
    · rcases hu with ⟨v', k1, k2, k3⟩ | ⟨e', k1, k2, k3⟩
      · exact k2.symm
      · rw [show (T1, u).2 = .inl e' from k1] at he; cases he
    · rcases hu with ⟨v', k1, k2, k3⟩ | ⟨e', k1, k2, k3⟩
      · rw [show (T1, u).2 = .inr v' from k1] at he
        cases he
        rw [gJ_s, k3]
      · rw [show (T1, u).2 = .inl e' from k1] at he; cases he
  · refine rest _ _ r1 (hJ.sm f1) ?_ (fun z => ?_)
    · rcases hu with ⟨v', k1, k2, k3⟩ | ⟨e', k1, k2, k3⟩
      · rw [show (T1, u).2 = .inr v' from k1] at he; cases he
      · rw [show (T1, u).2 = .inl e' from k1] at he
        cases he
        exact k3.symm
    · rcases hu with ⟨v', k1, k2, k3⟩ | ⟨e', k1, k2, k3⟩
      · rw [show (T1, u).2 = .inr v' from k1] at he; cases he
      · rw [show (T1, u).2 = .inl e' from k1] at he
        cases he
        exact absurd z k2
theorem lc_32 (hR : ab_Cl 1000 (ab_Gam 1000) 13 i_law scL scX P X R) (hI : LIw G m) (hv : ∀ c : Int32, 0 ≤ c.toInt → c.toInt < 8 → vp_in (i + c) (scL - 1)) (hb1 : 500 ≤ bc) (hb2 : 10000 ≤ bs) (hn : ∀ G1 m1 u5 u6 bc1 bs1, LIw G1 m1 → bc ≤ bc1 + 500 → bs ≤ bs1 + 10000 → R 2023 [some (.float 0), some (.ref 0), some (.ref 74), some (.ref 126), some (.int i), u5, u6] [] G1 bc1 bs1) : R 1911 [some (.float 0), some (.ref 0), some (.ref 74), some (.ref 126), some (.int i), w5, w6] [] G bc bs := by
  obtain ⟨T, hT, hS, hJ⟩ := hI
  refine us_aload_n hR dL_law_1911 rfl ?_
  refine us_aload_nF hR dL_law_1912 rfl ?_
  refine us_iload hR dL_law_1913 rfl ?_
  refine us_iconstC hR dL_law_1915 (c := 1) (by decide) ?_
  refine us_iadd hR dL_law_1916 ?_
  refine us_scr hR dL_law_1917 rfl (hv 1 (by decide) (by decide)) ?_
  refine us_aload_n hR dL_law_1918 rfl ?_
  obtain ⟨_, _, _, _, _, _, _, _, _, h⟩ := hS
  have hc : SameT (h_11033 0 ((scX (i + 1).toNatClampNeg)) T) (f_12113 ((scX (i + 1).toNatClampNeg)) m) cB (SINV 0) := c_clear h
  obtain ⟨T1, m1, r, u, hh, hf, hS1, hu⟩ := hc
  have rest : ∀ (G1 : ab_G) (k5 : Int32), Rep2 lF G1 T1 → LJ G1 m → k5 = m1 0 82 → (k5 = 0 → gJ G1 126 0 = r.toInt64) → R 1922 [some (.float 0), some (.ref 0), some (.ref 74), some (.ref 126), some (.int i), w5, w6] [.int k5] G1 (bc - 500) (bs - 10000) := by
    intro G1 k5 r1 hJ1 e82 eJ
    refine us_istore hR dL_law_1922 (Nat.le_of_ble_eq_true rfl) ?_
    refine us_aload_n hR dL_law_1924 rfl ?_
    refine us_aload_nF hR dL_law_1925 rfl ?_
    refine us_iload hR dL_law_1926 rfl ?_
    refine us_iconstC hR dL_law_1928 (c := 1) (by decide) ?_
    refine us_iadd hR dL_law_1929 ?_
    refine us_scr hR dL_law_1930 rfl (hv 1 (by decide) (by decide)) ?_
    refine us_callV hR dL_law_1931 (y := 12113) (a := 74) (by decide +kernel) (by decide) (J := i12113) rfl rfl rfl rfl hJ1.1.2.1 rfl (Nat.le_of_ble_eq_true rfl) (Nat.zero_le _) (Nat.zero_le _) ?_
    refine sp_12113 (d := 997) (G := G1) (ad := lad) (I := gI G1) hJ1.1 hJ1.2.1 hf (fun I1 hP hF => ?_)
    have hL := LIw.md r1 hJ1 hP hF hS1
    refine us_istore hR dL_law_1934 (Nat.le_of_ble_eq_true rfl) ?_
    refine us_aload_n hR dL_law_1936 rfl ?_
    refine us_callV hR dL_law_1937 (y := 12001) (a := 74) (by decide +kernel) (by decide) (J := i12001) rfl rfl rfl rfl hJ1.1.2.1 rfl (Nat.le_of_ble_eq_true rfl) (Nat.zero_le _) (Nat.zero_le _) ?_
    refine sp_12001 (d := 999) (G := G1) (ad := lad) (I := I1) hJ1.1 hP ?_
    refine us_iload hR dL_law_1940 rfl ?_
    refine us_icmp_eq hR dL_law_1942 1947 (by decide) (fun _ => ?_) (fun c => absurd e82.symm c)
    refine us_iload hR dL_law_1947 rfl ?_
    refine us_if_ne hR dL_law_1949 1964 (by decide) (fun _ => ?_) (fun c0 => ?_)
    · skip
      refine us_goto hR dL_law_1964 2023 (by decide) ?_
      refine hn _ _ _ _ _ _ hL ?_ ?_
      · show bc ≤ bc - 500 - 0 - 0 + 500; omega
      · show bs ≤ bs - 10000 - 0 - 0 + 10000; omega
    · refine us_aload_n hR dL_law_1952 rfl ?_
      refine us_iconstC hR dL_law_1953 (c := 0) (by decide) ?_
      refine us_laload hR dL_law_1954 hJ1.2.2.1 (by rw [show gN (gW G1 I1) 126 = 1 from hJ1.2.2.2]; exact vi_in ⟨by decide, by decide⟩) ?_
      refine us_iload hR dL_law_1955 rfl ?_
      refine us_i2l hR dL_law_1957 ?_
      refine us_lcmp hR dL_law_1958 ?_
      refine us_if_eq hR dL_law_1959 1964 (by decide) (fun _ => ?_) (fun c => absurd (lcmp_e (eJ c0)) c)
      refine us_goto hR dL_law_1964 2023 (by decide) ?_
      refine hn _ _ _ _ _ _ hL ?_ ?_
      · show bc ≤ bc - 500 - 0 - 0 + 500; omega
      · show bs ≤ bs - 10000 - 0 - 0 + 10000; omega
  refine us_callS hR dL_law_1919 (y := 13024) (by decide +kernel) (by decide) (J := i13024) rfl rfl rfl rfl (Nat.le_of_ble_eq_true rfl) hb1 hb2 ?_
  refine st_13024 (d := 955) hT h.1.1 lF_o hJ.2.2.1 hJ.2.2.2 hh (fun e he => by
    rcases hu with ⟨v, k1, k2, k3⟩ | ⟨e', k1, k2, k3⟩
    · rw [show (T1, u).2 = .inr v from k1] at he; cases he
    · rw [show (T1, u).2 = .inl e' from k1] at he
      cases he
      exact k2) (fun G1 v he r1 f1 => ?_) (fun G1 e he r1 f1 => ?_)
  · refine rest _ _ r1.sj (hJ.sm f1).sj ?_ (fun _ => ?_)
    · rcases hu with ⟨v', k1, k2, k3⟩ | ⟨e', k1, k2, k3⟩
      · exact k2.symm
      · rw [show (T1, u).2 = .inl e' from k1] at he; cases he
    · rcases hu with ⟨v', k1, k2, k3⟩ | ⟨e', k1, k2, k3⟩
      · rw [show (T1, u).2 = .inr v' from k1] at he
        cases he
        rw [gJ_s, k3]
      · rw [show (T1, u).2 = .inl e' from k1] at he; cases he
  · refine rest _ _ r1 (hJ.sm f1) ?_ (fun z => ?_)
    · rcases hu with ⟨v', k1, k2, k3⟩ | ⟨e', k1, k2, k3⟩
      · rw [show (T1, u).2 = .inr v' from k1] at he; cases he
      · rw [show (T1, u).2 = .inl e' from k1] at he
        cases he
        exact k3.symm
    · rcases hu with ⟨v', k1, k2, k3⟩ | ⟨e', k1, k2, k3⟩
      · rw [show (T1, u).2 = .inr v' from k1] at he; cases he
      · rw [show (T1, u).2 = .inl e' from k1] at he
        cases he
        exact absurd z k2
theorem lc_33 (hR : ab_Cl 1000 (ab_Gam 1000) 13 i_law scL scX P X R) (hI : LIw G m) (hv : ∀ c : Int32, 0 ≤ c.toInt → c.toInt < 8 → vp_in (i + c) (scL - 1)) (hb1 : 500 ≤ bc) (hb2 : 10000 ≤ bs) (hn : ∀ G1 m1 u5 u6 bc1 bs1, LIw G1 m1 → bc ≤ bc1 + 500 → bs ≤ bs1 + 10000 → R 2023 [some (.float 0), some (.ref 0), some (.ref 74), some (.ref 126), some (.int i), u5, u6] [] G1 bc1 bs1) : R 1967 [some (.float 0), some (.ref 0), some (.ref 74), some (.ref 126), some (.int i), w5, w6] [] G bc bs := by
  obtain ⟨T, hT, hS, hJ⟩ := hI
  refine us_aload_n hR dL_law_1967 rfl ?_
  refine us_aload_nF hR dL_law_1968 rfl ?_
  refine us_iload hR dL_law_1969 rfl ?_
  refine us_iconstC hR dL_law_1971 (c := 1) (by decide) ?_
  refine us_iadd hR dL_law_1972 ?_
  refine us_scr hR dL_law_1973 rfl (hv 1 (by decide) (by decide)) ?_
  refine us_aload_n hR dL_law_1974 rfl ?_
  obtain ⟨_, _, _, _, _, _, _, _, _, h⟩ := hS
  have hc : SameR (h_11034 0 ((scX (i + 1).toNatClampNeg)) T) (f_12114 ((scX (i + 1).toNatClampNeg)) m) cD (SINV 0 T) := c_doubt h
  obtain ⟨m1, r, u, hh, hf, hS1, hu⟩ := hc
  have rest : ∀ (G1 : ab_G) (k5 : Int32), Rep2 lF G1 T → LJ G1 m → k5 = m1 0 82 → (k5 = 0 → gJ G1 126 0 = r.toInt64) → R 1978 [some (.float 0), some (.ref 0), some (.ref 74), some (.ref 126), some (.int i), w5, w6] [.int k5] G1 (bc - 500) (bs - 10000) := by
    intro G1 k5 r1 hJ1 e82 eJ
    refine us_istore hR dL_law_1978 (Nat.le_of_ble_eq_true rfl) ?_
    refine us_aload_n hR dL_law_1980 rfl ?_
    refine us_aload_nF hR dL_law_1981 rfl ?_
    refine us_iload hR dL_law_1982 rfl ?_
    refine us_iconstC hR dL_law_1984 (c := 1) (by decide) ?_
    refine us_iadd hR dL_law_1985 ?_
    refine us_scr hR dL_law_1986 rfl (hv 1 (by decide) (by decide)) ?_
    refine us_callV hR dL_law_1987 (y := 12114) (a := 74) (by decide +kernel) (by decide) (J := i12114) rfl rfl rfl rfl hJ1.1.2.1 rfl (Nat.le_of_ble_eq_true rfl) (Nat.zero_le _) (Nat.zero_le _) ?_
    refine sp_12114 (d := 987) (G := G1) (ad := lad) (I := gI G1) hJ1.1 hJ1.2.1 hf (fun I1 hP hF => ?_)
    have hL := LIw.md r1 hJ1 hP hF hS1
    refine us_istore hR dL_law_1990 (Nat.le_of_ble_eq_true rfl) ?_
    refine us_aload_n hR dL_law_1992 rfl ?_
    refine us_callV hR dL_law_1993 (y := 12001) (a := 74) (by decide +kernel) (by decide) (J := i12001) rfl rfl rfl rfl hJ1.1.2.1 rfl (Nat.le_of_ble_eq_true rfl) (Nat.zero_le _) (Nat.zero_le _) ?_
    refine sp_12001 (d := 999) (G := G1) (ad := lad) (I := I1) hJ1.1 hP ?_
    refine us_iload hR dL_law_1996 rfl ?_
    refine us_icmp_eq hR dL_law_1998 2003 (by decide) (fun _ => ?_) (fun c => absurd e82.symm c)
    refine us_iload hR dL_law_2003 rfl ?_
    refine us_if_ne hR dL_law_2005 2020 (by decide) (fun _ => ?_) (fun c0 => ?_)
    · skip
      refine us_goto hR dL_law_2020 2023 (by decide) ?_
      refine hn _ _ _ _ _ _ hL ?_ ?_
      · show bc ≤ bc - 500 - 0 - 0 + 500; omega
      · show bs ≤ bs - 10000 - 0 - 0 + 10000; omega
    · refine us_aload_n hR dL_law_2008 rfl ?_
      refine us_iconstC hR dL_law_2009 (c := 0) (by decide) ?_
      refine us_laload hR dL_law_2010 hJ1.2.2.1 (by rw [show gN (gW G1 I1) 126 = 1 from hJ1.2.2.2]; exact vi_in ⟨by decide, by decide⟩) ?_
      refine us_iload hR dL_law_2011 rfl ?_
      refine us_i2l hR dL_law_2013 ?_
      refine us_lcmp hR dL_law_2014 ?_
      refine us_if_eq hR dL_law_2015 2020 (by decide) (fun _ => ?_) (fun c => absurd (lcmp_e (eJ c0)) c)
      refine us_goto hR dL_law_2020 2023 (by decide) ?_
      refine hn _ _ _ _ _ _ hL ?_ ?_
      · show bc ≤ bc - 500 - 0 - 0 + 500; omega
      · show bs ≤ bs - 10000 - 0 - 0 + 10000; omega
  refine us_callS hR dL_law_1975 (y := 13025) (by decide +kernel) (by decide) (J := i13025) rfl rfl rfl rfl (Nat.le_of_ble_eq_true rfl) hb1 hb2 ?_
  refine st_13025 (d := 953) hT h.1.1 lF_o hJ.2.2.1 hJ.2.2.2 hh (fun e he => by
    rcases hu with ⟨v, k1, k2, k3⟩ | ⟨e', k1, k2, k3⟩
    · rw [show u = .inr v from k1] at he; cases he
    · rw [show u = .inl e' from k1] at he
      cases he
      exact k2) (fun v he => ?_) (fun e he => ?_)
  · refine rest _ _ hT.sj hJ.sj ?_ (fun _ => ?_)
    · rcases hu with ⟨v', k1, k2, k3⟩ | ⟨e', k1, k2, k3⟩
      · exact k2.symm
      · rw [show u = .inl e' from k1] at he; cases he
    · rcases hu with ⟨v', k1, k2, k3⟩ | ⟨e', k1, k2, k3⟩
      · rw [show u = .inr v' from k1] at he
        cases he
        rw [gJ_s, k3]
      · rw [show u = .inl e' from k1] at he; cases he
  · refine rest _ _ hT hJ ?_ (fun z => ?_)
    · rcases hu with ⟨v', k1, k2, k3⟩ | ⟨e', k1, k2, k3⟩
      · rw [show u = .inr v' from k1] at he; cases he
      · rw [show u = .inl e' from k1] at he
        cases he
        exact k3.symm
    · rcases hu with ⟨v', k1, k2, k3⟩ | ⟨e', k1, k2, k3⟩
      · rw [show u = .inr v' from k1] at he; cases he
      · rw [show u = .inl e' from k1] at he
        cases he
        exact absurd z k2
end
end CAS
