/-! the law hands in: what the answer's trials tell -/
section HNS
variable {T T' : Tx} {m m0 m' : Mx} {tx ty : List Int32} {e0 n0 td i j k n l N : Nat} {t : Nat → Nat} {A : Nat → List Int32} {v w a b e : Int32} {O C : List Int32} {f' F bc bs : Nat} {es : List Nat} {ts : Nat → List Nat} {as : List Nat} {ps : Nat → Nat} {txs : Nat → List Int32} {ss : Nat → Sx} {pd : Nat} {own : Nat → Nat} {x6 x7 : Int32}
/-- whose text it is -/
theorem hn_red (h : SInv 0 T m tx es ts as ps txs ss pd own) (hi : i < as.length) (hy : ty.length ≤ 300) (h45 : m 45 i = nI ty.length) (h2 : ∀ k, k < ty.length → m 2 (300 * i + k) = ty.getD k 0) : Red ty (ss i) := by
  obtain ⟨a1, a2, a3, a4, a5, a6, a7, a8, ⟨b1, b2, b3, b4, b5⟩, a10, _⟩ := h.2.2.2.2.1.2.2.2 i hi
  have el : (txs i).length = ty.length := by
    rw [h45] at b4
    exact ((nI_eq (by omega) (by omega)).1 b4).symm
  have e : txs i = ty := l_ext el (fun k hk => (b5 k hk).symm.trans (h2 k (by omega)))
  rw [← e]
  exact a10
theorem hn_run (h : SInv 0 T m tx es ts as ps txs ss pd own) (hi : i < as.length) (hR : RN ty F a b O C f' e) (hRed : Red ty (ss i)) (h47 : m 47 i = nI j) (hj : j < 4) (hk : k < (ts j).length) (h37 : m 37 j = nI F) (ha : m 41 (2 * (8 * j + k)) = a) (hb : m 41 (2 * (8 * j + k) + 1) = b) : m 50 (8 * i + k) = e ∧ PasIs e O (m 42 (8 * j + k)) (m 43 (2 * (8 * j + k))) (m 43 (2 * (8 * j + k) + 1)) (m 51 (8 * i + k)) := by
  obtain ⟨q1, q2, q3, q4⟩ := anE h hi h47 hj
  obtain ⟨_, e2⟩ := h.kp hi q1 h47
  obtain ⟨O2, ⟨r, o1, o2, o3⟩, o4⟩ := e2 k hk
  obtain ⟨rW, rM, z1, z2, z3, z4⟩ := hR (ss i) hRed (ss i) (fun _ _ => rfl)
  rw [h37, ha, hb, z2] at o1
  cases o1
  have ee : m 50 (8 * i + k) = e := o2.symm.trans z4.2.2.2.1
  have eO : O2 = O := o3.symm.trans z4.1
  rw [eO, ee] at o4
  exact ⟨ee, o4⟩
theorem hn_284 (h : SInv 0 T m tx es ts as ps txs ss pd own) (hi : i < as.length) (h47 : m 47 i = nI j) (hj : j < 4) (hl : l < (ts j).length) (K : Nat → Nat → Nat → Nat → Nat → Nat → Int32 → Int32 → Int32 → Int32 → Int32 → Int32 → Nat → Nat → Lx → Option (Lx × Int32)) {p c12 c14 : Int32} (hp : p = m 51 (8 * i + l)) (he : e = m 50 (8 * i + l)) (hb : 4 ≤ bc ∧ 24 ≤ bs) :
    l_13039_J284 K 0 75 76 77 78 79 x6 x7 (nI j) (nI i) 1 (nI l) c12 e c14 p bc bs (T, A) = K 0 75 76 77 78 79 x6 x7 (nI j) (nI i) 1 (nI (l + 1)) (bc - 2 - 2) (bs - 12 - 12) (T, A) := by
  obtain ⟨q1, q2, q3, q4⟩ := anE h hi h47 hj
  obtain ⟨p1, p2⟩ := psE (i := i) (k := l) h hi h47 hj (by rw [q3, i_lt, nI_T (by omega), nI_T (by omega)]; omega) (by omega)
  have hb1 : 2 ≤ bc ∧ 12 ≤ bs := by omega
  have hb2 : 2 ≤ bc - 2 ∧ 12 ≤ bs - 12 := by omega
  unfold l_13039_J284 l_13039_J317
  rw [gd_e (show tK (T, A).1 0 = 12 from h.1.1), gd_e hb1, show h_13016 0 (nI i) (nI l) (T, A).1 = some (m 50 (8 * i + l)) from a_end h hi h47 hj hl, bP_some, if_pos he.symm, gd_e (show tK (T, A).1 0 = 12 from h.1.1), gd_e hb2, show h_13015 0 (nI i) (nI l) (T, A).1 = some (m 51 (8 * i + l)) from p1, bP_some, hp]
  rcases p2 with y | y
  · rw [y, if_pos rfl, if_pos rfl, nI_p1 (by omega)]
  · rw [y, if_neg one_0, if_pos rfl, nI_p1 (by omega)]
/-- one test is done -/
def HnS (m : Mx) (tx : List Int32) (A : Nat → List Int32) (N : Nat) (x6 x7 : Int32) (j i l bc bs : Nat) (r : Option (Lx × Int32)) : Prop := ∃ T1 bc' bs', Wt 0 m T1 tx ∧ bc ≤ bc' + 48 ∧ bs ≤ bs' + 3748 ∧ r = l_13039_L159 N 0 75 76 77 78 79 x6 x7 (nI j) (nI i) 1 (nI (l + 1)) bc' bs' (T1, A)
/-- what is written of a test's outputs -/
theorem w_val2 {c u v : Nat} (hc : c ≤ 2) (hu : u < 10) (hv : v < 10) : nI (c + 4 * u + 64 * v) % 4 = nI c ∧ nI (c + 4 * u + 64 * v) / 4 % 16 = nI u ∧ nI (c + 4 * u + 64 * v) / 64 = nI v := by
  refine ⟨?_, ?_, ?_⟩
  · show nI (c + 4 * u + 64 * v) % nI 4 = _
    rw [nI_md (by omega) (by omega) (by omega)]
    congr 1
    omega
  · show nI (c + 4 * u + 64 * v) / nI 4 % nI 16 = _
    rw [nI_dv (by omega) (by omega), nI_md (by omega) (by omega) (by omega)]
    congr 1
    omega
  · show nI (c + 4 * u + 64 * v) / nI 64 = _
    rw [nI_dv (by omega) (by omega)]
    congr 1
    omega
/-- the rows of an exercise in the books -/
theorem e_val {F D : Nat} (hF : F ≤ 300) (hD : D ≤ 508) : nI (F + 4096 * D) % 4096 = nI F := by
  show nI (F + 4096 * D) % nI 4096 = _
  rw [nI_md (by omega) (by omega) (by omega)]
  congr 1
  omega
theorem hn_258 (hw : Wt 0 m T tx) (tr : TrS 0 T O C f') (hO : O.length ≤ 8) {c u v : Nat} (hc : c ≤ 2) (hu : u < 10) (hv : v < 10) (hi8 : 8 * j + l < 32) (l76 : (A 76).length = 32) (h76 : (A 76).getD (8 * j + l) 0 = nI (c + 4 * u + 64 * v)) (Q : Option (Lx × Int32) → Prop) (K : Nat → Nat → Nat → Nat → Nat → Nat → Int32 → Int32 → Int32 → Int32 → Int32 → Int32 → Nat → Nat → Lx → Option (Lx × Int32)) (hOc : O.length = c)
    (h1 : (nI c < 2 ∨ xg O 1 = nI v) → ∀ bc2 bs2, bc ≤ bc2 + 1 → bs ≤ bs2 + 6 → Q (l_13039_J284 K 0 75 76 77 78 79 x6 x7 (nI j) (nI i) 1 (nI l) (8 * nI j + nI l) e (nI c) 1 bc2 bs2 (T, A)))
    (h0 : ¬ (nI c < 2 ∨ xg O 1 = nI v) → ∀ bc2 bs2, bc ≤ bc2 + 1 → bs ≤ bs2 + 6 → Q (l_13039_J284 K 0 75 76 77 78 79 x6 x7 (nI j) (nI i) 1 (nI l) (8 * nI j + nI l) e (nI c) 0 bc2 bs2 (T, A))) (hb : 5 ≤ bc ∧ 30 ≤ bs) :
    Q (l_13039_J258 K 0 75 76 77 78 79 x6 x7 (nI j) (nI i) 1 (nI l) (8 * nI j + nI l) e (nI c) bc bs (T, A)) := by
  have hb1 : 1 ≤ bc ∧ 6 ≤ bs := by omega
  have e8 : 8 * nI j + nI l = nI (8 * j + l) := n8 (by omega)
  have x76 : xg (A 76) (8 * nI j + nI l) = nI (c + 4 * u + 64 * v) := by rw [e8, xg_n (by omega), h76]
  have v76 : vi (8 * nI j + nI l) (A 76).length := by rw [e8, l76]; exact vi_n (by omega) (by omega)
  obtain ⟨d1, d2, d3⟩ := w_val2 hc hu hv
  unfold l_13039_J258 l_13039_J279 l_13039_J283
  by_cases z : nI c < 2
  · rw [if_pos z]
    exact h1 (Or.inl z) _ _ (by omega) (by omega)
  · have c2 : c = 2 := by
      rw [i_lt, nI_T (by omega), show (2 : Int32).toInt = 2 by decide] at z
      omega
    have e1 : h_13008 0 1 T = some (O.getD 1 0) := hw.outAt tr (k := 1) (by omega)
    have hx : xg O 1 = O.getD 1 0 := xg_n (a := 1) (by omega)
    rw [if_neg z, gd_e (show tK (T, A).1 0 = 12 from hw.k12), gd_e hb1]
    show Q (bP (h_13008 0 1 T) fun r12 => gd (vi (8 * nI j + nI l) (A 76).length) (gd _ (if r12 = xg (A 76) (8 * nI j + nI l) / 64 then _ else _)))
    rw [e1, bP_some, gd_e v76, gd_e (by decide), x76, d3]
    by_cases z1 : O.getD 1 0 = nI v
    · rw [if_pos z1]
      exact h1 (Or.inr (hx.trans z1)) _ _ (by omega) (by omega)
    · rw [if_neg z1]
      exact h0 (fun y => by
        rcases y with y | y
        · exact z y
        · exact z1 (hx.symm.trans y)) _ _ (by omega) (by omega)
end HNS
