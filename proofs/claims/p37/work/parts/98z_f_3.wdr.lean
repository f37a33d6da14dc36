/-! the law: a test is withdrawn -/
section SCW
variable {T T' : Tx} {m m0 m' : Mx} {tx : List Int32} {e0 n0 td i j k n l p N z : Nat} {t : Nat → Nat} {A : Nat → List Int32} {v w x7 x8 x9 x10 x11 x12 x13 : Int32} {es : List Nat} {ts : Nat → List Nat} {as : List Nat} {ps : Nat → Nat} {txs : Nat → List Int32} {ss : Nat → Sx} {pd : Nat} {own : Nat → Nat} {F G : Nat → Int32} {bc bs : Nat}
/-- a withdrawn test in the books -/
theorem BkI.wdr (hB : BkI m A e0 n0 td t) {q W : Nat} (hj : j < e0) (hk : k < t j) (hq : q = 8 * j + k) (hW : m 40 q = nI W ∧ 1 ≤ W ∧ W ≤ 10) : BkI (ms m 44 (nI q) 1) (u1 A 74 ((A 74).set q (nI (W + 16 * 1)))) e0 n0 td t := by
  obtain ⟨b1, b2, b3, ⟨l74, l75, l76, l77, l78, l79⟩, ⟨c1, c1', c1''⟩, cE, c0, cQ, cA⟩ := hB
  obtain ⟨F, D, f1, f2, f3, f4, f5, f6, f7, f8, f9⟩ := cE j hj
  have hq32 : q < 32 := by omega
  have mj : ∀ J, J ≠ 44 → ms m 44 (nI q) 1 J = m J := fun J hJ => ms_j hJ
  have m44 : ∀ i, ms m 44 (nI q) 1 44 i = if i = q then 1 else m 44 i := fun i => by rw [ms_s (by omega)]
  have o : ∀ y, y ≠ 74 → u1 A 74 ((A 74).set q (nI (W + 16 * 1))) y = A y := fun y hy => u1_n _ _ hy
  unfold BkE BkA at *
  unfold BkI BkE BkA
  rw [mj 0 (by decide), mj 37 (by decide), mj 38 (by decide), mj 39 (by decide), mj 46 (by decide), mj 47 (by decide), mj 48 (by decide), mj 49 (by decide), o 75 (by decide), o 76 (by decide), o 77 (by decide), o 78 (by decide), o 79 (by decide), u1_s]
  refine ⟨b1, b2, b3, ⟨by rw [List.length_set]; exact l74, l75, l76, l77, l78, l79⟩, ⟨c1, c1', c1''⟩, cE, c0, fun i y hi hy => ?_, cA⟩
  obtain ⟨W', G', c', u', v', g1, g2, g3, g4, g5, g6, g7, g8, g9, g10, g11, g12, g13, g14, g15⟩ := cQ i y hi hy
  unfold BkQ
  rw [mj 40 (by decide), mj 41 (by decide), mj 42 (by decide), mj 43 (by decide), o 75 (by decide), o 76 (by decide), u1_s]
  by_cases e : 8 * i + y = q
  · rw [e] at g7 g8 g9 g11 g13 g15 ⊢
    exact ⟨W, 1, c', u', v', hW.1, hW.2.1, hW.2.2, by rw [m44, if_pos rfl]; rfl, by decide, by rw [gset (by omega)], g7, g8, g9, g10, g11, g12, g13, g14, g15⟩
  · exact ⟨W', G', c', u', v', g1, g2, g3, by rw [m44, if_neg e]; exact g4, g5, by rw [gD_set_n (fun y => e y.symm)]; exact g6, g7, g8, g9, g10, g11, g12, g13, g14, g15⟩
end SCW
