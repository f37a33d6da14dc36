/-! whose text it is -/
section PSS
variable {T T' : Tx} {m m0 m' : Mx} {tx tx' : List Int32} {v : Int32} {td d : Nat} {es es' : List Nat} {ts ts' : Nat → List Nat} {as as' : List Nat} {ps ps' : Nat → Nat} {txs txs' : Nat → List Int32} {ss ss' : Nat → Sx} {pd pd' : Nat} {own own' : Nat → Nat}
/-- the text is what m says -/
theorem tx_of (h : SInv 0 T m tx es ts as ps txs ss pd own) (h' : SInv 0 T' m' tx' es' ts' as' ps' txs' ss' pd' own') (e0 : m' 0 0 = m 0 0) (e1 : m' 1 = m 1) : tx' = tx := by
  obtain ⟨_, a2, _, a4, a5⟩ := h.2.1.1
  obtain ⟨_, b2, _, b4, b5⟩ := h'.2.1.1
  have el : tx'.length = tx.length := by
    rw [e0, a4] at b4
    exact ((nI_eq (by omega) (by omega)).1 b4).symm
  refine l_ext el (fun k hk => ?_)
  rw [← b5 k hk, e1, a5 k (by omega)]
end PSS
