/-! the law: a test is withdrawn -/
section SCW
variable {T T' : Tx} {m m0 m' : Mx} {tx : List Int32} {e0 n0 td i j k n l p N z : Nat} {t : Nat → Nat} {A : Nat → List Int32} {v w x7 x8 x9 x10 x11 x12 x13 : Int32} {es : List Nat} {ts : Nat → List Nat} {as : List Nat} {ps : Nat → Nat} {txs : Nat → List Int32} {ss : Nat → Sx} {pd : Nat} {own : Nat → Nat} {F G : Nat → Int32} {bc bs : Nat}
theorem SInv.tz (h : SInv 0 T m tx es ts as ps txs ss pd own) (hz : tZ T ≤ z) : SInv 0 (tz T z) m tx es ts as ps txs ss pd own :=
  h.ex h.lo (h.1.of (fun _ _ _ => ⟨rfl, fun _ => rfl⟩) (fun _ _ _ _ _ _ _ _ => rfl) hz) hz (fun _ _ _ => ⟨rfl, fun _ => rfl, rfl, rfl, rfl, rfl⟩) MSn.r
theorem Mw.id : Mw m m := ⟨fun _ _ => rfl, fun _ _ => rfl⟩
end SCW
