/-! marks by the law's books -/
section MKO
variable {T T' : Tx} {m m0 m' : Mx} {tx : List Int32} {e0 n0 td i j : Nat} {t : Nat → Nat} {A : Nat → List Int32}
theorem h8l {a b : Nat} (h : 8 * a + b < 90000) : (8 : Int32) * nI a + nI b = nI (8 * a + b) := n8 h
/-- the end of it: the day and what is struck -/
theorem mo_end {J D G P F Q : Nat} {pts all sum : Int32} (hP : P < 6) (hJ : J < 4) (hD : D ≤ 500) (hG : G ≤ 1) (hF : F ≤ 300) (hQ : Q ≤ 508) (hA : (A 78).getD i 0 = nI (P + 8 * J + 32 * D + 65536 * G)) (hE : (A 77).getD J 0 = nI (F + 4096 * Q)) (h78 : (A 78).length = 30) (h77 : (A 77).length = 8) (hi : i < 30) (l9 : Int32) {bc bs : Nat} {n : Nat} (ht : xg (A 77) (4 + nI J) ≤ l9) : 
    l_13037_L20 (n + 1) 0 74 77 78 (nI i) pts (nI J) all sum l9 bc bs (T, A) = some (if pts = 0 then (if G = 1 then 0 else (if all = 0 then 0 else 100 * sum / all) * (100 - (if nI D - nI Q ≤ 5 then (if nI D - nI Q ≤ 0 then 0 else 10 * (nI D - nI Q)) else 50)) / 100) else if all = 0 then 0 else 100 * sum / all) := by
  have x78 : xg (A 78) (nI i) = nI (P + 8 * J + 32 * D + 65536 * G) := by rw [xg_n (by omega), hA]
  have x77 : xg (A 77) (nI J) = nI (F + 4096 * Q) := by rw [xg_n (by omega), hE]
  have d32 : nI (P + 8 * J + 32 * D + 65536 * G) / 32 = nI (D + 2048 * G) := by
    show nI (P + 8 * J + 32 * D + 65536 * G) / nI 32 = _
    rw [nI_dv (by omega) (by omega)]
    congr 1
    omega
  have m20 : nI (D + 2048 * G) % 2048 = nI D := by
    show nI (D + 2048 * G) % nI 2048 = _
    rw [nI_md (by omega) (by omega) (by omega)]
    congr 1
    omega
  have d40 : nI (F + 4096 * Q) / 4096 = nI Q := by
    show nI (F + 4096 * Q) / nI 4096 = _
    rw [nI_dv (by omega) (by omega)]
    congr 1
    omega
  have v4 : vi (4 + nI J) (A 77).length := by
    rw [show (4 : Int32) + nI J = nI (4 + J) from nI_pl (a := 4) (by omega) (by omega), h77]
    exact vi_n (by omega) (by omega)
  have vi1 : vi (nI i) (A 78).length := by rw [h78]; exact vi_n (by omega) (by omega)
  have vj1 : vi (nI J) (A 77).length := by rw [h77]; exact vi_n (by omega) (by omega)
  have l65 : nI (P + 8 * J + 32 * D + 65536 * G) ≤ 65535 ↔ ¬ G = 1 := by
    rw [i_le, nI_TT (by omega), show (65535 : Int32).toInt = 65535 by decide]
    omega
  -- what is left, whatever is taken off
  have fin : ∀ (l9 off : Int32), l_13037_J145 0 74 77 78 (nI i) pts (nI J) all sum l9 off bc bs (T, A) = some (if pts = 0 then (if G = 1 then 0 else (if all = 0 then 0 else 100 * sum / all) * (100 - off) / 100) else if all = 0 then 0 else 100 * sum / all) := fun l9 off => by
    have j164 : ∀ z : Int32, l_13037_J164 0 74 77 78 (nI i) pts (nI J) all sum l9 off z bc bs (T, A) = some (if pts = 0 then (if G = 1 then 0 else z * (100 - off) / 100) else z) := fun z => by
      unfold l_13037_J164
      by_cases c : pts = 0
      · rw [if_pos c, if_pos c]
        show gd (vi (nI i) (A 78).length) (if xg (A 78) (nI i) ≤ 65535 then _ else _) = _
        rw [gd_e vi1, x78]
        by_cases g : G = 1
        · rw [if_neg (fun z => l65.1 z g), if_pos g]
        · rw [if_pos (l65.2 g), gd_e (by decide), if_neg g]
      · rw [if_neg c, if_neg c]
    unfold l_13037_J145
    by_cases c : all = 0
    · rw [if_pos c, if_pos c, j164]
    · rw [if_neg c, if_neg c, gd_e c, j164]
  have le0 : ∀ d : Int32, (0 : Int32) ≤ d ∨ d ≤ 0 := fun d => by
    rw [i_le, i_le, i_0]
    omega
  rw [l_13037_L20]
  show gd (vi (4 + nI J) (A 77).length) (if xg (A 77) (4 + nI J) ≤ l9 then gd (vi (nI i) (A 78).length) _ else _) = _
  rw [gd_e v4, if_pos ht, gd_e vi1, gd_e (by decide), gd_e (by decide)]
  show gd (vi (nI J) (A 77).length) (gd _ (if 0 ≤ ((((xg (A 78) (nI i)) / 32) % 2048) - ((xg (A 77) (nI J)) / 4096)) then (if ((((xg (A 78) (nI i)) / 32) % 2048) - ((xg (A 77) (nI J)) / 4096)) ≤ 5 then l_13037_J145 0 74 77 78 (nI i) pts (nI J) all sum ((((xg (A 78) (nI i)) / 32) % 2048) - ((xg (A 77) (nI J)) / 4096)) (10 * ((((xg (A 78) (nI i)) / 32) % 2048) - ((xg (A 77) (nI J)) / 4096))) bc bs (T, A) else l_13037_J145 0 74 77 78 (nI i) pts (nI J) all sum ((((xg (A 78) (nI i)) / 32) % 2048) - ((xg (A 77) (nI J)) / 4096)) 50 bc bs (T, A)) else l_13037_J145 0 74 77 78 (nI i) pts (nI J) all sum ((((xg (A 78) (nI i)) / 32) % 2048) - ((xg (A 77) (nI J)) / 4096)) 0 bc bs (T, A))) = _
  rw [gd_e vj1, gd_e (by decide), x78, x77, d32, m20, d40]
  by_cases c0 : (0 : Int32) ≤ nI D - nI Q
  · rw [if_pos c0]
    by_cases c5 : nI D - nI Q ≤ 5
    · rw [if_pos c5, if_pos c5, fin]
      by_cases cz : nI D - nI Q ≤ 0
      · have ez : nI D - nI Q = 0 := by
          rw [i_le, i_0] at c0 cz
          rw [i_eq, i_0]
          omega
        rw [ez]
        rfl
      · rw [if_neg cz]
    · rw [if_neg c5, if_neg c5, fin]
  · rw [if_neg c0, fin]
    have cz : nI D - nI Q ≤ 0 := (le0 _).resolve_left c0
    have c5 : nI D - nI Q ≤ 5 := by
      rw [i_le, i_0] at cz
      rw [i_le, show (5 : Int32).toInt = 5 by decide]
      omega
    rw [if_pos c5, if_pos cz]
end MKO
