/-! states of runs, written out -/
section CST
def cS (s : Sx) (O C V b vm vw wt : List Int32) (f x y t e p i u : Int32) : Sx :=
  (fun j => if j = 18 then O else if j = 19 then C else if j = 20 then V else if j = 21 then b else if j = 22 then vm else if j = 23 then vw else if j = 24 then wt else s.1 j,
   fun v => if v = 6 then f else if v = 7 then x else if v = 8 then y else if v = 9 then t else if v = 10 then e else if v = 11 then p else if v = 12 then i else if v = 13 then u else s.2 v)
variable {s : Sx} {O C V b vm vw wt : List Int32} {f x y t e p i u : Int32}
theorem cB18 {r : List Int32} : sB (cS s O C V b vm vw wt f x y t e p i u) 18 r = cS s r C V b vm vw wt f x y t e p i u := by
  refine Prod.ext (funext fun j => ?_) rfl
  by_cases h : j = 18
  · subst h; rfl
  · simp only [sB, cS, if_neg h]
theorem cB19 {r : List Int32} : sB (cS s O C V b vm vw wt f x y t e p i u) 19 r = cS s O r V b vm vw wt f x y t e p i u := by
  refine Prod.ext (funext fun j => ?_) rfl
  by_cases h : j = 19
  · subst h; rfl
  · simp only [sB, cS, if_neg h]
theorem cB20 {r : List Int32} : sB (cS s O C V b vm vw wt f x y t e p i u) 20 r = cS s O C r b vm vw wt f x y t e p i u := by
  refine Prod.ext (funext fun j => ?_) rfl
  by_cases h : j = 20
  · subst h; rfl
  · simp only [sB, cS, if_neg h]
theorem cB21 {r : List Int32} : sB (cS s O C V b vm vw wt f x y t e p i u) 21 r = cS s O C V r vm vw wt f x y t e p i u := by
  refine Prod.ext (funext fun j => ?_) rfl
  by_cases h : j = 21
  · subst h; rfl
  · simp only [sB, cS, if_neg h]
theorem cB22 {r : List Int32} : sB (cS s O C V b vm vw wt f x y t e p i u) 22 r = cS s O C V b r vw wt f x y t e p i u := by
  refine Prod.ext (funext fun j => ?_) rfl
  by_cases h : j = 22
  · subst h; rfl
  · simp only [sB, cS, if_neg h]
theorem cB23 {r : List Int32} : sB (cS s O C V b vm vw wt f x y t e p i u) 23 r = cS s O C V b vm r wt f x y t e p i u := by
  refine Prod.ext (funext fun j => ?_) rfl
  by_cases h : j = 23
  · subst h; rfl
  · simp only [sB, cS, if_neg h]
theorem cB24 {r : List Int32} : sB (cS s O C V b vm vw wt f x y t e p i u) 24 r = cS s O C V b vm vw r f x y t e p i u := by
  refine Prod.ext (funext fun j => ?_) rfl
  by_cases h : j = 24
  · subst h; rfl
  · simp only [sB, cS, if_neg h]
theorem cV6 {r : Int32} : sV (cS s O C V b vm vw wt f x y t e p i u) 6 r = cS s O C V b vm vw wt r x y t e p i u := by
  refine Prod.ext rfl (funext fun j => ?_)
  by_cases h : j = 6
  · subst h; rfl
  · simp only [sV, cS, if_neg h]
theorem cV9 {r : Int32} : sV (cS s O C V b vm vw wt f x y t e p i u) 9 r = cS s O C V b vm vw wt f x y r e p i u := by
  refine Prod.ext rfl (funext fun j => ?_)
  by_cases h : j = 9
  · subst h; rfl
  · simp only [sV, cS, if_neg h]
theorem cV10 {r : Int32} : sV (cS s O C V b vm vw wt f x y t e p i u) 10 r = cS s O C V b vm vw wt f x y t r p i u := by
  refine Prod.ext rfl (funext fun j => ?_)
  by_cases h : j = 10
  · subst h; rfl
  · simp only [sV, cS, if_neg h]
theorem cV11 {r : Int32} : sV (cS s O C V b vm vw wt f x y t e p i u) 11 r = cS s O C V b vm vw wt f x y t e r i u := by
  refine Prod.ext rfl (funext fun j => ?_)
  by_cases h : j = 11
  · subst h; rfl
  · simp only [sV, cS, if_neg h]
theorem cV12 {r : Int32} : sV (cS s O C V b vm vw wt f x y t e p i u) 12 r = cS s O C V b vm vw wt f x y t e p r u := by
  refine Prod.ext rfl (funext fun j => ?_)
  by_cases h : j = 12
  · subst h; rfl
  · simp only [sV, cS, if_neg h]
theorem cV13 {r : Int32} : sV (cS s O C V b vm vw wt f x y t e p i u) 13 r = cS s O C V b vm vw wt f x y t e p i r := by
  refine Prod.ext rfl (funext fun j => ?_)
  by_cases h : j = 13
  · subst h; rfl
  · simp only [sV, cS, if_neg h]
theorem cb18 : (cS s O C V b vm vw wt f x y t e p i u).1 18 = O := rfl
theorem cb19 : (cS s O C V b vm vw wt f x y t e p i u).1 19 = C := rfl
theorem cb20 : (cS s O C V b vm vw wt f x y t e p i u).1 20 = V := rfl
theorem cb21 : (cS s O C V b vm vw wt f x y t e p i u).1 21 = b := rfl
theorem cb22 : (cS s O C V b vm vw wt f x y t e p i u).1 22 = vm := rfl
theorem cb23 : (cS s O C V b vm vw wt f x y t e p i u).1 23 = vw := rfl
theorem cb24 : (cS s O C V b vm vw wt f x y t e p i u).1 24 = wt := rfl
theorem cb0 : (cS s O C V b vm vw wt f x y t e p i u).1 0 = s.1 0 := rfl
theorem cb1 : (cS s O C V b vm vw wt f x y t e p i u).1 1 = s.1 1 := rfl
theorem cb7 : (cS s O C V b vm vw wt f x y t e p i u).1 7 = s.1 7 := rfl
theorem cb8 : (cS s O C V b vm vw wt f x y t e p i u).1 8 = s.1 8 := rfl
theorem cb10 : (cS s O C V b vm vw wt f x y t e p i u).1 10 = s.1 10 := rfl
theorem cb11 : (cS s O C V b vm vw wt f x y t e p i u).1 11 = s.1 11 := rfl
theorem cb12 : (cS s O C V b vm vw wt f x y t e p i u).1 12 = s.1 12 := rfl
theorem cv6 : (cS s O C V b vm vw wt f x y t e p i u).2 6 = f := rfl
theorem cv7 : (cS s O C V b vm vw wt f x y t e p i u).2 7 = x := rfl
theorem cv8 : (cS s O C V b vm vw wt f x y t e p i u).2 8 = y := rfl
theorem cv9 : (cS s O C V b vm vw wt f x y t e p i u).2 9 = t := rfl
theorem cv10 : (cS s O C V b vm vw wt f x y t e p i u).2 10 = e := rfl
theorem cv11 : (cS s O C V b vm vw wt f x y t e p i u).2 11 = p := rfl
theorem cv12 : (cS s O C V b vm vw wt f x y t e p i u).2 12 = i := rfl
theorem cv13 : (cS s O C V b vm vw wt f x y t e p i u).2 13 = u := rfl
theorem cS_self : s = cS s (s.1 18) (s.1 19) (s.1 20) (s.1 21) (s.1 22) (s.1 23) (s.1 24) (s.2 6) (s.2 7) (s.2 8) (s.2 9) (s.2 10) (s.2 11) (s.2 12) (s.2 13) := by
  refine Prod.ext (funext fun j => ?_) (funext fun v => ?_)
  · show s.1 j = if j = 18 then s.1 18 else if j = 19 then s.1 19 else if j = 20 then s.1 20 else if j = 21 then s.1 21 else if j = 22 then s.1 22 else if j = 23 then s.1 23 else if j = 24 then s.1 24 else s.1 j
    repeat' split
    all_goals (first | rfl | (rename_i h; rw [h]))
  · show s.2 v = if v = 6 then s.2 6 else if v = 7 then s.2 7 else if v = 8 then s.2 8 else if v = 9 then s.2 9 else if v = 10 then s.2 10 else if v = 11 then s.2 11 else if v = 12 then s.2 12 else if v = 13 then s.2 13 else s.2 v
    repeat' split
    all_goals (first | rfl | (rename_i h; rw [h]))
end CST
