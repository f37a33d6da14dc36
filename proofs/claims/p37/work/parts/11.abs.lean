/-! An abstract machine: one frame over a heap of numbered cells. 'ab_stp' says what an instruction asks and where it goes on; 'ab_Wp' is its least fixed point; 'ab_Gam d y' what a method asks at depth d. -/
abbrev ab_G : Type := (Nat → Nat) × (Nat → Nat) × (Nat → Nat → Int32) × (Nat → Nat → Option Nat) × (Nat → Nat → Int64) × Nat
def gK (G : ab_G) : Nat → Nat := G.1
def gN (G : ab_G) : Nat → Nat := G.2.1
def gI (G : ab_G) : Nat → Nat → Int32 := G.2.2.1
def gR (G : ab_G) : Nat → Nat → Option Nat := G.2.2.2.1
def gJ (G : ab_G) : Nat → Nat → Int64 := G.2.2.2.2.1
def gZ (G : ab_G) : Nat := G.2.2.2.2.2
def u1 {α : Type} (f : Nat → α) (a : Nat) (v : α) : Nat → α := fun b => if b = a then v else f b
def u2 {α : Type} (f : Nat → Nat → α) (a k : Nat) (v : α) : Nat → Nat → α := fun b => if b = a then (fun j => if j = k then v else f a j) else f b
def sI (G : ab_G) (a k : Nat) (x : Int32) : ab_G := (gK G, gN G, u2 (gI G) a k x, gR G, gJ G, gZ G)
def sR (G : ab_G) (a k : Nat) (x : Option Nat) : ab_G := (gK G, gN G, gI G, u2 (gR G) a k x, gJ G, gZ G)
def sJ (G : ab_G) (a k : Nat) (x : Int64) : ab_G := (gK G, gN G, gI G, gR G, u2 (gJ G) a k x, gZ G)
/-- a new cell of a kind (object of a class, or array of n places) -/
def gNew (G : ab_G) (kd n : Nat) : ab_G := (u1 (gK G) (gZ G) kd, u1 (gN G) (gZ G) n, u1 (gI G) (gZ G) (fun _ => 0), u1 (gR G) (gZ G) (fun _ => none), u1 (gJ G) (gZ G) (fun _ => 0), gZ G + 1)
def ab_isR (t : FieldType) : Bool := match t with
  | .object _ => true
  | .array _ => true
  | _ => false
/-- what a field holds -/
def ab_gv (G : ab_G) (ci a k : Nat) : Value := if ab_isR (ab_ty ci k) = true then va_rf (gR G a k) else .int (gI G a k)
/-- locals: a list of known values -/
def ab_st1 (L : List (Option Value)) (i : Nat) (v : Value) : List (Option Value) :=
  (match i with
  | 0 => L
  | j + 1 => match L.getD j none with
    | some (.long _) => L.set j none
    | some (.double _) => L.set j none
    | _ => L).set i (some v)
def ab_st2 (L : List (Option Value)) (i : Nat) (v : Value) : List (Option Value) := (ab_st1 L i v).set (i + 1) none
def ab_kill (L : List (Option Value)) (i : Nat) : List (Option Value) := (ab_st1 L i .null).set i none
def ab_cat (S : List Value) : Nat := (S.map fun v => v.category).sum
/-- a jump -/
def ab_jmp (pc : Nat) (off : Int) (k : Nat → Prop) : Prop := 0 ≤ (pc : Int) + off ∧ k ((pc : Int) + off).toNat
def ab_tsw (pc : Nat) (x : Int32) (k : Nat → Prop) : Int → List Int → Prop
  | _, [] => True
  | lo, o :: r => (x.toInt = lo → ab_jmp pc o k) ∧ ab_tsw pc x k (lo + 1) r
def ab_lsw (pc : Nat) (x : Int32) (k : Nat → Prop) (d : Int) : List (Int × Int) → Prop
  | [] => ab_jmp pc d k
  | (a, o) :: r => (x.toInt = a → ab_jmp pc o k) ∧ (¬ x.toInt = a → ab_lsw pc x k d r)
/-- which handler takes an exception of class E thrown at pc -/
def ab_hnd (xt : List (Nat × Nat × Nat × String)) (pc : Nat) (E : String) : Option Nat := (xt.find? (fun q => decide (q.1 ≤ pc) && decide (pc < q.2.1) && (q.2.2.2 == E))).map (fun q => q.2.2.1)
abbrev ab_Pq : Type := ab_G → Option Value → Prop
abbrev ab_Xq : Type := ab_G → String → Prop
abbrev ab_Gm : Type := Nat → List Value → ab_G → ab_Pq → ab_Xq → Prop
abbrev ab_K : Type := Nat → List (Option Value) → List Value → ab_G → Nat → Nat → Prop
/-- behind a call: on with its value, or to a handler, or out -/
def ab_exc (I : ab_Info) (k : ab_K) (X : ab_Xq) (pc : Nat) (L : List (Option Value)) (bc bs : Nat) : ab_Xq := fun G E => match ab_hnd (mXt I) pc E with
  | none => mXt I = [] ∧ X G E
  | some h => match decode (mCd I) h with
    | .ok (.astore i, 2) => i < L.length ∧ k (h + 2) (ab_kill L i) [] G bc bs
    | .ok (.astore_n i, 1) => (i : Nat) < L.length ∧ k (h + 1) (ab_kill L i) [] G bc bs
    | _ => False
def ab_call (Γ : ab_Gm) (I : ab_Info) (k : ab_K) (X : ab_Xq) (pc : Nat) (L : List (Option Value)) (y : Nat) (J : ab_Info) (args rest : List Value) (G : ab_G) (bc bs : Nat) : Prop :=
  ab_cat rest ≤ 8 ∧ mMc J args ≤ bc ∧ mMs J args ≤ bs ∧ Γ y args G (fun G' r => k (pc + 3) L (r.toList ++ rest) G' (bc - mMc J args) (bs - mMs J args)) (ab_exc I k X pc L (bc - mMc J args) (bs - mMs J args))
def ab_callV (Γ : ab_Gm) (I : ab_Info) (k : ab_K) (X : ab_Xq) (pc : Nat) (L : List (Option Value)) (S : List Value) (y : Nat) (J : ab_Info) (ci n : Nat) (G : ab_G) (bc bs : Nat) : Prop :=
  match S.drop n with
  | .ref a :: rest => gK G a = ci ∧ (S.take n).length = n ∧ ab_call Γ I k X pc L y J (.ref a :: (S.take n).reverse) rest G bc bs
  | _ => False
def ab_pri (y : Nat) : ab_Info := match y with
  | 4 => (⟨"java/util/ArrayList", "<init>", "()V"⟩, cJx4a65c_init_da8c8, 0, 1, none, 0, false, (fun _ => 0), (fun _ => 0), [])
  | 5 => (⟨"java/util/ArrayList", "size", "()I"⟩, cJx4a65c_size_8abf5, 0, 1, some .int, 0, false, (fun _ => 0), (fun _ => 0), [])
  | 6 => (⟨"java/util/ArrayList", "get", "(I)Ljava/lang/Object;"⟩, cJx4a65c_get_915e3, 0, 2, some (.object "java/lang/Object"), 1, false, (fun _ => 0), (fun _ => 0), [])
  | _ => (⟨"java/util/ArrayList", "add", "(Ljava/lang/Object;)Z"⟩, cJx4a65c_add_9ea2d, 0, 2, some .boolean, 1, false, (fun _ => 1), (fun _ => 40), [])
/-- the keywords' texts -/
def ab_tx (k : Nat) : List Int32 := match k with
  | 0 => [105, 102]
  | 1 => [101, 108, 115, 101]
  | 2 => [119, 104, 105, 108, 101]
  | 3 => [111, 117, 116]
  | 4 => [105, 110]
  | 5 => [100, 101, 102]
  | _ => [114, 101, 116, 117, 114, 110]
/-- the law's own way into the script -/
def ab_at (scL : Nat) (scX : Nat → Int32) (y : Int32) : Int32 := if y < Int32.ofNat (scL - 1) then scX y.toNatClampNeg else 1139406805 * (y + 1) + 1555146979
def ab_stp (d : Nat) (Γ : ab_Gm) (o : Nat) (I : ab_Info) (scL : Nat) (scX : Nat → Int32) (P : ab_Pq) (X : ab_Xq) (k : ab_K) (pc : Nat) (L : List (Option Value)) (S : List Value) (G : ab_G) (bc bs : Nat) : Prop :=
  match decode (mCd I) pc with
  | .error _ => False
  | .ok (ins, len) => match ins with
    | .aconst_null => len = 1 ∧ k (pc + 1) L (.null :: S) G bc bs
    | .aload i => len = 2 ∧ (match L.getD i none with
      | some (.ref a) => k (pc + 2) L (.ref a :: S) G bc bs
      | some .null => k (pc + 2) L (.null :: S) G bc bs
      | some (.float u) => k (pc + 2) L (.float u :: S) G bc bs
      | _ => False)
    | .aload_n i => len = 1 ∧ (match L.getD (i : Nat) none with
      | some (.ref a) => k (pc + 1) L (.ref a :: S) G bc bs
      | some .null => k (pc + 1) L (.null :: S) G bc bs
      | some (.float u) => k (pc + 1) L (.float u :: S) G bc bs
      | _ => False)
    | .iload i => len = 2 ∧ (match L.getD i none with
      | some (.int x) => k (pc + 2) L (.int x :: S) G bc bs
      | _ => False)
    | .iload_n i => len = 1 ∧ (match L.getD (i : Nat) none with
      | some (.int x) => k (pc + 1) L (.int x :: S) G bc bs
      | _ => False)
    | .lload i => len = 2 ∧ (match L.getD i none with
      | some (.long x) => k (pc + 2) L (.long x :: S) G bc bs
      | _ => False)
    | .lload_n i => len = 1 ∧ (match L.getD (i : Nat) none with
      | some (.long x) => k (pc + 1) L (.long x :: S) G bc bs
      | _ => False)
    | .istore i => len = 2 ∧ i < L.length ∧ (match S with
      | .int x :: r => k (pc + 2) (ab_st1 L i (.int x)) r G bc bs
      | _ => False)
    | .istore_n i => len = 1 ∧ (i : Nat) < L.length ∧ (match S with
      | .int x :: r => k (pc + 1) (ab_st1 L i (.int x)) r G bc bs
      | _ => False)
    | .lstore i => len = 2 ∧ i + 1 < L.length ∧ (match S with
      | .long x :: r => k (pc + 2) (ab_st2 L i (.long x)) r G bc bs
      | _ => False)
    | .lstore_n i => len = 1 ∧ (i : Nat) + 1 < L.length ∧ (match S with
      | .long x :: r => k (pc + 1) (ab_st2 L i (.long x)) r G bc bs
      | _ => False)
    | .astore i => len = 2 ∧ i < L.length ∧ (match S with
      | .ref x :: r => k (pc + 2) (ab_st1 L i (.ref x)) r G bc bs
      | .null :: r => k (pc + 2) (ab_st1 L i .null) r G bc bs
      | _ => False)
    | .astore_n i => len = 1 ∧ (i : Nat) < L.length ∧ (match S with
      | .ref x :: r => k (pc + 1) (ab_st1 L i (.ref x)) r G bc bs
      | .null :: r => k (pc + 1) (ab_st1 L i .null) r G bc bs
      | _ => False)
    | .iconst n => len = 1 ∧ k (pc + 1) L (.int (Int32.ofInt n) :: S) G bc bs
    | .bipush n => len = 2 ∧ k (pc + 2) L (.int (Int8.ofInt n).toInt32 :: S) G bc bs
    | .sipush n => len = 3 ∧ k (pc + 3) L (.int (Int16.ofInt n).toInt32 :: S) G bc bs
    | .lconst n => len = 1 ∧ k (pc + 1) L (.long (Int64.ofNat (n : Nat)) :: S) G bc bs
    | .ldc i => len = 2 ∧ (match ab_kR o i with
      | some v => k (pc + 2) L (.int v :: S) G bc bs
      | none => match ab_sR o i with
        | some j => k (pc + 2) L (.float (UInt32.ofNat (j + 1)) :: S) G bc bs
        | none => False)
    | .ldc2_w i => len = 3 ∧ (match ab_jR o i with
      | some v => k (pc + 3) L (.long v :: S) G bc bs
      | none => False)
    | .iinc i n => len = 3 ∧ i < L.length ∧ (match L.getD i none with
      | some (.int x) => k (pc + 3) (ab_st1 L i (.int (x + Int32.ofInt n))) S G bc bs
      | _ => False)
    | .iadd => len = 1 ∧ (match S with
      | .int y :: .int x :: r => k (pc + 1) L (.int (x + y) :: r) G bc bs
      | _ => False)
    | .isub => len = 1 ∧ (match S with
      | .int y :: .int x :: r => k (pc + 1) L (.int (x - y) :: r) G bc bs
      | _ => False)
    | .imul => len = 1 ∧ (match S with
      | .int y :: .int x :: r => k (pc + 1) L (.int (x * y) :: r) G bc bs
      | _ => False)
    | .iand => len = 1 ∧ (match S with
      | .int y :: .int x :: r => k (pc + 1) L (.int (x &&& y) :: r) G bc bs
      | _ => False)
    | .idiv => len = 1 ∧ (match S with
      | .int y :: .int x :: r => ¬ y = 0 ∧ k (pc + 1) L (.int (x / y) :: r) G bc bs
      | _ => False)
    | .irem => len = 1 ∧ (match S with
      | .int y :: .int x :: r => ¬ y = 0 ∧ k (pc + 1) L (.int (x % y) :: r) G bc bs
      | _ => False)
    | .ishr => len = 1 ∧ (match S with
      | .int y :: .int x :: r => k (pc + 1) L (.int (x >>> (y &&& 31)) :: r) G bc bs
      | _ => False)
    | .ineg => len = 1 ∧ (match S with
      | .int x :: r => k (pc + 1) L (.int (-x) :: r) G bc bs
      | _ => False)
    | .ladd => len = 1 ∧ (match S with
      | .long y :: .long x :: r => k (pc + 1) L (.long (x + y) :: r) G bc bs
      | _ => False)
    | .lsub => len = 1 ∧ (match S with
      | .long y :: .long x :: r => k (pc + 1) L (.long (x - y) :: r) G bc bs
      | _ => False)
    | .lmul => len = 1 ∧ (match S with
      | .long y :: .long x :: r => k (pc + 1) L (.long (x * y) :: r) G bc bs
      | _ => False)
    | .land => len = 1 ∧ (match S with
      | .long y :: .long x :: r => k (pc + 1) L (.long (x &&& y) :: r) G bc bs
      | _ => False)
    | .lor => len = 1 ∧ (match S with
      | .long y :: .long x :: r => k (pc + 1) L (.long (x ||| y) :: r) G bc bs
      | _ => False)
    | .ldiv => len = 1 ∧ (match S with
      | .long y :: .long x :: r => ¬ y = 0 ∧ k (pc + 1) L (.long (x / y) :: r) G bc bs
      | _ => False)
    | .lrem => len = 1 ∧ (match S with
      | .long y :: .long x :: r => ¬ y = 0 ∧ k (pc + 1) L (.long (x - x / y * y) :: r) G bc bs
      | _ => False)
    | .lneg => len = 1 ∧ (match S with
      | .long x :: r => k (pc + 1) L (.long (-x) :: r) G bc bs
      | _ => False)
    | .lshl => len = 1 ∧ (match S with
      | .int y :: .long x :: r => k (pc + 1) L (.long (x <<< (y.toInt64 &&& 63)) :: r) G bc bs
      | _ => False)
    | .lushr => len = 1 ∧ (match S with
      | .int y :: .long x :: r => k (pc + 1) L (.long (x.toUInt64 >>> (y.toInt64.toUInt64 &&& Int64.toUInt64 63)).toInt64 :: r) G bc bs
      | _ => False)
    | .i2l => len = 1 ∧ (match S with
      | .int x :: r => k (pc + 1) L (.long x.toInt64 :: r) G bc bs
      | _ => False)
    | .l2i => len = 1 ∧ (match S with
      | .long x :: r => k (pc + 1) L (.int x.toInt32 :: r) G bc bs
      | _ => False)
    | .i2c => len = 1 ∧ (match S with
      | .int x :: r => k (pc + 1) L (.int (x.toUInt32 % 65536).toInt32 :: r) G bc bs
      | _ => False)
    | .lcmp => len = 1 ∧ (match S with
      | .long y :: .long x :: r => k (pc + 1) L (.int (lg_cmp x y) :: r) G bc bs
      | _ => False)
    | .dup => len = 1 ∧ (match S with
      | v :: r => v.category = 1 ∧ k (pc + 1) L (v :: v :: r) G bc bs
      | _ => False)
    | .dup2 => len = 1 ∧ (match S with
      | v :: w :: r => v.category = 1 ∧ w.category = 1 ∧ k (pc + 1) L (v :: w :: v :: w :: r) G bc bs
      | _ => False)
    | .pop => len = 1 ∧ (match S with
      | v :: r => v.category = 1 ∧ k (pc + 1) L r G bc bs
      | _ => False)
    | .goto off => len = 3 ∧ ab_jmp pc off (fun t => k t L S G bc bs)
    | .ifCond cd off => len = 3 ∧ 0 ≤ (pc : Int) + off ∧ (match S with
      | .int x :: r => (match cd with
        | .eq => (x = 0 → k ((pc : Int) + off).toNat L r G bc bs) ∧ (¬ x = 0 → k (pc + 3) L r G bc bs)
        | .ne => (¬ x = 0 → k ((pc : Int) + off).toNat L r G bc bs) ∧ (x = 0 → k (pc + 3) L r G bc bs)
        | .lt => (x < 0 → k ((pc : Int) + off).toNat L r G bc bs) ∧ (¬ x < 0 → k (pc + 3) L r G bc bs)
        | .ge => (0 ≤ x → k ((pc : Int) + off).toNat L r G bc bs) ∧ (¬ 0 ≤ x → k (pc + 3) L r G bc bs)
        | .gt => (0 < x → k ((pc : Int) + off).toNat L r G bc bs) ∧ (¬ 0 < x → k (pc + 3) L r G bc bs)
        | .le => (x ≤ 0 → k ((pc : Int) + off).toNat L r G bc bs) ∧ (¬ x ≤ 0 → k (pc + 3) L r G bc bs))
      | _ => False)
    | .if_icmp cd off => len = 3 ∧ 0 ≤ (pc : Int) + off ∧ (match S with
      | .int y :: .int x :: r => (match cd with
        | .eq => (x = y → k ((pc : Int) + off).toNat L r G bc bs) ∧ (¬ x = y → k (pc + 3) L r G bc bs)
        | .ne => (¬ x = y → k ((pc : Int) + off).toNat L r G bc bs) ∧ (x = y → k (pc + 3) L r G bc bs)
        | .lt => (x < y → k ((pc : Int) + off).toNat L r G bc bs) ∧ (¬ x < y → k (pc + 3) L r G bc bs)
        | .ge => (y ≤ x → k ((pc : Int) + off).toNat L r G bc bs) ∧ (¬ y ≤ x → k (pc + 3) L r G bc bs)
        | .gt => (y < x → k ((pc : Int) + off).toNat L r G bc bs) ∧ (¬ y < x → k (pc + 3) L r G bc bs)
        | .le => (x ≤ y → k ((pc : Int) + off).toNat L r G bc bs) ∧ (¬ x ≤ y → k (pc + 3) L r G bc bs))
      | _ => False)
    | .ifnonnull off => len = 3 ∧ (match S with
      | .ref _ :: r => ab_jmp pc off (fun t => k t L r G bc bs)
      | .null :: r => k (pc + 3) L r G bc bs
      | _ => False)
    | .tableswitch df lo hi offs => (match S with
      | .int x :: r => (x.toInt < lo ∨ hi < x.toInt → ab_jmp pc df (fun t => k t L r G bc bs)) ∧ hi < lo + (offs.toList.length : Int) ∧ ab_tsw pc x (fun t => k t L r G bc bs) lo offs.toList
      | _ => False)
    | .lookupswitch df ps => (ps.toList.zip (ps.toList.drop 1)).all (fun (a, next) => a.1 < next.1) = true ∧ (match S with
      | .int x :: r => ab_lsw pc x (fun t => k t L r G bc bs) df ps.toList
      | _ => False)
    | .getfield i => len = 3 ∧ (match ab_fR o i with
      | some (ci, f) => (match S with
        | .ref a :: r => gK G a = ci ∧ k (pc + 3) L (ab_gv G ci a f :: r) G bc bs
        | _ => False)
      | none => False)
    | .putfield i => len = 3 ∧ (match ab_fR o i with
      | some (ci, f) => ((ab_T ci f).2.2.2 = false ∨ (ab_ini I = true ∧ ci = o)) ∧ (match S with
        | .int x :: .ref a :: r => gK G a = ci ∧ ab_isR (ab_ty ci f) = false ∧ narrow (ab_ty ci f) (.int x) = .int x ∧ k (pc + 3) L r (sI G a f x) bc bs
        | .ref x :: .ref a :: r => gK G a = ci ∧ ab_isR (ab_ty ci f) = true ∧ k (pc + 3) L r (sR G a f (some x)) bc bs
        | .null :: .ref a :: r => gK G a = ci ∧ ab_isR (ab_ty ci f) = true ∧ k (pc + 3) L r (sR G a f none) bc bs
        | _ => False)
      | none => False)
    | .iaload => len = 1 ∧ (match S with
      | .int i :: .ref a :: r => gK G a = 14 ∧ vp_in i (gN G a) ∧ k (pc + 1) L (.int (gI G a i.toNatClampNeg) :: r) G bc bs
      | .int i :: .float u :: r => u.toNat = 0 ∧ vp_in i (scL - 1) ∧ k (pc + 1) L (.int (scX i.toNatClampNeg) :: r) G bc bs
      | _ => False)
    | .iastore => len = 1 ∧ (match S with
      | .int x :: .int i :: .ref a :: r => gK G a = 14 ∧ vp_in i (gN G a) ∧ k (pc + 1) L r (sI G a i.toNatClampNeg x) bc bs
      | _ => False)
    | .arraylength => len = 1 ∧ (match S with
      | .ref a :: r => gK G a = 14 ∧ k (pc + 1) L (.int (Int32.ofNat (gN G a)) :: r) G bc bs
      | .float u :: r => u.toNat = 0 ∧ scL ≠ 0 ∧ k (pc + 1) L (.int (Int32.ofNat (scL - 1)) :: r) G bc bs
      | _ => False)
    | .newarray at' => len = 2 ∧ (match S with
      | .int x :: r => ¬ x < 0 ∧ x.toNatClampNeg ≤ 60000 ∧ 1 ≤ bc ∧ x.toNatClampNeg ≤ bs ∧ (match at' with
        | .int => k (pc + 2) L (.ref (gZ G) :: r) (gNew G 14 x.toNatClampNeg) (bc - 1) (bs - x.toNatClampNeg)
        | _ => False)
      | _ => False)
    | .checkcast i => len = 3 ∧ (match ab_cR o i with
      | some ci => (match S with
        | .ref a :: r => gK G a = ci ∧ ci < 13 ∧ k (pc + 3) L (.ref a :: r) G bc bs
        | _ => False)
      | none => False)
    | .new i => len = 3 ∧ (match ab_cR o i with
      | some ci => ci < 13 ∧ 1 ≤ bc ∧ ab_nf ci ≤ bs ∧ k (pc + 3) L (.ref (gZ G) :: S) (gNew G ci 0) (bc - 1) (bs - ab_nf ci)
      | none => match ab_eR o i with
        | some (ic, E) => decode (mCd I) (pc + 3) = .ok (.dup, 1) ∧ 8 ≤ d ∧ 1 ≤ bc ∧ 6 ≤ bs ∧ ab_cat S ≤ 8 ∧ mXt I = [] ∧
          ((∃ j t, decode (mCd I) (pc + 4) = .ok (.ldc j, 2) ∧ ab_xR o j = some t ∧ decode (mCd I) (pc + 6) = .ok (.invokespecial ic, 3) ∧ decode (mCd I) (pc + 9) = .ok (.athrow, 1)) ∨
           (∃ j t, decode (mCd I) (pc + 4) = .ok (.ldc_w j, 3) ∧ ab_xR o j = some t ∧ decode (mCd I) (pc + 7) = .ok (.invokespecial ic, 3) ∧ decode (mCd I) (pc + 10) = .ok (.athrow, 1))) ∧ X G E
        | none => False)
    | .invokevirtual i => len = 3 ∧ (match ab_mR o i with
      | some 4 => False
      | some 5 => ab_callV Γ I k X pc L S 5 (ab_pri 5) 0 0 G bc bs
      | some 6 => ab_callV Γ I k X pc L S 6 (ab_pri 6) 0 1 G bc bs
      | some 7 => ab_callV Γ I k X pc L S 7 (ab_pri 7) 0 1 G bc bs
      | some 8 => (match S with
        | .float u :: r => 1 ≤ u.toNat ∧ u.toNat ≤ 7 ∧ ab_cat r ≤ 8 ∧ k (pc + 3) L (.int (Int32.ofNat (ab_tx (u.toNat - 1)).length) :: r) G bc bs
        | _ => False)
      | some 9 => (match S with
        | .int x :: .float u :: r => 1 ≤ u.toNat ∧ u.toNat ≤ 7 ∧ ab_cat r ≤ 8 ∧ vp_in x (ab_tx (u.toNat - 1)).length ∧ k (pc + 3) L (.int ((ab_tx (u.toNat - 1)).getD x.toNatClampNeg 0) :: r) G bc bs
        | _ => False)
      | some y => (match ab_M y with
        | some J => mSt J = false ∧ ab_ini J = false ∧ ab_callV Γ I k X pc L S y J (mCi J) (mNa J) G bc bs
        | none => False)
      | none => False)
    | .invokespecial i => len = 3 ∧ (match ab_mR o i with
      | some 0 => (match S with
        | .ref a :: r => ab_cat r ≤ 8 ∧ k (pc + 3) L r G bc bs
        | _ => False)
      | some 4 => ab_callV Γ I k X pc L S 4 (ab_pri 4) 0 0 G bc bs
      | some y => (match ab_M y with
        | some J => mSt J = false ∧ ab_ini J = true ∧ ab_callV Γ I k X pc L S y J (mCi J) (mNa J) G bc bs
        | none => False)
      | none => match ab_nR o i with
        | some y => (match ab_M y with
          | some J => mSt J = false ∧ ab_ini J = true ∧ ab_callV Γ I k X pc L S y J (mCi J) (mNa J) G bc bs
          | none => False)
        | none => False)
    | .invokestatic i => len = 3 ∧ (match ab_mR o i with
      | some 1 => (match S with
        | .int y :: .int x :: r => ab_cat r ≤ 8 ∧ k (pc + 3) L (.int (if x < y then y else x) :: r) G bc bs
        | _ => False)
      | some 2 => (match S with
        | .int y :: .int x :: r => ab_cat r ≤ 8 ∧ k (pc + 3) L (.int (if y < x then y else x) :: r) G bc bs
        | _ => False)
      | some 3 => (match S with
        | .long y :: .long x :: r => ab_cat r ≤ 8 ∧ k (pc + 3) L (.long (if y < x then y else x) :: r) G bc bs
        | _ => False)
      | some y => if y = 13000 then (match S with
        | .int y :: .float u :: r => u.toNat = 0 ∧ (scL ≠ 0 ∧ scL ≤ 100000) ∧ 1 ≤ d ∧ ab_cat r ≤ 8 ∧ 0 ≤ y.toInt ∧ k (pc + 3) L (.int (ab_at scL scX y) :: r) G bc bs
        | _ => False)
        else (match ab_M y with
        | some J => mSt J = true ∧ (S.take (mNa J)).length = mNa J ∧ ab_call Γ I k X pc L y J (S.take (mNa J)).reverse (S.drop (mNa J)) G bc bs
        | none => False)
      | none => False)
    | .ireturn => len = 1 ∧ (match S with
      | [.int x] => (match mRt I with
        | some t => narrow t (.int x) = .int x ∧ P G (some (.int x))
        | none => False)
      | _ => False)
    | .areturn => len = 1 ∧ (match S with
      | [.ref a] => (match mRt I with
        | some t => ab_isR t = true ∧ P G (some (.ref a))
        | none => False)
      | [.null] => (match mRt I with
        | some t => ab_isR t = true ∧ P G (some .null)
        | none => False)
      | _ => False)
    | .return_ => len = 1 ∧ S = [] ∧ mRt I = none ∧ P G none
    | _ => False
def ab_Wp (d : Nat) (Γ : ab_Gm) (o : Nat) (I : ab_Info) (scL : Nat) (scX : Nat → Int32) (P : ab_Pq) (X : ab_Xq) : ab_K := fun pc L S G bc bs =>
  ∀ R : ab_K, (∀ pc L S G bc bs, ab_stp d Γ o I scL scX P X R pc L S G bc bs → R pc L S G bc bs) → R pc L S G bc bs
/-- a method's locals at its entry -/
def ab_loc : List Value → List (Option Value)
  | [] => []
  | v :: r => if v.category = 2 then some v :: none :: ab_loc r else some v :: ab_loc r
def ab_ent (n : Nat) (vs : List Value) : List (Option Value) := ab_loc vs ++ List.replicate (n - (ab_loc vs).length) none
/-- a list (java.util.ArrayList) that holds xs -/
def ab_LST (G : ab_G) (a : Nat) (xs : List Nat) (cap : Nat) : Prop := gK G a = 0 ∧ gI G a 2 = Int32.ofNat xs.length ∧ ((xs = [] ∧ cap = 0 ∧ gR G a 1 = some 1000000000) ∨ ∃ e, gR G a 1 = some e ∧ e < gZ G ∧ gK G e = 16 ∧ xs.length ≤ cap ∧ gN G e = cap ∧ (cap = 10 ∨ cap = 15 ∨ cap = 22 ∨ cap = 33) ∧ (∀ i, gR G e i = xs[i]?))
/-- nothing but the cell a and, it may be, its array has changed -/
def ab_same (G G' : ab_G) (ok : Nat → Prop) : Prop := gZ G ≤ gZ G' ∧ ∀ b, b < gZ G → ¬ ok b → gK G' b = gK G b ∧ gN G' b = gN G b ∧ gI G' b = gI G b ∧ gR G' b = gR G b ∧ gJ G' b = gJ G b
/-- the JDK's methods that are reached: what they ask -/
def ab_Pri (d y : Nat) (args : List Value) (G : ab_G) (P : ab_Pq) : Prop := 40 ≤ d ∧ (match y, args with
  | 4, [.ref a] => gK G a = 0 ∧ gI G a 2 = 0 ∧ P (sR (sI G a 0 0) a 1 (some 1000000000)) none
  | 5, [.ref a] => gK G a = 0 ∧ P G (some (.int (gI G a 2)))
  | 6, [.ref a, .int i] => ∃ xs cap, ab_LST G a xs cap ∧ xs.length ≤ 40 ∧ ∃ j, i = Int32.ofNat j ∧ ∃ v, xs[j]? = some v ∧ P G (some (.ref v))
  | 7, [.ref a, .ref x] => ∃ xs cap, ab_LST G a xs cap ∧ xs.length ≤ 32 ∧ x < gZ G ∧ gK G x < 13 ∧ ∀ G', ab_LST G' a (xs ++ [x]) (if xs.length < cap then cap else if cap = 0 then 10 else cap + cap / 2) → ab_same G G' (fun b => b = a ∨ (xs.length < cap ∧ gR G a 1 = some b)) → gZ G' = (if xs.length < cap then gZ G else gZ G + 1) → gR G' a 1 = (if xs.length < cap then gR G a 1 else some (gZ G)) → P G' (some (.int 1))
  | _, _ => False)
def ab_Gam (d : Nat) : ab_Gm := match d with
  | 0 => fun _ _ _ _ _ => False
  | e + 1 => fun y args G P X => if y < 10 then ab_Pri e y args G P else match ab_M y with
    | none => False
    | some I => (ab_loc args).length ≤ mML I ∧ ab_Wp e (ab_Gam e) (mCi I) I 0 (fun _ => 0) P X 0 (ab_ent (mML I) args) [] G (mMc I args) (mMs I args)
