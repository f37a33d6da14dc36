/-- parts of a method's row -/
def mNm (I : ab_Info) : MethodName := I.1
def mCd (I : ab_Info) : ByteArray := I.2.1
def mCi (I : ab_Info) : Nat := I.2.2.1
def mML (I : ab_Info) : Nat := I.2.2.2.1
def mRt (I : ab_Info) : Option FieldType := I.2.2.2.2.1
def mNa (I : ab_Info) : Nat := I.2.2.2.2.2.1
def mSt (I : ab_Info) : Bool := I.2.2.2.2.2.2.1
def mMc (I : ab_Info) : List Value → Nat := I.2.2.2.2.2.2.2.1
def mMs (I : ab_Info) : List Value → Nat := I.2.2.2.2.2.2.2.2.1
def mXt (I : ab_Info) : List (Nat × Nat × Nat × String) := I.2.2.2.2.2.2.2.2.2
def ab_ini (I : ab_Info) : Bool := (mNm I).name == "<init>"
