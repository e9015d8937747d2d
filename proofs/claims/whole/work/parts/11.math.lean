/-! The mathematics that class and reference are both tied to. -/
def hsh (x : Int32) : Int32 :=
  let h1 := (x + 1) * (-1640531535)
  let h2 := h1 ^^^ (h1.toUInt32 >>> ((15 : Int32).toUInt32 &&& Int32.toUInt32 31)).toInt32
  let h3 := h2 * (-2048144777)
  h3 ^^^ (h3.toUInt32 >>> ((13 : Int32).toUInt32 &&& Int32.toUInt32 31)).toInt32
def smp (a : Nat) : Bool := hsh (nI a) &&& nI 3 == 0
theorem bt0 {b : Bool} (h : b.toNat = 0) : b = false := by cases b <;> simp_all
theorem bt1 {b : Bool} (h : ¬ b.toNat = 0) : b = true := by cases b <;> simp_all
theorem btl (b : Bool) : b.toNat < 2 := by cases b <;> decide
