def byk (bo : Bool) (C : Nat) : Nat := if bo = true then C % 256 else C / 256 % 256
theorem byk_lt (bo : Bool) (C : Nat) : byk bo C < 256 := by unfold byk; split <;> omega
theorem inn_eq (q : Nat) (bo fl : Bool) (C E : Nat) : inn q bo fl C E = (E / 65536 == q && E / 256 % 256 == byk bo C && (!fl || (smp (C % 65536) && smp (E % 65536)))) := rfl
theorem inn_f1 {q : Nat} {bo fl : Bool} {C E : Nat} (h : ¬ E / 65536 = q) : inn q bo fl C E = false := by
  rw [inn_eq]; have : (E / 65536 == q) = false := by simpa using h
  rw [this]; rfl
theorem inn_f2 {q : Nat} {bo fl : Bool} {C E : Nat} (h : ¬ E / 256 % 256 = byk bo C) : inn q bo fl C E = false := by
  rw [inn_eq]; have : (E / 256 % 256 == byk bo C) = false := by simpa using h
  rw [this, Bool.and_false]; rfl
theorem inn_3 {q : Nat} {bo fl : Bool} {C E : Nat} (h1 : E / 65536 = q) (h2 : E / 256 % 256 = byk bo C) : inn q bo fl C E = (!fl || (smp (C % 65536) && smp (E % 65536))) := by
  rw [inn_eq]; have a : (E / 65536 == q) = true := by simpa using h1
  have b : (E / 256 % 256 == byk bo C) = true := by simpa using h2
  rw [a, b]; rfl
theorem sh16 (N z : Nat) : N / 2 ^ (3 + (z + 1)) = N / 16 / 2 ^ z := by
  rw [Nat.div_div_eq_div_mul, show 3 + (z + 1) = 4 + z by omega, Nat.pow_add]
theorem mx_skip {b i : Nat} {T : List Nat} {k : Nat} (hk : k < T.length) (h : rgf b i (T.getD k 0) = 0) : mxf (rgf b i) (T.take k) = mxf (rgf b i) (T.take (k + 1)) := by
  rw [tk1 _ k 0 hk, mxf1, h]; omega
theorem mx_step {b i : Nat} {T : List Nat} {k r : Nat} (hk : k < T.length) (h : rgf b i (T.getD k 0) = r) : mxf (rgf b i) (T.take (k + 1)) = max (mxf (rgf b i) (T.take k)) r := by
  rw [tk1 _ k 0 hk, mxf1, h]
def mfit (x y : Int32) : Bool := decide (x < 0 ∨ x = y)
def mgo (a b d : Int32) (C : Nat) : Bool := mfit a (nI (C / 256 % 256)) && mfit b (nI (C / 65536)) && mfit d (nI (C % 256))
