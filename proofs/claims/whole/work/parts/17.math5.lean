theorem tal_step {key : Nat → Nat} {xs : List Nat} {i : Nat} (hi : i < xs.length) {tl : Nat → Int32} {tv : Nat → Nat} (ok : Nat → Bool) (h : ∀ v, v < 256 → tl v = nI (tv v + (xs.take i).countP (fun c => ok c && key c == v))) (hok : ok (xs.getD i 0) = true) :
    ∀ v, v < 256 → upd tl (key (xs.getD i 0)) (nI (tv (key (xs.getD i 0)) + (xs.take i).countP (fun c => ok c && key c == key (xs.getD i 0)) + 1)) v = nI (tv v + (xs.take (i + 1)).countP (fun c => ok c && key c == v)) := by
  intro v hv
  rw [tk1 xs i 0 hi, cp1]
  by_cases q : v = key (xs.getD i 0)
  · rw [q, pk_us, hok]; simp [Nat.add_assoc]
  · rw [pk_un q, h v hv]
    have : (key (xs.getD i 0) == v) = false := by simpa using fun e => q e.symm
    rw [this, Bool.and_false]; rfl
theorem tal_skip {key : Nat → Nat} {xs : List Nat} {i : Nat} (hi : i < xs.length) {tl : Nat → Int32} {tv : Nat → Nat} (ok : Nat → Bool) (h : ∀ v, v < 256 → tl v = nI (tv v + (xs.take i).countP (fun c => ok c && key c == v))) (hok : ok (xs.getD i 0) = false) :
    ∀ v, v < 256 → tl v = nI (tv v + (xs.take (i + 1)).countP (fun c => ok c && key c == v)) := by
  intro v hv
  rw [tk1 xs i 0 hi, cp1, h v hv, hok]; rfl
def sumf (F : Nat → Nat) (xs : List Nat) : Nat := (xs.map F).sum
theorem sumf1 (F : Nat → Nat) (xs : List Nat) (x : Nat) : sumf F (xs ++ [x]) = sumf F xs + F x := by unfold sumf; simp
def okf (fl : Bool) (c : Nat) : Bool := !fl || smp c
def btw (fr to : Int32) (o : Nat) : Bool := decide (¬ nI o < fr ∧ ¬ to < nI o)
def many (a : Nat) (fr to : Int32) : Nat := cnt (fun i => btw fr to (a + i)) 32
theorem cnt_iv (lo hi : Int) (n : Nat) : cnt (fun i => decide (lo ≤ (i : Int) ∧ (i : Int) ≤ hi)) n = (min hi ((n : Int) - 1) - max lo 0 + 1).toNat := by
  induction n with
  | zero => rw [show cnt _ 0 = 0 from rfl]; omega
  | succ n ih =>
    rw [cnt_s, ih]
    by_cases h : lo ≤ (n : Int) ∧ (n : Int) ≤ hi
    · rw [decide_eq_true h]; simp only [Bool.toNat_true]; omega
    · rw [decide_eq_false h]; simp only [Bool.toNat_false]; omega
theorem many_eq (a : Nat) (ha : a < 2 ^ 30) (fr to : Int32) : many a fr to = (min (to.toInt - a) 31 - max (fr.toInt - a) 0 + 1).toNat := by
  have h := cnt_iv (fr.toInt - a) (to.toInt - a) 32
  have e : many a fr to = cnt (fun i => decide (fr.toInt - a ≤ (i : Int) ∧ (i : Int) ≤ to.toInt - a)) 32 := by
    unfold many
    refine cnt_congr 32 (fun i hi => ?_)
    unfold btw
    rw [Bool.eq_iff_iff, decide_eq_true_eq, decide_eq_true_eq, Int32.lt_iff_toInt_lt, Int32.lt_iff_toInt_lt, nI_toInt (by omega)]
    omega
  rw [e, h]; omega
theorem lo_toInt (x y : Int32) : (if x < y then y else x).toInt = max x.toInt y.toInt := by
  by_cases h : x < y
  · rw [if_pos h]; have := Int32.lt_iff_toInt_lt.mp h; omega
  · rw [if_neg h]; have : ¬ x.toInt < y.toInt := fun q => h (Int32.lt_iff_toInt_lt.mpr q); omega
theorem hi_toInt (x y : Int32) : (if y < x then y else x).toInt = min x.toInt y.toInt := by
  by_cases h : y < x
  · rw [if_pos h]; have := Int32.lt_iff_toInt_lt.mp h; omega
  · rw [if_neg h]; have : ¬ y.toInt < x.toInt := fun q => h (Int32.lt_iff_toInt_lt.mpr q); omega
theorem shared0 {a : Nat} (ha : a ≤ 224) {fr to lo hi : Int32} (e1 : lo = if nI a < fr then fr else nI a) (e2 : hi = if to < nI (a + 31) then to else nI (a + 31)) (h : ¬ lo ≤ hi) : nI 0 = nI (many a fr to) := by
  have h1 := congrArg Int32.toInt e1
  have h2 := congrArg Int32.toInt e2
  rw [lo_toInt, nI_toInt (by omega)] at h1
  rw [hi_toInt, nI_toInt (by omega)] at h2
  have h3 : ¬ lo.toInt ≤ hi.toInt := fun q => h (Int32.le_iff_toInt_le.mpr q)
  rw [many_eq a (by omega)]; congr 1; omega
theorem shared1 {a : Nat} (ha : a ≤ 224) {fr to lo hi : Int32} (e1 : lo = if nI a < fr then fr else nI a) (e2 : hi = if to < nI (a + 31) then to else nI (a + 31)) (h : lo ≤ hi) : hi - lo + nI 1 = nI (many a fr to) := by
  have h1 := congrArg Int32.toInt e1
  have h2 := congrArg Int32.toInt e2
  rw [lo_toInt, nI_toInt (by omega)] at h1
  rw [hi_toInt, nI_toInt (by omega)] at h2
  have h3 : lo.toInt ≤ hi.toInt := Int32.le_iff_toInt_le.mp h
  have f1 : lo = nI lo.toInt.toNat := Int32.toInt_inj.mp (by rw [nI_toInt (by omega)]; omega)
  have f2 : hi = nI hi.toInt.toNat := Int32.toInt_inj.mp (by rw [nI_toInt (by omega)]; omega)
  rw [f1, f2, pk_sub (by omega), nI_add, many_eq a (by omega)]; congr 1; omega
theorem many_le (a : Nat) (fr to : Int32) : many a fr to ≤ 32 := cnt_le _ _
