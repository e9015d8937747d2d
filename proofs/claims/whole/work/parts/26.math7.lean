theorem kin {x : Int32} (h1 : ¬ x < nI 1) (h2 : ¬ nI 8 < x) : ∃ j, 1 ≤ j ∧ j ≤ 8 ∧ x = nI j := by
  have a : ¬ x.toInt < (nI 1).toInt := fun q => h1 (Int32.lt_iff_toInt_lt.mpr q)
  have b : ¬ (nI 8).toInt < x.toInt := fun q => h2 (Int32.lt_iff_toInt_lt.mpr q)
  have e1 : (nI 1).toInt = 1 := rfl
  have e8 : (nI 8).toInt = 8 := rfl
  refine ⟨x.toInt.toNat, by omega, by omega, Int32.toInt_inj.mp ?_⟩
  rw [nI_toInt (by omega)]; omega
theorem i_le {x y : Int32} : x ≤ y ↔ ¬ y < x := by rw [Int32.le_iff_toInt_le, Int32.lt_iff_toInt_lt]; omega
theorem clt_le (xs : List Nat) (o : Nat) : clt xs o ≤ xs.length := List.countP_le_length
theorem okf_f (c : Nat) : okf false c = true := rfl
theorem rgs_le (xs : List Nat) (fr to : Int32) (n : Nat) : rgs xs fr to n ≤ xs.length * n := by
  induction n with
  | zero => exact Nat.zero_le _
  | succ n ih =>
    rw [rgs_s, Nat.mul_succ]
    have h1 : xs.countP (fun c => btw (nI (32 * n)) (nI (32 * n + 31)) (obj_ c)) * many (32 * n) fr to ≤ xs.length * 32 := Nat.mul_le_mul List.countP_le_length (many_le _ _ _)
    omega
theorem len_pos {k n : Nat} (h : ¬ k * n = 0) : 0 < n := Nat.pos_of_ne_zero (fun q => h (by rw [q, Nat.mul_zero]))
