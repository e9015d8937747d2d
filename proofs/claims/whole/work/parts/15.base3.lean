theorem zz_tout {x : Int32} (lo hi : Nat) (hn : hi < 2 ^ 31) (h : ∀ k : Nat, lo ≤ k → k ≤ hi → x = nI k → False) : x.toInt < (lo : Int) ∨ (hi : Int) < x.toInt := by
  rcases Int.lt_or_le x.toInt (lo : Int) with a | a
  · exact Or.inl a
  · rcases Int.lt_or_le (hi : Int) x.toInt with b | b
    · exact Or.inr b
    · exfalso
      have e : x = nI x.toInt.toNat := by
        apply Int32.toInt_inj.mp
        rw [nI_toInt (by omega)]; omega
      exact h x.toInt.toNat (by omega) (by omega) e
theorem zz_in {x : Int32} {n : Nat} (hn : n < 2 ^ 31) (h0 : ¬ x < 0) (h1 : ¬ nI n ≤ x) : ∃ j, j < n ∧ x = nI j := by
  rcases pk_ix x hn with a | a | a
  · exact absurd a h0
  · exact absurd a h1
  · exact a
