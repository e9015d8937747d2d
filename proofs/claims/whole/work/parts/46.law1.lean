theorem off0 (p : Nat) : tr_off (fun _ => []) p = 0 := by
  induction p with
  | zero => rfl
  | succ p ih => rw [tr_next, ih]; rfl
theorem LI0 : LI 0 (fun _ => 0) (fun _ => 0) (fun _ => []) (fun _ => 0) (fun _ => 0) (fun _ => 0) 0 (fun _ => 0) 0 0 (fun _ => 0) (fun _ => 0) (fun _ => 0) [] (fun _ => 0) (fun _ => 0) := by
  refine ⟨⟨fun p hp => ?_, fun p hp i hi => absurd hi (Nat.not_lt_zero _), ?_, fun p hp i hi => absurd hi (Nat.not_lt_zero _), fun p hp i j hij hj => absurd hj (Nat.not_lt_zero _)⟩, ⟨fun i hi => absurd hi (Nat.not_lt_zero _), Nat.zero_le _, fun i hi => absurd hi (Nat.not_lt_zero _), fun i j hij hj => absurd hj (Nat.not_lt_zero _)⟩, fun p hp => List.Perm.refl _, Nat.zero_le _, fun i hi => absurd hi (Nat.not_lt_zero _), fun i hi => absurd hi (Nat.not_lt_zero _), Nat.le_refl _, Nat.zero_le _, Nat.le_refl _, fun j hj => rfl⟩
  · rw [off0]; rfl
  · rw [off0]; omega
theorem ZT0 {s : State} {args : Array Value} {A : Nat → Prop} (hts : ∀ w ∈ lw_tbl, w.before args s = true) (hgv : (Jvm.Cond.and given_1 narrow_1).before args s = true) (hA : ∀ a : Nat, a < s.heap.size → ¬ A a) : ZT A s s.heap := by
  have hs := flat_of_before _ hgv
  have harr : (Cond.arrayOf (.static "StatRows$RegisterRow" "ABOUT_BY_ZEROS" "[I") .int).before args s = true := hs _ (by decide +kernel)
  have hlen : (Cond.eq (.length (.static "StatRows$RegisterRow" "ABOUT_BY_ZEROS" "[I")) (.int 17)).before args s = true := hs _ (by decide +kernel)
  have hel : ∀ j : Nat, j < 17 → (Term.elem (.static "StatRows$RegisterRow" "ABOUT_BY_ZEROS" "[I") (.int (Int32.ofNat j))).eval args s none [] s = some (.int (nI (few j))) := by
    intro j hj
    have hw : (Cond.eq (.elem (.static "StatRows$RegisterRow" "ABOUT_BY_ZEROS" "[I") (.int (Int32.ofNat j))) (.int (nI (few j)))).before args s = true := by
      rcases (show j = 0 ∨ j = 1 ∨ j = 2 ∨ j = 3 ∨ j = 4 ∨ j = 5 ∨ j = 6 ∨ j = 7 ∨ j = 8 ∨ j = 9 ∨ j = 10 ∨ j = 11 ∨ j = 12 ∨ j = 13 ∨ j = 14 ∨ j = 15 ∨ j = 16 by omega) with q | q | q | q | q | q | q | q | q | q | q | q | q | q | q | q | q <;> subst q <;> exact hs _ (by decide +kernel)
    exact va_eqt hw
  obtain ⟨t, h1, h2⟩ := va_Tof (N := 17) (by decide) harr (va_eqt hlen) hel hA
  refine ⟨t, va_Zref (hts _ (List.mem_append_right _ (List.mem_of_getElem? (i := 267) (by decide +kernel)))) (hts _ (w0_tbl _ wd5)) h1 hA, h2⟩
