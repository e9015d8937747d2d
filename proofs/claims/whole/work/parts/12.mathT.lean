/-! TripleRow: eight sorted rows, one behind another. -/
def tr_off (Ls : Nat → List Nat) : Nat → Nat
  | 0 => 0
  | p + 1 => tr_off Ls p + (Ls p).length
def RT (Ls : Nat → List Nat) (f g : Nat → Int32) : Prop :=
  (∀ p, p < 9 → g p = nI (tr_off Ls p)) ∧ (∀ p, p < 8 → ∀ i, i < (Ls p).length → f (tr_off Ls p + i) = nI ((Ls p).getD i 0)) ∧ tr_off Ls 8 ≤ 400 ∧ (∀ p, p < 8 → ∀ i, i < (Ls p).length → (Ls p).getD i 0 < 65536) ∧ (∀ p, p < 8 → ∀ i j, i < j → j < (Ls p).length → (Ls p).getD i 0 < (Ls p).getD j 0)
theorem tr_mono {Ls : Nat → List Nat} {p q : Nat} (h : p ≤ q) : tr_off Ls p ≤ tr_off Ls q := by
  induction q with
  | zero => have : p = 0 := by omega
            subst this; exact Nat.le_refl _
  | succ q ih =>
    rcases Nat.lt_or_ge p (q + 1) with h1 | h1
    · have := ih (by omega); simp only [tr_off]; omega
    · have : p = q + 1 := by omega
      subst this; exact Nat.le_refl _
theorem tr_next (Ls : Nat → List Nat) (p : Nat) : tr_off Ls (p + 1) = tr_off Ls p + (Ls p).length := rfl
theorem tr_top {Ls : Nat → List Nat} {p : Nat} (h : p < 8) : tr_off Ls p + (Ls p).length ≤ tr_off Ls 8 := by
  have := tr_mono (Ls := Ls) (show p + 1 ≤ 8 by omega)
  rw [tr_next] at this; exact this
def tr_ins (Ls : Nat → List Nat) (p k c : Nat) : Nat → List Nat := fun q => if q = p then (Ls p).take k ++ c :: (Ls p).drop k else Ls q
def tr_del (Ls : Nat → List Nat) (p k : Nat) : Nat → List Nat := fun q => if q = p then (Ls p).take k ++ (Ls p).drop (k + 1) else Ls q
theorem tr_gi (xs : List Nat) (k c i : Nat) (hk : k ≤ xs.length) : (xs.take k ++ c :: xs.drop k).getD i 0 = if i < k then xs.getD i 0 else if i = k then c else xs.getD (i - 1) 0 := by
  have hl : (xs.take k).length = k := by rw [List.length_take]; omega
  simp only [List.getD_eq_getElem?_getD]
  by_cases h1 : i < k
  · rw [if_pos h1, List.getElem?_append_left (by omega), List.getElem?_take, if_pos h1]
  · rw [if_neg h1, List.getElem?_append_right (by omega), hl]
    by_cases h2 : i = k
    · subst h2; simp
    · rw [if_neg h2, show i - k = (i - k - 1) + 1 by omega, List.getElem?_cons_succ, List.getElem?_drop, show k + (i - k - 1) = i - 1 by omega]
theorem tr_gd (xs : List Nat) (k i : Nat) (hk : k < xs.length) : (xs.take k ++ xs.drop (k + 1)).getD i 0 = if i < k then xs.getD i 0 else xs.getD (i + 1) 0 := by
  have hl : (xs.take k).length = k := by rw [List.length_take]; omega
  simp only [List.getD_eq_getElem?_getD]
  by_cases h1 : i < k
  · rw [if_pos h1, List.getElem?_append_left (by omega), List.getElem?_take, if_pos h1]
  · rw [if_neg h1, List.getElem?_append_right (by omega), hl, List.getElem?_drop, show k + 1 + (i - k) = i + 1 by omega]
theorem tr_insl {Ls : Nat → List Nat} {p k c : Nat} (hk : k ≤ (Ls p).length) : (tr_ins Ls p k c p).length = (Ls p).length + 1 := by
  unfold tr_ins; rw [if_pos rfl]; simp; omega
theorem tr_dell {Ls : Nat → List Nat} {p k : Nat} (hk : k < (Ls p).length) : (tr_del Ls p k p).length = (Ls p).length - 1 := by
  unfold tr_del; rw [if_pos rfl]; simp; omega
theorem tr_offi {Ls : Nat → List Nat} {p k c : Nat} (hk : k ≤ (Ls p).length) (q : Nat) : tr_off (tr_ins Ls p k c) q = if p < q then tr_off Ls q + 1 else tr_off Ls q := by
  induction q with
  | zero => rfl
  | succ q ih =>
    rw [tr_next, tr_next, ih]
    by_cases h : q = p
    · subst h; rw [tr_insl hk]; simp; omega
    · have : tr_ins Ls p k c q = Ls q := by unfold tr_ins; rw [if_neg h]
      rw [this]; split <;> split <;> omega
theorem tr_offd {Ls : Nat → List Nat} {p k : Nat} (hk : k < (Ls p).length) (q : Nat) : tr_off (tr_del Ls p k) q = if p < q then tr_off Ls q - 1 else tr_off Ls q := by
  induction q with
  | zero => rfl
  | succ q ih =>
    rw [tr_next, tr_next, ih]
    by_cases h : q = p
    · subst h; rw [tr_dell hk]; simp; omega
    · have : tr_del Ls p k q = Ls q := by unfold tr_del; rw [if_neg h]
      rw [this]
      by_cases h2 : p < q
      · have := tr_mono (Ls := Ls) (show p + 1 ≤ q by omega)
        rw [tr_next] at this
        rw [if_pos h2, if_pos (by omega)]; omega
      · rw [if_neg h2, if_neg (by omega)]
theorem RT_ins {Ls : Nat → List Nat} {f g f' g' : Nat → Int32} (h : RT Ls f g) {p c k : Nat} (hp : p < 8) (hc : c < 65536) (hk : k ≤ (Ls p).length) (h1 : ∀ j, j < k → (Ls p).getD j 0 < c) (h2 : ∀ j, k ≤ j → j < (Ls p).length → c < (Ls p).getD j 0) (h4 : tr_off Ls 8 < 400)
    (hf : ∀ j, j < 400 → f' j = if j = tr_off Ls p + k then nI c else if tr_off Ls p + k < j ∧ j ≤ tr_off Ls 8 then f (j - 1) else f j) (hg : ∀ j, j < 9 → g' j = if p < j then g j + nI 1 else g j) : RT (tr_ins Ls p k c) f' g' := by
  obtain ⟨a1, a2, a3, a4, a5⟩ := h
  have hne : ∀ q, q ≠ p → tr_ins Ls p k c q = Ls q := fun q h => by unfold tr_ins; rw [if_neg h]
  have hpe : tr_ins Ls p k c p = (Ls p).take k ++ c :: (Ls p).drop k := by unfold tr_ins; rw [if_pos rfl]
  refine ⟨fun q hq => ?_, fun q hq i hi => ?_, ?_, fun q hq i hi => ?_, fun q hq i j hij hj => ?_⟩
  · rw [hg q hq, tr_offi hk, a1 q hq]; split
    · exact nI_1 _
    · rfl
  · have ht := tr_top (Ls := Ls) hq
    rw [tr_offi hk]
    by_cases h : q = p
    · subst h
      rw [tr_insl hk] at hi
      rw [if_neg (Nat.lt_irrefl _), hpe, tr_gi _ _ _ _ hk, hf _ (by omega)]
      by_cases c1 : i < k
      · rw [if_neg (by omega), if_neg (by omega), if_pos c1, a2 q hq i (by omega)]
      · by_cases c2 : i = k
        · subst c2; rw [if_pos rfl, if_neg c1, if_pos rfl]
        · rw [if_neg (by omega), if_pos (by omega), if_neg c1, if_neg c2, show tr_off Ls q + i - 1 = tr_off Ls q + (i - 1) by omega, a2 q hq (i - 1) (by omega)]
    · rw [hne q h] at hi ⊢
      by_cases c1 : p < q
      · have hm := tr_mono (Ls := Ls) (show p + 1 ≤ q by omega)
        rw [tr_next] at hm
        rw [if_pos c1, hf _ (by omega), if_neg (by omega), if_pos (by omega), show tr_off Ls q + 1 + i - 1 = tr_off Ls q + i by omega, a2 q hq i hi]
      · have hm := tr_mono (Ls := Ls) (show q + 1 ≤ p by omega)
        rw [tr_next] at hm
        rw [if_neg c1, hf _ (by omega), if_neg (by omega), if_neg (by omega), a2 q hq i hi]
  · rw [tr_offi hk, if_pos hp]; omega
  · by_cases h : q = p
    · subst h
      rw [tr_insl hk] at hi
      rw [hpe, tr_gi _ _ _ _ hk]
      split
      · exact a4 q hq i (by omega)
      · split
        · exact hc
        · exact a4 q hq _ (by omega)
    · rw [hne q h] at hi ⊢; exact a4 q hq i hi
  · by_cases h : q = p
    · subst h
      rw [tr_insl hk] at hj
      rw [hpe, tr_gi _ _ _ _ hk, tr_gi _ _ _ _ hk]
      by_cases c1 : j < k
      · rw [if_pos (by omega), if_pos c1]; exact a5 q hq i j hij (by omega)
      · rw [if_neg c1]
        by_cases c2 : j = k
        · rw [if_pos c2, if_pos (by omega)]; exact h1 i (by omega)
        · rw [if_neg c2]
          by_cases c3 : i < k
          · rw [if_pos c3]; exact a5 q hq i (j - 1) (by omega) (by omega)
          · rw [if_neg c3]
            by_cases c4 : i = k
            · rw [if_pos c4]; exact h2 (j - 1) (by omega) (by omega)
            · rw [if_neg c4]; exact a5 q hq (i - 1) (j - 1) (by omega) (by omega)
    · rw [hne q h] at hj ⊢; exact a5 q hq i j hij hj
theorem RT_del {Ls : Nat → List Nat} {f g f' g' : Nat → Int32} (h : RT Ls f g) {p k : Nat} (hp : p < 8) (hk : k < (Ls p).length)
    (hf : ∀ j, j < 400 → f' j = if tr_off Ls p + k ≤ j ∧ j + 1 < tr_off Ls 8 then f (j + 1) else f j) (hg : ∀ j, j < 9 → g' j = if p < j then g j + (-1) else g j) : RT (tr_del Ls p k) f' g' := by
  obtain ⟨a1, a2, a3, a4, a5⟩ := h
  have hne : ∀ q, q ≠ p → tr_del Ls p k q = Ls q := fun q h => by unfold tr_del; rw [if_neg h]
  have hpe : tr_del Ls p k p = (Ls p).take k ++ (Ls p).drop (k + 1) := by unfold tr_del; rw [if_pos rfl]
  refine ⟨fun q hq => ?_, fun q hq i hi => ?_, ?_, fun q hq i hi => ?_, fun q hq i j hij hj => ?_⟩
  · rw [hg q hq, tr_offd hk, a1 q hq]
    by_cases c1 : p < q
    · have hm := tr_mono (Ls := Ls) (show p + 1 ≤ q by omega)
      rw [tr_next] at hm
      rw [if_pos c1, if_pos c1, show tr_off Ls q = (tr_off Ls q - 1) + 1 by omega, pk_m1, Nat.add_sub_cancel]
    · rw [if_neg c1, if_neg c1]
  · have ht := tr_top (Ls := Ls) hq
    rw [tr_offd hk]
    by_cases h : q = p
    · subst h
      rw [tr_dell hk] at hi
      rw [if_neg (Nat.lt_irrefl _), hpe, tr_gd _ _ _ hk, hf _ (by omega)]
      by_cases c1 : i < k
      · rw [if_neg (by omega), if_pos c1, a2 q hq i (by omega)]
      · rw [if_pos (by omega), if_neg c1, Nat.add_assoc, a2 q hq (i + 1) (by omega)]
    · rw [hne q h] at hi ⊢
      by_cases c1 : p < q
      · have hm := tr_mono (Ls := Ls) (show p + 1 ≤ q by omega)
        rw [tr_next] at hm
        rw [if_pos c1, hf _ (by omega), if_pos (by omega), show tr_off Ls q - 1 + i + 1 = tr_off Ls q + i by omega, a2 q hq i hi]
      · have hm := tr_mono (Ls := Ls) (show q + 1 ≤ p by omega)
        rw [tr_next] at hm
        rw [if_neg c1, hf _ (by omega), if_neg (by omega), a2 q hq i hi]
  · rw [tr_offd hk, if_pos hp]; omega
  · by_cases h : q = p
    · subst h
      rw [tr_dell hk] at hi
      rw [hpe, tr_gd _ _ _ hk]
      split
      · exact a4 q hq i (by omega)
      · exact a4 q hq _ (by omega)
    · rw [hne q h] at hi ⊢; exact a4 q hq i hi
  · by_cases h : q = p
    · subst h
      rw [tr_dell hk] at hj
      rw [hpe, tr_gd _ _ _ hk, tr_gd _ _ _ hk]
      by_cases c1 : j < k
      · rw [if_pos (by omega), if_pos c1]; exact a5 q hq i j hij (by omega)
      · rw [if_neg c1]
        by_cases c3 : i < k
        · rw [if_pos c3]; exact a5 q hq i (j + 1) (by omega) (by omega)
        · rw [if_neg c3]; exact a5 q hq (i + 1) (j + 1) (by omega) (by omega)
    · rw [hne q h] at hj ⊢; exact a5 q hq i j hij hj
/-- the place of c in a sorted row -/
theorem tr_place (xs : List Nat) (c : Nat) : ∃ k, k ≤ xs.length ∧ (∀ j, j < k → xs.getD j 0 < c) ∧ (k < xs.length → c ≤ xs.getD k 0) := by
  induction xs with
  | nil => exact ⟨0, Nat.le_refl _, fun j h => absurd h (Nat.not_lt_zero _), fun h => absurd h (Nat.not_lt_zero _)⟩
  | cons x xs ih =>
    by_cases h : x < c
    · obtain ⟨k, h1, h2, h3⟩ := ih
      refine ⟨k + 1, by simp; exact h1, fun j hj => ?_, fun hk => ?_⟩
      · cases j with
        | zero => exact h
        | succ j => exact h2 j (by omega)
      · exact h3 (by simpa using hk)
    · exact ⟨0, Nat.zero_le _, fun j h => absurd h (Nat.not_lt_zero _), fun _ => by simpa using Nat.le_of_not_lt h⟩
