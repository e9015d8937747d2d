theorem gd_app (T : List Nat) (c j : Nat) : (T ++ [c]).getD j 0 = if j < T.length then T.getD j 0 else if j = T.length then c else 0 := by
  simp only [List.getD_eq_getElem?_getD]
  by_cases h : j < T.length
  · rw [if_pos h, List.getElem?_append_left h]
  · rw [if_neg h, List.getElem?_append_right (by omega)]
    by_cases h2 : j = T.length
    · subst h2; simp
    · rw [if_neg h2, List.getElem?_eq_none (by simp; omega)]; rfl
theorem RM_app {T : List Nat} {su pd ob : Nat → Int32} (h : RM T su pd ob) {ss pp oo : Nat} (hs : ss < 256) (hp : pp < 8) (ho : oo < 256) (hl : T.length < 400) (hn : ∀ j, j < T.length → T.getD j 0 ≠ 65536 * pp + 256 * ss + oo) :
    RM (T ++ [65536 * pp + 256 * ss + oo]) (upd su T.length (nI ss)) (upd pd T.length (nI pp)) (upd ob T.length (nI oo)) := by
  obtain ⟨a1, a2, a3, a4⟩ := h
  refine ⟨fun i hi => ?_, by simp; omega, fun i hi => ?_, fun i j hij hj => ?_⟩
  · rw [gd_app]
    simp only [List.length_append, List.length_singleton] at hi
    by_cases q : i = T.length
    · rw [q, pk_us, pk_us, pk_us, if_neg (Nat.lt_irrefl _), if_pos rfl]
      exact ⟨congrArg nI (by omega), congrArg nI (by omega), congrArg nI (by omega)⟩
    · rw [pk_un q, pk_un q, pk_un q, if_pos (by omega)]; exact a1 i (by omega)
  · rw [gd_app]
    simp only [List.length_append, List.length_singleton] at hi
    split
    · exact a3 i (by omega)
    · split <;> omega
  · rw [gd_app, gd_app]
    simp only [List.length_append, List.length_singleton] at hj
    rw [if_pos (show i < T.length by omega)]
    by_cases q : j < T.length
    · rw [if_pos q]; exact a4 i j hij q
    · rw [if_neg q, if_pos (by omega)]; exact hn i (by omega)
def tdel (T : List Nat) (j : Nat) : List Nat := (T.set j (T.getD (T.length - 1) 0)).take (T.length - 1)
theorem tdel_len {T : List Nat} {j : Nat} (h : j < T.length) : (tdel T j).length = T.length - 1 := by unfold tdel; simp
theorem tdel_gd {T : List Nat} {j i : Nat} (h : j < T.length) (hi : i < T.length - 1) : (tdel T j).getD i 0 = if i = j then T.getD (T.length - 1) 0 else T.getD i 0 := by
  unfold tdel
  simp only [List.getD_eq_getElem?_getD]
  rw [List.getElem?_take, if_pos hi, List.getElem?_set]
  by_cases q : i = j
  · subst q; rw [if_pos rfl, if_pos h, if_pos rfl]; rfl
  · rw [if_neg (fun e => q e.symm), if_neg q]
theorem RM_del {T : List Nat} {su pd ob : Nat → Int32} (h : RM T su pd ob) {j : Nat} (hj : j < T.length) : RM (tdel T j) (upd su j (su (T.length - 1))) (upd pd j (pd (T.length - 1))) (upd ob j (ob (T.length - 1))) := by
  obtain ⟨a1, a2, a3, a4⟩ := h
  refine ⟨fun i hi => ?_, by rw [tdel_len hj]; omega, fun i hi => ?_, fun i k hik hk => ?_⟩
  · rw [tdel_len hj] at hi
    rw [tdel_gd hj hi]
    by_cases q : i = j
    · rw [q, pk_us, pk_us, pk_us, if_pos rfl]; exact a1 _ (by omega)
    · rw [pk_un q, pk_un q, pk_un q, if_neg q]; exact a1 i (by omega)
  · rw [tdel_len hj] at hi
    rw [tdel_gd hj hi]; split
    · exact a3 _ (by omega)
    · exact a3 i (by omega)
  · rw [tdel_len hj] at hk
    rw [tdel_gd hj (by omega), tdel_gd hj hk]
    by_cases q1 : i = j
    · rw [if_pos q1, if_neg (by omega)]; exact fun e => a4 k (T.length - 1) (by omega) (by omega) e.symm
    · rw [if_neg q1]
      by_cases q2 : k = j
      · rw [if_pos q2]; exact a4 i (T.length - 1) (by omega) (by omega)
      · rw [if_neg q2]; exact a4 i k hik (by omega)
def cbt (T : List Nat) (pp o : Nat) : Nat := T.countP (fun C => isp pp C && btw (nI 0) (nI o) (C % 256))
theorem cbt_top (T : List Nat) (pp : Nat) : cbt T pp 255 = T.countP (isp pp) := by
  unfold cbt
  refine List.countP_congr (fun C _ => ?_)
  have : btw (nI 0) (nI 255) (C % 256) = true := decide_eq_true ⟨nI_nlt (Nat.zero_le _) (by omega), nI_nlt (by omega) (by omega)⟩
  rw [this, Bool.and_true]
theorem cbt_le (T : List Nat) (pp o : Nat) : cbt T pp o ≤ T.length := List.countP_le_length
theorem i3 {x : Int32} (h0 : ¬ x < 0) (h : x ≤ nI 2) : x = nI 0 ∨ x = nI 1 ∨ x = nI 2 := by
  obtain ⟨j, hj, e⟩ := zz_in (n := 3) (by decide) h0 (fun q => by
    have a := Int32.le_iff_toInt_le.mp h
    have b := Int32.le_iff_toInt_le.mp q
    have e2 : (nI 2).toInt = 2 := rfl
    have e3 : (nI 3).toInt = 3 := rfl
    omega)
  rcases (show j = 0 ∨ j = 1 ∨ j = 2 by omega) with q | q | q <;> subst q <;> simp [e]
theorem lt_of_le15 {x : Int32} (h : x ≤ nI 15) : ¬ nI 16 ≤ x := fun q => by
  have a := Int32.le_iff_toInt_le.mp h
  have b := Int32.le_iff_toInt_le.mp q
  have e2 : (nI 15).toInt = 15 := rfl
  have e3 : (nI 16).toInt = 16 := rfl
  omega
theorem le15 {x : Int32} : x ≤ nI 15 ↔ x < nI 16 := by
  rw [Int32.le_iff_toInt_le, Int32.lt_iff_toInt_lt]
  have e2 : (nI 15).toInt = 15 := rfl
  have e3 : (nI 16).toInt = 16 := rfl
  omega
theorem mx29 (b i : Nat) (T : List Nat) : mxf (rgf b i) T ≤ 29 := by
  have := mxf_le (F := rgf b i) (rgf_le b i) T.length T
  rwa [List.take_length] at this
