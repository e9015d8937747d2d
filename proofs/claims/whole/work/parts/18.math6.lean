def clt (xs : List Nat) (o : Nat) : Nat := xs.countP (fun c => decide (obj_ c < o))
theorem clt_s (xs : List Nat) (o : Nat) : clt xs (o + 1) = clt xs o + xs.countP (fun c => obj_ c == o) := by
  unfold clt
  induction xs with
  | nil => rfl
  | cons x xs ih =>
    rw [List.countP_cons, List.countP_cons, List.countP_cons, ih]
    by_cases h1 : obj_ x < o
    · rw [if_pos (by simp; omega), if_pos (by simp; omega), if_neg (by simp; omega)]; omega
    · by_cases h2 : obj_ x = o
      · rw [if_pos (by simp; omega), if_neg (by simp; omega), if_pos (by simp; omega)]; omega
      · rw [if_neg (by simp; omega), if_neg (by simp; omega), if_neg (by simp; omega)]; omega
theorem clt_0 (xs : List Nat) : clt xs 0 = 0 := by
  unfold clt; rw [List.countP_eq_zero]; intro a _; simp
theorem clt_top (xs : List Nat) : clt xs 256 = xs.length := by
  unfold clt; rw [List.countP_eq_length]; intro a _; exact decide_eq_true (Nat.mod_lt _ (by decide))
/-- chains and stars -/
def chn (fl : Bool) (key : Nat → Nat) (xs ys : List Nat) : Nat := sumf (fun c => if okf fl c = true then (0 + xs.countP (fun d => okf fl d && key d == sub_ c)) else 0) ys
theorem tsm_iff (Ls : Nat → List Nat) (b v p : Nat) (h : tr_off Ls p ≤ 400) : nI 0 < nI (tsm Ls b v p) ↔ anyb Ls b v p = true := by
  have := tsm_le Ls b v p
  rw [nI_ltI (by omega) (by omega), ← tsm_pos, decide_eq_true_eq]
def rgs (xs : List Nat) (fr to : Int32) : Nat → Nat
  | 0 => 0
  | j + 1 => rgs xs fr to j + xs.countP (fun c => btw (nI (32 * j)) (nI (32 * j + 31)) (obj_ c)) * many (32 * j) fr to / 32
theorem rgs_s (xs : List Nat) (fr to : Int32) (j : Nat) : rgs xs fr to (j + 1) = rgs xs fr to j + xs.countP (fun c => btw (nI (32 * j)) (nI (32 * j + 31)) (obj_ c)) * many (32 * j) fr to / 32 := rfl
theorem flt_at (p : Nat → Bool) (xs : List Nat) (i : Nat) (h : i < xs.length) (hp : p (xs.getD i 0) = true) : ((xs.take i).filter p).length < (xs.filter p).length ∧ (xs.filter p).getD ((xs.take i).filter p).length 0 = xs.getD i 0 := by
  have e : xs.filter p = (xs.take i).filter p ++ (xs.getD i 0 :: (xs.drop (i + 1)).filter p) := by
    have e1 : xs = xs.take i ++ xs.getD i 0 :: xs.drop (i + 1) := by
      have := List.take_append_drop (i + 1) xs
      rw [tk1 xs i 0 h, List.append_assoc] at this
      exact this.symm
    have e2 : xs.filter p = (xs.take i ++ xs.getD i 0 :: xs.drop (i + 1)).filter p := congrArg (List.filter p) e1
    rw [e2, List.filter_append, List.filter_cons_of_pos hp]
  rw [e]
  refine ⟨by simp, ?_⟩
  rw [List.getD_eq_getElem?_getD, List.getElem?_append_right (Nat.le_refl _)]; simp
def gow (a b d : Int32) (p c : Nat) : Bool := pal a (nI (sub_ c)) && pal b (nI p) && pal d (nI (obj_ c))
def mts (Ls : Nat → List Nat) (G : Nat → Nat → Bool) : Nat → Nat
  | 0 => 0
  | p + 1 => mts Ls G p + (Ls p).countP (G p)
theorem mts_s (Ls : Nat → List Nat) (G : Nat → Nat → Bool) (p : Nat) : mts Ls G (p + 1) = mts Ls G p + (Ls p).countP (G p) := rfl
theorem mts_le (Ls : Nat → List Nat) (G : Nat → Nat → Bool) (p : Nat) : mts Ls G p ≤ tr_off Ls p := by
  induction p with
  | zero => exact Nat.le_refl _
  | succ p ih => rw [mts_s, tr_next]; have := cpl (G p) (Ls p); omega
theorem tr_mem {xs : List Nat} {c k : Nat} (hs : ∀ i j, i < j → j < xs.length → xs.getD i 0 < xs.getD j 0) (h1 : ∀ j, j < k → xs.getD j 0 < c) (h2 : k < xs.length → c ≤ xs.getD k 0) : (k < xs.length ∧ xs.getD k 0 = c) ↔ c ∈ xs := by
  constructor
  · rintro ⟨a, b⟩
    rw [← b, List.getD_eq_getElem?_getD, List.getElem?_eq_getElem a]; exact List.getElem_mem a
  · intro h
    obtain ⟨j, hj, e⟩ := List.getElem_of_mem h
    have e2 : xs.getD j 0 = c := by rw [List.getD_eq_getElem?_getD, List.getElem?_eq_getElem hj]; exact e
    have hjk : k ≤ j := Nat.le_of_not_lt (fun q => by have := h1 j q; omega)
    have hk : k < xs.length := by omega
    refine ⟨hk, ?_⟩
    have := h2 hk
    rcases Nat.lt_or_ge k j with q | q
    · have := hs k j q hj; omega
    · have : k = j := by omega
      subst this; exact e2
theorem anyk_pos0 (key : Nat → Nat) (xs : List Nat) (v : Nat) : decide (0 < 0 + xs.countP (fun c => key c == v)) = anyk key xs v := by
  simp only [Nat.zero_add]; exact anyk_pos key xs v
