theorem oa_iff (n : Nat) (hn : n < 2 ^ 30) (x : Int32) : (decide (x = -1) || inr_ (n + 1) x) = true ↔ (¬ x < -1 ∧ ¬ nI n < x) := by
  unfold inr_
  rw [Bool.or_eq_true, decide_eq_true_eq, decide_eq_true_eq, Int32.lt_iff_toInt_lt, Int32.lt_iff_toInt_lt, Int32.lt_iff_toInt_lt, Int32.le_iff_toInt_le, nI_toInt (by omega), nI_toInt (by omega), ← Int32.toInt_inj]
  have e1 : (-1 : Int32).toInt = -1 := rfl
  have e0 : (0 : Int32).toInt = 0 := rfl
  rw [e1, e0]; omega
def mrg (T : List Nat) (pp : Nat) (fr to : Int32) : Nat → Nat
  | 0 => 0
  | j + 1 => mrg T pp fr to j + T.countP (fun C => isp pp C && btw (nI (32 * j)) (nI (32 * j + 31)) (C % 256)) * many (32 * j) fr to / 32
theorem mrg_s (T : List Nat) (pp : Nat) (fr to : Int32) (j : Nat) : mrg T pp fr to (j + 1) = mrg T pp fr to j + T.countP (fun C => isp pp C && btw (nI (32 * j)) (nI (32 * j + 31)) (C % 256)) * many (32 * j) fr to / 32 := rfl
theorem neg1_lt {c : Nat} (h : c < 65536) : (-1 : Int32) < nI c := by
  rw [Int32.lt_iff_toInt_lt, nI_toInt (by omega)]; have : (-1 : Int32).toInt = -1 := rfl; omega
/-- what sample's inner loop looks for: a sampled triple of p whose pair is beyond the last one -/
def sok (pp : Nat) (lst : Int32) (C : Nat) : Bool := isp pp C && smp (C % 65536) && decide (lst < nI (C % 65536))
/-- the least such pair, or 65536 -/
def smn (pp : Nat) (lst : Int32) (xs : List Nat) : Nat := xs.foldl (fun b C => if sok pp lst C = true ∧ C % 65536 < b then C % 65536 else b) 65536
theorem smn1 (pp : Nat) (lst : Int32) (xs : List Nat) (C : Nat) : smn pp lst (xs ++ [C]) = if sok pp lst C = true ∧ C % 65536 < smn pp lst xs then C % 65536 else smn pp lst xs := by unfold smn; simp
theorem smn_spec (pp : Nat) (lst : Int32) (n : Nat) : ∀ xs : List Nat, n ≤ xs.length → (smn pp lst (xs.take n) ≤ 65536 ∧ (smn pp lst (xs.take n) = 65536 ∨ ∃ i, i < n ∧ sok pp lst (xs.getD i 0) = true ∧ xs.getD i 0 % 65536 = smn pp lst (xs.take n)) ∧ ∀ i, i < n → sok pp lst (xs.getD i 0) = true → smn pp lst (xs.take n) ≤ xs.getD i 0 % 65536) := by
  intro xs
  induction n with
  | zero => intro _; exact ⟨Nat.le_refl _, Or.inl rfl, fun i h => absurd h (Nat.not_lt_zero _)⟩
  | succ n ih =>
    intro hn
    obtain ⟨h1, h2, h3⟩ := ih (by omega)
    rw [tk1 xs n 0 (by omega), smn1]
    by_cases q : sok pp lst (xs.getD n 0) = true ∧ xs.getD n 0 % 65536 < smn pp lst (xs.take n)
    · rw [if_pos q]
      refine ⟨by omega, Or.inr ⟨n, by omega, q.1, rfl⟩, fun i hi hs => ?_⟩
      by_cases e : i = n
      · rw [e]; exact Nat.le_refl _
      · have := h3 i (by omega) hs; omega
    · rw [if_neg q]
      refine ⟨h1, ?_, fun i hi hs => ?_⟩
      · rcases h2 with h2 | ⟨i, a, b, c⟩
        · exact Or.inl h2
        · exact Or.inr ⟨i, by omega, b, c⟩
      · by_cases e : i = n
        · subst e; exact Nat.le_of_not_lt (fun z => q ⟨hs, z⟩)
        · exact h3 i (by omega) hs
/-- the sampled pairs of p, sorted, and the least one beyond the n-th -/
theorem smn_next {T : List Nat} {pp : Nat} {S : List Nat} {lst : Int32} {n : Nat} (hs : ∀ i j, i < j → j < S.length → S.getD i 0 < S.getD j 0) (hS : ∀ c, c ∈ S ↔ ∃ i, i < T.length ∧ T.getD i 0 / 65536 = pp ∧ T.getD i 0 % 65536 = c ∧ smp c = true) (hn : n ≤ S.length)
    (hl : ∀ c, c < 65536 → (lst < nI c ↔ (n = 0 ∨ S.getD (n - 1) 0 < c))) : (S.length = n ∧ smn pp lst T = 65536) ∨ (n < S.length ∧ smn pp lst T = S.getD n 0 ∧ S.getD n 0 < 65536) := by
  have sp := smn_spec pp lst T.length T (Nat.le_refl _)
  rw [List.take_length] at sp
  obtain ⟨h1, h2, h3⟩ := sp
  have gmem : ∀ j, j < S.length → S.getD j 0 ∈ S := fun j hj => by rw [List.getD_eq_getElem?_getD, List.getElem?_eq_getElem hj]; exact List.getElem_mem hj
  have memg : ∀ c, c ∈ S → ∃ j, j < S.length ∧ S.getD j 0 = c := fun c hc => by
    obtain ⟨j, hj, e⟩ := List.getElem_of_mem hc
    exact ⟨j, hj, by rw [List.getD_eq_getElem?_getD, List.getElem?_eq_getElem hj]; exact e⟩
  have okS : ∀ i, i < T.length → sok pp lst (T.getD i 0) = true → ∃ j, j < S.length ∧ n ≤ j ∧ S.getD j 0 = T.getD i 0 % 65536 := by
    intro i hi h
    unfold sok at h
    simp only [Bool.and_eq_true, decide_eq_true_eq] at h
    obtain ⟨⟨a, b⟩, c⟩ := h
    have a' : T.getD i 0 / 65536 = pp := by unfold isp at a; simpa using a
    obtain ⟨j, hj, e⟩ := memg _ ((hS _).mpr ⟨i, hi, a', rfl, b⟩)
    refine ⟨j, hj, ?_, e⟩
    have := (hl _ (by omega)).mp c
    rcases this with z | z
    · omega
    · refine Nat.le_of_not_lt (fun q => ?_)
      rcases Nat.lt_or_ge j (n - 1) with w | w
      · have := hs j (n - 1) w (by omega); omega
      · have : j = n - 1 := by omega
        rw [this] at e; omega
  rcases Nat.lt_or_ge n S.length with q | q
  · right
    obtain ⟨i, hi, a, b, c⟩ := (hS _).mp (gmem n q)
    have hok : sok pp lst (T.getD i 0) = true := by
      unfold sok isp
      simp only [Bool.and_eq_true, decide_eq_true_eq]
      refine ⟨⟨by simpa using a, by rw [b]; exact c⟩, (hl _ (by omega)).mpr ?_⟩
      rcases Nat.eq_zero_or_pos n with z | z
      · exact Or.inl z
      · right; rw [b]; exact hs (n - 1) n (by omega) q
    have hle := h3 i hi hok
    refine ⟨q, ?_, by omega⟩
    rcases h2 with h2 | ⟨i2, hi2, ok2, e2⟩
    · omega
    · obtain ⟨j, hj, hnj, ej⟩ := okS i2 hi2 ok2
      rcases Nat.lt_or_ge n j with w | w
      · have := hs n j w hj; omega
      · have : j = n := by omega
        subst this; omega
  · left
    refine ⟨by omega, ?_⟩
    rcases h2 with h2 | ⟨i2, hi2, ok2, e2⟩
    · exact h2
    · obtain ⟨j, hj, hnj, ej⟩ := okS i2 hi2 ok2; omega
theorem ak_new {ak fs fp fo : Nat → Int32} {n : Nat} {s1 p1 o1 : Int32} (hA : ∀ i, i < n → ak (3 * i) = fs i ∧ ak (3 * i + 1) = fp i ∧ ak (3 * i + 2) = fo i) : ∀ x, x < n + 1 → upd (upd (upd ak (3 * n) s1) (3 * n + 1) p1) (3 * n + 2) o1 (3 * x) = upd fs n s1 x ∧ upd (upd (upd ak (3 * n) s1) (3 * n + 1) p1) (3 * n + 2) o1 (3 * x + 1) = upd fp n p1 x ∧ upd (upd (upd ak (3 * n) s1) (3 * n + 1) p1) (3 * n + 2) o1 (3 * x + 2) = upd fo n o1 x := by
  intro x hx
  by_cases q : x = n
  · subst q
    refine ⟨?_, ?_, ?_⟩
    · rw [pk_un (show 3 * x ≠ 3 * x + 2 by omega), pk_un (show 3 * x ≠ 3 * x + 1 by omega), pk_us, pk_us]
    · rw [pk_un (show 3 * x + 1 ≠ 3 * x + 2 by omega), pk_us, pk_us]
    · rw [pk_us, pk_us]
  · obtain ⟨a, b, c⟩ := hA x (by omega)
    refine ⟨?_, ?_, ?_⟩
    · rw [pk_un (show 3 * x ≠ 3 * n + 2 by omega), pk_un (show 3 * x ≠ 3 * n + 1 by omega), pk_un (show 3 * x ≠ 3 * n by omega), pk_un q, a]
    · rw [pk_un (show 3 * x + 1 ≠ 3 * n + 2 by omega), pk_un (show 3 * x + 1 ≠ 3 * n + 1 by omega), pk_un (show 3 * x + 1 ≠ 3 * n by omega), pk_un q, b]
    · rw [pk_un (show 3 * x + 2 ≠ 3 * n + 2 by omega), pk_un (show 3 * x + 2 ≠ 3 * n + 1 by omega), pk_un (show 3 * x + 2 ≠ 3 * n by omega), pk_un q, c]
