/-! The reference: a row of triples, each as 65536 p + 256 s + o, in the order in which they lie. -/
def RM (T : List Nat) (su pd ob : Nat → Int32) : Prop :=
  (∀ i, i < T.length → su i = nI (T.getD i 0 / 256 % 256) ∧ pd i = nI (T.getD i 0 / 65536) ∧ ob i = nI (T.getD i 0 % 256)) ∧ T.length ≤ 400 ∧ (∀ i, i < T.length → T.getD i 0 < 524288) ∧ (∀ i j, i < j → j < T.length → T.getD i 0 ≠ T.getD j 0)
def isp (p C : Nat) : Bool := C / 65536 == p
def keyb (bo : Bool) (C : Nat) : Nat := if bo = true then C / 256 % 256 else C % 256
def hitb (b : Nat) (bo : Bool) (v C : Nat) : Bool := bit_ b (C / 65536) && keyb bo C == v
def MA (T : List Nat) (b : Nat) (bo : Bool) (v : Nat) : Bool := T.any (hitb b bo v)
theorem hit_no {b : Nat} {bo : Bool} {v C : Nat} (h : v ≠ keyb bo C) : hitb b bo v C = false := by
  unfold hitb
  have : (keyb bo C == v) = false := by simpa using fun e => h e.symm
  rw [this, Bool.and_false]
theorem hit_yes {b : Nat} {bo : Bool} {v C : Nat} (h : bit_ b (C / 65536) = true) : hitb b bo v C = (v == keyb bo C) := by
  unfold hitb
  rw [h, Bool.true_and, Bool.eq_iff_iff, beq_iff_eq, beq_iff_eq]
  exact ⟨fun e => e.symm, fun e => e.symm⟩
theorem MA1 (T : List Nat) (C b : Nat) (bo : Bool) (v : Nat) : MA (T ++ [C]) b bo v = (MA T b bo v || hitb b bo v C) := by
  unfold MA; simp
theorem cnt_set {p q : Nat → Bool} {t : Nat} (n : Nat) (ht : t < n) (hp : p t = false) (hq : ∀ v, v < n → q v = (p v || v == t)) : cnt q n = cnt p n + 1 := by
  induction n with
  | zero => exact absurd ht (Nat.not_lt_zero _)
  | succ n ih =>
    rw [cnt_s, cnt_s]
    by_cases h : t = n
    · subst h
      rw [cnt_congr t (p := q) (q := p) (fun i hi => by rw [hq i (by omega)]; have : (i == t) = false := by simpa using Nat.ne_of_lt hi
                                                        rw [this, Bool.or_false]), hq t (by omega), hp]
      simp
    · rw [ih (by omega) (fun v hv => hq v (by omega)), hq n (by omega)]
      have : (n == t) = false := by simpa using fun e => h e.symm
      rw [this, Bool.or_false]; omega
theorem zz_shl1 : ∀ k, k < 8 → nI 1 <<< (nI k &&& 31) = nI (2 ^ k) := by decide +kernel
theorem bit_pow : ∀ a, a < 8 → ∀ q, q < 8 → bit_ (2 ^ a) q = (q == a) := by decide +kernel
theorem pow8 : ∀ a, a < 8 → 2 ^ a < 256 := by decide
/-- pairs of triples -/
def inn (q : Nat) (bo fl : Bool) (C E : Nat) : Bool := E / 65536 == q && E / 256 % 256 == (if bo = true then C % 256 else C / 256 % 256) && (!fl || (smp (C % 65536) && smp (E % 65536)))
def prs (T : List Nat) (p q : Nat) (bo fl : Bool) (C : Nat) : Nat := if C / 65536 = p then T.countP (inn q bo fl C) else 0
def mxf (F : Nat → Nat) (xs : List Nat) : Nat := (xs.map F).foldl max 0
theorem mxf1 (F : Nat → Nat) (xs : List Nat) (x : Nat) : mxf F (xs ++ [x]) = max (mxf F xs) (F x) := by unfold mxf; simp
def rgf (b i C : Nat) : Nat := if bit_ b (C / 65536) = true ∧ hix (hsh (nI (C / 256 % 256))) = i then rnk (hsh (nI (C / 256 % 256))) else 0
theorem rgf_le (b i C : Nat) : rgf b i C ≤ 29 := by unfold rgf; split; exact rnk_lt _; omega
theorem mxf_le {F : Nat → Nat} {m : Nat} (h : ∀ x, F x ≤ m) (n : Nat) : ∀ (xs : List Nat), mxf F (xs.take n) ≤ m := by
  intro xs
  induction n with
  | zero => unfold mxf; simp
  | succ n ih =>
    rcases Nat.lt_or_ge n xs.length with q | q
    · rw [tk1 xs n 0 q, mxf1]; have := h (xs.getD n 0); omega
    · rw [List.take_of_length_le (by omega)]; rw [List.take_of_length_le q] at ih; exact ih
