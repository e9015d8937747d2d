/-! Patterns, versions, registers. -/
def pal (a h : Int32) : Bool := decide (a = -1 ∨ a = h)
theorem bt_and3 (a b c : Bool) : (a && b && c) = (a && (b && c)) := Bool.and_assoc a b c
theorem vmax {v k : Nat} (hv : v < 2 ^ 30) (hk : k < 2 ^ 30) : (if nI 0 < nI v - nI k then nI v - nI k else nI 0) = nI (v - k) := by
  by_cases h : k ≤ v
  · rw [pk_sub h]
    by_cases h2 : v - k = 0
    · rw [h2, if_neg (by decide)]
    · rw [if_pos (nI_lt (by omega) (by omega))]
  · have h3 := pk_sneg (a := v) (b := k) hk (by omega)
    have h4 : ¬ nI 0 < nI v - nI k := fun q => by
      have a : (nI v - nI k).toInt < 0 := Int32.lt_iff_toInt_lt.mp h3
      have b : (nI 0).toInt < (nI v - nI k).toInt := Int32.lt_iff_toInt_lt.mp q
      have c : (nI 0).toInt = 0 := rfl
      omega
    rw [if_neg h4, show v - k = 0 by omega]
/-- how many of the lowest bits are 0, at most fu -/
def rz (N : Nat) : Nat → Nat
  | 0 => 0
  | fu + 1 => if N % 2 = 0 then rz (N / 2) fu + 1 else 0
theorem rz_le (fu : Nat) : ∀ N, rz N fu ≤ fu := by
  induction fu with
  | zero => intro N; exact Nat.le_refl _
  | succ fu ih => intro N; unfold rz; split; have := ih (N / 2); omega; omega
theorem rz_lo (fu : Nat) : ∀ N j, j < rz N fu → N / 2 ^ j % 2 = 0 := by
  induction fu with
  | zero => intro N j h; exact absurd h (Nat.not_lt_zero _)
  | succ fu ih =>
    intro N j h
    unfold rz at h
    split at h
    · cases j with
      | zero => simpa using ‹N % 2 = 0›
      | succ j => rw [Nat.pow_succ, Nat.mul_comm, ← Nat.div_div_eq_div_mul]; exact ih (N / 2) j (by omega)
    · exact absurd h (Nat.not_lt_zero _)
theorem rz_hi (fu : Nat) : ∀ N, rz N fu < fu → N / 2 ^ rz N fu % 2 = 1 := by
  induction fu with
  | zero => intro N h; exact absurd h (Nat.not_lt_zero _)
  | succ fu ih =>
    intro N h
    unfold rz at h ⊢
    split at h
    · rw [if_pos ‹N % 2 = 0›, Nat.pow_succ, Nat.mul_comm, ← Nat.div_div_eq_div_mul]; exact ih (N / 2) (by omega)
    · rw [if_neg ‹¬ N % 2 = 0›]; simp; omega
def bn (x : Int32) : Nat := x.toBitVec.toNat
theorem bn_lt (x : Int32) : bn x < 4294967296 := x.toBitVec.isLt
def hix (h : Int32) : Nat := bn h % 16
def rnk (h : Int32) : Nat := rz (bn h / 16) 28 + 1
theorem rnk_lt (h : Int32) : rnk h ≤ 29 := by unfold rnk; have := rz_le 28 (bn h / 16); omega
theorem zz_u31 : ∀ k, k < 32 → (((nI k).toUInt32 &&& Int32.toUInt32 31).toBitVec % 32).toNat = k := by decide +kernel
theorem zz_bit (x : Int32) {k : Nat} (hk : k < 32) : (x.toUInt32 >>> ((nI k).toUInt32 &&& Int32.toUInt32 31)).toInt32 &&& nI 1 = nI (bn x / 2 ^ k % 2) := by
  have h := pk_ushr x (nI k) k (zz_u31 k hk)
  rw [pk_and _ 1 (by decide), h]; rfl
theorem zz_ush4 (x : Int32) : bn (x.toUInt32 >>> ((nI 4).toUInt32 &&& Int32.toUInt32 31)).toInt32 = bn x / 16 := pk_ushr x (nI 4) 4 (zz_u31 4 (by decide))
theorem zz_and15 (x : Int32) : x &&& nI 15 = nI (hix x) := pk_and x 4 (by decide)
/-- register i of the numbers below n that are there -/
def rkf (pr : Nat → Bool) (i : Nat) : Nat → Nat
  | 0 => 0
  | n + 1 => if pr n = true ∧ hix (hsh (nI n)) = i then max (rkf pr i n) (rnk (hsh (nI n))) else rkf pr i n
theorem rkf_s (pr : Nat → Bool) (i n : Nat) : rkf pr i (n + 1) = if pr n = true ∧ hix (hsh (nI n)) = i then max (rkf pr i n) (rnk (hsh (nI n))) else rkf pr i n := rfl
theorem rkf_le (pr : Nat → Bool) (i n : Nat) : rkf pr i n ≤ 29 := by
  induction n with
  | zero => exact Nat.zero_le _
  | succ n ih => unfold rkf; split; have := rnk_lt (hsh (nI n)); omega; exact ih
theorem imax {a b : Nat} (ha : a < 2 ^ 31) (hb : b < 2 ^ 31) : (if nI a < nI b then nI b else nI a) = nI (max a b) := by
  by_cases h : a < b
  · rw [if_pos ((nI_ltI ha hb).mpr h)]; congr 1; omega
  · rw [if_neg (fun q => h ((nI_ltI ha hb).mp q))]; congr 1; omega
theorem imin {a b : Nat} (ha : a < 2 ^ 31) (hb : b < 2 ^ 31) : (if nI b < nI a then nI b else nI a) = nI (min a b) := by
  by_cases h : b < a
  · rw [if_pos ((nI_ltI hb ha).mpr h)]; congr 1; omega
  · rw [if_neg (fun q => h ((nI_ltI hb ha).mp q))]; congr 1; omega
/-- ABOUT -/
def few (z : Nat) : Nat := [0, 44, 33, 26, 22, 18, 15, 13, 11, 9, 7, 5, 4, 3, 2, 1, 0].getD z 0
def zer (R : Nat → Nat) : Nat → Nat
  | 0 => 0
  | n + 1 => if R n = 0 then zer R n + 1 else zer R n
def smr (R : Nat → Nat) : Nat → Nat
  | 0 => 0
  | n + 1 => smr R n + 2 ^ (30 - R n)
def abt (R : Nat → Nat) : Nat := if 0 < zer R 16 then few (zer R 16) else 184992831373312 / (1000 * smr R 16)
theorem zer_le (R : Nat → Nat) (n : Nat) : zer R n ≤ n := by
  induction n with
  | zero => exact Nat.le_refl _
  | succ n ih => unfold zer; split <;> omega
theorem p30 (r : Nat) : 1 ≤ 2 ^ (30 - r) ∧ 2 ^ (30 - r) ≤ 1073741824 := ⟨Nat.one_le_two_pow, by
  calc 2 ^ (30 - r) ≤ 2 ^ 30 := Nat.pow_le_pow_right (by omega) (by omega)
    _ = 1073741824 := by decide⟩
theorem smr_le (R : Nat → Nat) (n : Nat) : n ≤ smr R n ∧ smr R n ≤ n * 1073741824 := by
  induction n with
  | zero => exact ⟨Nat.le_refl _, Nat.le_refl _⟩
  | succ n ih => unfold smr; have := p30 (R n); omega
theorem zer_congr {R S : Nat → Nat} (n : Nat) (h : ∀ i, i < n → R i = S i) : zer R n = zer S n := by
  induction n with
  | zero => rfl
  | succ n ih => unfold zer; rw [h n (by omega), ih (fun i hi => h i (by omega))]
theorem smr_congr {R S : Nat → Nat} (n : Nat) (h : ∀ i, i < n → R i = S i) : smr R n = smr S n := by
  induction n with
  | zero => rfl
  | succ n ih => unfold smr; rw [h n (by omega), ih (fun i hi => h i (by omega))]
theorem abt_congr {R S : Nat → Nat} (h : ∀ i, i < 16 → R i = S i) : abt R = abt S := by unfold abt; rw [zer_congr 16 h, smr_congr 16 h]
theorem zz_shlc : ∀ k, k < 64 → lN 1 <<< ((nI k).toInt64 &&& 63) = lN (2 ^ k) := by decide +kernel
