/-! Class and reference hold the same triples. -/
def prj (T : List Nat) (p : Nat) : List Nat := (T.filter (isp p)).map (· % 65536)
theorem prj_nil (p : Nat) : prj [] p = [] := rfl
theorem prj_cons (C : Nat) (T : List Nat) (p : Nat) : prj (C :: T) p = if isp p C = true then (C % 65536) :: prj T p else prj T p := by
  unfold prj
  by_cases h : isp p C = true
  · rw [if_pos h, List.filter_cons_of_pos h]; rfl
  · rw [if_neg h, List.filter_cons_of_neg h]
theorem prj_app (T S : List Nat) (p : Nat) : prj (T ++ S) p = prj T p ++ prj S p := by unfold prj; rw [List.filter_append, List.map_append]
theorem prj_perm {T S : List Nat} (h : T.Perm S) (p : Nat) : (prj T p).Perm (prj S p) := (h.filter _).map _
def RL (Ls : Nat → List Nat) (T : List Nat) : Prop := ∀ p, p < 8 → (Ls p).Perm (prj T p)
theorem prj_countP (T : List Nat) (p : Nat) (F : Nat → Bool) : (prj T p).countP F = T.countP (fun C => isp p C && F (C % 65536)) := by
  induction T with
  | nil => rfl
  | cons C T ih =>
    rw [prj_cons, List.countP_cons, ← ih]
    cases h : isp p C
    · simp
    · rw [if_pos rfl, List.countP_cons]; simp
theorem ag_cp {Ls : Nat → List Nat} {T : List Nat} (h : RL Ls T) {p : Nat} (hp : p < 8) (F : Nat → Bool) : (Ls p).countP F = T.countP (fun C => isp p C && F (C % 65536)) := by rw [(h p hp).countP_eq F, prj_countP]
theorem ag_len {Ls : Nat → List Nat} {T : List Nat} (h : RL Ls T) {p : Nat} (hp : p < 8) : (Ls p).length = T.countP (isp p) := by
  rw [(h p hp).length_eq]; unfold prj; rw [List.length_map, List.countP_eq_length_filter]
theorem ag_bt {Ls : Nat → List Nat} {T : List Nat} (h : RL Ls T) {p : Nat} (hp : p < 8) (fr to : Int32) : (Ls p).countP (fun c => btw fr to (obj_ c)) = T.countP (fun C => isp p C && btw fr to (C % 256)) := by
  rw [ag_cp h hp]
  refine List.countP_congr (fun C _ => ?_)
  show (isp p C && btw fr to (obj_ (C % 65536))) = true ↔ (isp p C && btw fr to (C % 256)) = true
  have : obj_ (C % 65536) = C % 256 := by unfold obj_; omega
  rw [this]
theorem mem_gd {T : List Nat} {C : Nat} : C ∈ T ↔ ∃ i, i < T.length ∧ T.getD i 0 = C := by
  constructor
  · intro h
    obtain ⟨j, hj, e⟩ := List.getElem_of_mem h
    exact ⟨j, hj, by rw [List.getD_eq_getElem?_getD, List.getElem?_eq_getElem hj]; exact e⟩
  · rintro ⟨j, hj, e⟩
    rw [← e, List.getD_eq_getElem?_getD, List.getElem?_eq_getElem hj]; exact List.getElem_mem hj
theorem mem_prj {T : List Nat} {p c : Nat} : c ∈ prj T p ↔ ∃ C, C ∈ T ∧ C / 65536 = p ∧ C % 65536 = c := by
  unfold prj
  rw [List.mem_map]
  constructor
  · rintro ⟨C, h, e⟩
    obtain ⟨h1, h2⟩ := List.mem_filter.mp h
    exact ⟨C, h1, by unfold isp at h2; simpa using h2, e⟩
  · rintro ⟨C, h1, h2, e⟩
    exact ⟨C, List.mem_filter.mpr ⟨h1, by unfold isp; simpa using h2⟩, e⟩
theorem ag_mem {Ls : Nat → List Nat} {T : List Nat} (h : RL Ls T) {p : Nat} (hp : p < 8) {c : Nat} (hc : c < 65536) : c ∈ Ls p ↔ ∃ j, j < T.length ∧ T.getD j 0 = 65536 * p + c := by
  rw [(h p hp).mem_iff, mem_prj]
  constructor
  · rintro ⟨C, h1, h2, h3⟩
    obtain ⟨j, hj, e⟩ := mem_gd.mp h1
    exact ⟨j, hj, by rw [e]; omega⟩
  · rintro ⟨j, hj, e⟩
    exact ⟨_, mem_gd.mpr ⟨j, hj, rfl⟩, by rw [e]; omega, by rw [e]; omega⟩
theorem any_perm {F : Nat → Bool} {xs ys : List Nat} (h : xs.Perm ys) : xs.any F = ys.any F := by
  rw [Bool.eq_iff_iff, List.any_eq_true, List.any_eq_true]
  exact ⟨fun ⟨x, a, b⟩ => ⟨x, h.mem_iff.mp a, b⟩, fun ⟨x, a, b⟩ => ⟨x, h.mem_iff.mpr a, b⟩⟩
theorem ag_any {Ls : Nat → List Nat} {T : List Nat} (h : RL Ls T) (hb : ∀ C, C ∈ T → C < 524288) {p : Nat} (hp : p < 8) (bo : Bool) (v : Nat) : anyk (if bo = true then sub_ else obj_) (Ls p) v = MA T (2 ^ p) bo v := by
  unfold anyk MA
  rw [any_perm (h p hp), Bool.eq_iff_iff, List.any_eq_true, List.any_eq_true]
  constructor
  · rintro ⟨c, a, b⟩
    obtain ⟨C, h1, h2, h3⟩ := mem_prj.mp a
    refine ⟨C, h1, ?_⟩
    unfold hitb keyb
    rw [h2, bit_pow p hp p hp, Bool.and_eq_true]
    refine ⟨by simp, ?_⟩
    cases bo
    · have b' : obj_ c = v := by simpa using b
      unfold obj_ at b'
      show (C % 256 == v) = true
      rw [beq_iff_eq]; omega
    · have b' : sub_ c = v := by simpa using b
      unfold sub_ at b'
      show (C / 256 % 256 == v) = true
      rw [beq_iff_eq]; omega
  · rintro ⟨C, a, b⟩
    have hC := hb C a
    unfold hitb keyb at b
    rw [bit_pow p hp (C / 65536) (by omega), Bool.and_eq_true, beq_iff_eq] at b
    refine ⟨C % 65536, mem_prj.mpr ⟨C, a, b.1, rfl⟩, ?_⟩
    have b2 := b.2
    cases bo
    · have b' : C % 256 = v := by simpa using b2
      show (obj_ (C % 65536) == v) = true
      unfold obj_; rw [beq_iff_eq]; omega
    · have b' : C / 256 % 256 = v := by simpa using b2
      show (sub_ (C % 65536) == v) = true
      unfold sub_; rw [beq_iff_eq]; omega
theorem anyb_iff (Ls : Nat → List Nat) (b v n : Nat) : anyb Ls b v n = true ↔ ∃ p, p < n ∧ bit_ b p = true ∧ anyk sub_ (Ls p) v = true := by
  induction n with
  | zero => simp [anyb]
  | succ n ih =>
    show (anyb Ls b v n || (bit_ b n && anyk sub_ (Ls n) v)) = true ↔ _
    rw [Bool.or_eq_true, Bool.and_eq_true, ih]
    constructor
    · rintro (⟨p, a, c⟩ | c)
      · exact ⟨p, by omega, c⟩
      · exact ⟨n, by omega, c⟩
    · rintro ⟨p, a, c⟩
      by_cases q : p = n
      · subst q; exact Or.inr c
      · exact Or.inl ⟨p, by omega, c⟩
theorem ag_anyb {Ls : Nat → List Nat} {T : List Nat} (h : RL Ls T) (hb : ∀ C, C ∈ T → C < 524288) (b v : Nat) : anyb Ls b v 8 = MA T b true v := by
  rw [Bool.eq_iff_iff, anyb_iff]
  unfold MA anyk
  constructor
  · rintro ⟨p, hp, hbit, ha⟩
    rw [any_perm (h p hp), List.any_eq_true] at ha
    obtain ⟨c, a, e⟩ := ha
    obtain ⟨C, h1, h2, h3⟩ := mem_prj.mp a
    rw [List.any_eq_true]
    refine ⟨C, h1, ?_⟩
    unfold hitb keyb
    rw [h2, hbit, Bool.true_and, if_pos rfl]
    unfold sub_ at e
    rw [beq_iff_eq] at e ⊢; omega
  · intro ha
    rw [List.any_eq_true] at ha
    obtain ⟨C, a, e⟩ := ha
    have hC := hb C a
    unfold hitb keyb at e
    rw [Bool.and_eq_true, if_pos rfl, beq_iff_eq] at e
    refine ⟨C / 65536, by omega, e.1, ?_⟩
    rw [any_perm (h _ (by omega)), List.any_eq_true]
    refine ⟨C % 65536, mem_prj.mpr ⟨C, a, rfl, rfl⟩, ?_⟩
    unfold sub_
    rw [beq_iff_eq]; omega
/-- sums -/
theorem sumf_cons (F : Nat → Nat) (x : Nat) (xs : List Nat) : sumf F (x :: xs) = F x + sumf F xs := by unfold sumf; simp
theorem sumf_perm (F : Nat → Nat) {xs ys : List Nat} (h : xs.Perm ys) : sumf F xs = sumf F ys := by
  induction h with
  | nil => rfl
  | cons x _ ih => rw [sumf_cons, sumf_cons, ih]
  | swap x y l => rw [sumf_cons, sumf_cons, sumf_cons, sumf_cons]; omega
  | trans _ _ a b => rw [a, b]
theorem sumf_congr {F G : Nat → Nat} {xs : List Nat} (h : ∀ x, x ∈ xs → F x = G x) : sumf F xs = sumf G xs := by
  induction xs with
  | nil => rfl
  | cons x xs ih => rw [sumf_cons, sumf_cons, h x List.mem_cons_self, ih (fun y hy => h y (List.mem_cons_of_mem _ hy))]
theorem sumf_prj (G : Nat → Nat) (T : List Nat) (p : Nat) : sumf (fun C => if C / 65536 = p then G (C % 65536) else 0) T = sumf G (prj T p) := by
  induction T with
  | nil => rfl
  | cons C T ih =>
    rw [sumf_cons, ih, prj_cons]
    by_cases h : C / 65536 = p
    · rw [if_pos h, if_pos (by unfold isp; simpa using h), sumf_cons]
    · rw [if_neg h, if_neg (by unfold isp; simpa using h)]; omega
theorem sum_cp (h : Nat → Nat → Bool) (d : Nat) (ys : List Nat) (F : Nat → Nat) : sumf (fun c => (h d c).toNat + F c) ys = ys.countP (h d) + sumf F ys := by
  induction ys with
  | nil => rfl
  | cons y ys ih => rw [sumf_cons, sumf_cons, ih, List.countP_cons]; cases h d y <;> simp <;> omega
theorem sum_swap (h : Nat → Nat → Bool) (xs ys : List Nat) : sumf (fun c => xs.countP (fun d => h d c)) ys = sumf (fun d => ys.countP (h d)) xs := by
  induction xs with
  | nil =>
    show sumf (fun _ => 0) ys = 0
    induction ys with
    | nil => rfl
    | cons y ys ih => rw [sumf_cons, ih]
  | cons x xs ih =>
    rw [sumf_cons, ← ih, ← sum_cp]
    refine sumf_congr (fun c _ => ?_)
    rw [List.countP_cons]; cases h x c <;> simp
    omega
def hh (fl bo : Bool) (d c : Nat) : Bool := sub_ c == (if bo = true then obj_ d else sub_ d) && (!fl || (smp d && smp c))
theorem okf_and (fl : Bool) (c d : Nat) : (okf fl c && okf fl d) = (!fl || (smp d && smp c)) := by
  unfold okf; cases fl <;> cases smp c <;> cases smp d <;> rfl
theorem ag_chn {Ls : Nat → List Nat} {T : List Nat} (h : RL Ls T) {p q : Nat} (hp : p < 8) (hq : q < 8) (bo fl : Bool) : chn fl (if bo = true then obj_ else sub_) (Ls p) (Ls q) = sumf (prs T p q bo fl) T := by
  have e1 : chn fl (if bo = true then obj_ else sub_) (Ls p) (Ls q) = sumf (fun c => (prj T p).countP (fun d => hh fl bo d c)) (prj T q) := by
    unfold chn
    rw [sumf_perm _ (h q hq)]
    refine sumf_congr (fun c _ => ?_)
    rw [(h p hp).countP_eq]
    have key : ∀ d, (okf fl c && (okf fl d && (if bo = true then obj_ else sub_) d == sub_ c)) = hh fl bo d c := by
      intro d
      unfold hh
      rw [← Bool.and_assoc, okf_and, Bool.and_comm]
      congr 1
      cases bo
      · simp; rw [Bool.eq_iff_iff, beq_iff_eq, beq_iff_eq]; exact ⟨fun e => e.symm, fun e => e.symm⟩
      · simp; rw [Bool.eq_iff_iff, beq_iff_eq, beq_iff_eq]; exact ⟨fun e => e.symm, fun e => e.symm⟩
    by_cases hc : okf fl c = true
    · rw [if_pos hc, Nat.zero_add]
      refine List.countP_congr (fun d _ => ?_)
      rw [← key d, hc, Bool.true_and]
    · rw [if_neg hc]
      symm
      rw [List.countP_eq_zero]
      intro d _
      rw [← key d]
      have : okf fl c = false := by simpa using hc
      rw [this]; simp
  have e2 : sumf (prs T p q bo fl) T = sumf (fun d => (prj T q).countP (hh fl bo d)) (prj T p) := by
    rw [← sumf_prj]
    refine sumf_congr (fun C _ => ?_)
    unfold prs
    by_cases hC : C / 65536 = p
    · rw [if_pos hC, if_pos hC, prj_countP]
      refine List.countP_congr (fun E _ => ?_)
      have : inn q bo fl C E = (isp q E && hh fl bo (C % 65536) (E % 65536)) := by
        rw [inn_eq]
        unfold isp hh sub_ obj_ byk
        rw [Bool.and_assoc]
        congr 2
        cases bo
        · simp only [Bool.false_eq_true, if_false]; rw [Bool.eq_iff_iff, beq_iff_eq, beq_iff_eq]; omega
        · simp only [if_true]; rw [Bool.eq_iff_iff, beq_iff_eq, beq_iff_eq]; omega
      rw [this]
    · rw [if_neg hC, if_neg hC]
  rw [e1, e2, sum_swap]
theorem ag_cbt {Ls : Nat → List Nat} {T : List Nat} (h : RL Ls T) {p : Nat} (hp : p < 8) {o : Nat} (ho : o < 256) : clt (Ls p) (o + 1) = cbt T p o := by
  unfold clt cbt
  rw [ag_cp h hp]
  refine List.countP_congr (fun C _ => ?_)
  have : decide (obj_ (C % 65536) < o + 1) = btw (nI 0) (nI o) (C % 256) := by
    unfold btw obj_
    rw [Bool.eq_iff_iff, decide_eq_true_eq, decide_eq_true_eq, nI_ltI (by omega) (by omega), nI_ltI (by omega) (by omega)]
    omega
  show (isp p C && decide (obj_ (C % 65536) < o + 1)) = true ↔ _
  rw [this]
/-- registers -/
theorem foldmax (xs : List Nat) : ∀ a, xs.foldl max a = max a (xs.foldl max 0) := by
  induction xs with
  | nil => intro a; simp
  | cons x xs ih => intro a; rw [List.foldl_cons, List.foldl_cons, ih (max a x), ih (max 0 x)]; omega
theorem mxf_cons (F : Nat → Nat) (x : Nat) (xs : List Nat) : mxf F (x :: xs) = max (F x) (mxf F xs) := by
  unfold mxf; rw [List.map_cons, List.foldl_cons, foldmax]; omega
theorem mxf_ge {F : Nat → Nat} {xs : List Nat} {x : Nat} (h : x ∈ xs) : F x ≤ mxf F xs := by
  induction xs with
  | nil => cases h
  | cons y ys ih =>
    rw [mxf_cons]
    rcases List.mem_cons.mp h with e | e
    · rw [e]; omega
    · have := ih e; omega
theorem mxf_ach (F : Nat → Nat) (xs : List Nat) : mxf F xs = 0 ∨ ∃ x, x ∈ xs ∧ F x = mxf F xs := by
  induction xs with
  | nil => exact Or.inl rfl
  | cons y ys ih =>
    rw [mxf_cons]
    by_cases q : mxf F ys ≤ F y
    · right; exact ⟨y, List.mem_cons_self, by omega⟩
    · rcases ih with e | ⟨x, a, b⟩
      · omega
      · right; exact ⟨x, List.mem_cons_of_mem _ a, by omega⟩
theorem rkf_ge {pr : Nat → Bool} {i v n : Nat} (hv : v < n) (h1 : pr v = true) (h2 : hix (hsh (nI v)) = i) : rnk (hsh (nI v)) ≤ rkf pr i n := by
  induction n with
  | zero => exact absurd hv (Nat.not_lt_zero _)
  | succ n ih =>
    rw [rkf_s]
    by_cases q : v = n
    · subst q; rw [if_pos ⟨h1, h2⟩]; omega
    · have := ih (by omega)
      split <;> omega
theorem rkf_ach (pr : Nat → Bool) (i n : Nat) : rkf pr i n = 0 ∨ ∃ v, v < n ∧ pr v = true ∧ hix (hsh (nI v)) = i ∧ rnk (hsh (nI v)) = rkf pr i n := by
  induction n with
  | zero => exact Or.inl rfl
  | succ n ih =>
    rw [rkf_s]
    by_cases q : pr n = true ∧ hix (hsh (nI n)) = i
    · rw [if_pos q]
      by_cases q2 : rkf pr i n ≤ rnk (hsh (nI n))
      · right; exact ⟨n, by omega, q.1, q.2, by omega⟩
      · rcases ih with e | ⟨v, a, b, c, d⟩
        · omega
        · right; exact ⟨v, by omega, b, c, by omega⟩
    · rw [if_neg q]
      rcases ih with e | ⟨v, a, b, c, d⟩
      · exact Or.inl e
      · right; exact ⟨v, by omega, b, c, d⟩
theorem ag_reg {Ls : Nat → List Nat} {T : List Nat} (h : RL Ls T) (hb : ∀ C, C ∈ T → C < 524288) (b i : Nat) : rkf (fun v => anyb Ls b v 8) i 256 = mxf (rgf b i) T := by
  have hit : ∀ v, (anyb Ls b v 8 = true) ↔ ∃ C, C ∈ T ∧ bit_ b (C / 65536) = true ∧ C / 256 % 256 = v := by
    intro v
    rw [ag_anyb h hb]
    unfold MA
    rw [List.any_eq_true]
    unfold hitb keyb
    constructor
    · rintro ⟨C, a, e⟩
      rw [if_pos rfl, Bool.and_eq_true, beq_iff_eq] at e
      exact ⟨C, a, e.1, e.2⟩
    · rintro ⟨C, a, e1, e2⟩
      exact ⟨C, a, by rw [if_pos rfl, e1, e2]; simp⟩
  apply Nat.le_antisymm
  · rcases rkf_ach (fun v => anyb Ls b v 8) i 256 with e | ⟨v, hv, a, c, d⟩
    · omega
    · obtain ⟨C, h1, h2, h3⟩ := (hit v).mp a
      have hg := mxf_ge (F := rgf b i) h1
      have : rgf b i C = rnk (hsh (nI v)) := by unfold rgf; rw [h3, if_pos ⟨h2, c⟩]
      omega
  · rcases mxf_ach (rgf b i) T with e | ⟨C, hC, e⟩
    · omega
    · by_cases q : bit_ b (C / 65536) = true ∧ hix (hsh (nI (C / 256 % 256))) = i
      · have : rgf b i C = rnk (hsh (nI (C / 256 % 256))) := by unfold rgf; rw [if_pos q]
        have hg := rkf_ge (pr := fun v => anyb Ls b v 8) (i := i) (v := C / 256 % 256) (n := 256) (by omega) ((hit _).mpr ⟨C, hC, q.1, rfl⟩) q.2
        omega
      · have : rgf b i C = 0 := by unfold rgf; rw [if_neg q]
        omega
theorem ag_rng {Ls : Nat → List Nat} {T : List Nat} (h : RL Ls T) {p : Nat} (hp : p < 8) (fr to : Int32) (n : Nat) : rgs (Ls p) fr to n = mrg T p fr to n := by
  induction n with
  | zero => rfl
  | succ n ih => rw [rgs_s, mrg_s, ih, ag_bt h hp]
theorem ag_off {Ls : Nat → List Nat} {T : List Nat} (h : RL Ls T) (n : Nat) (hn : n ≤ 8) : tr_off Ls n = T.countP (fun C => decide (C / 65536 < n)) := by
  induction n with
  | zero => symm; show List.countP _ T = 0; rw [List.countP_eq_zero]; intro C _; simp
  | succ n ih =>
    rw [tr_next, ih (by omega), ag_len h (by omega)]
    clear ih
    induction T with
    | nil => rfl
    | cons C T ih2 =>
      have ih3 : List.countP (fun C => decide (C / 65536 < n)) T + List.countP (isp n) T = List.countP (fun C => decide (C / 65536 < n + 1)) T := by
        clear ih2 h
        induction T with
        | nil => rfl
        | cons D T ih4 =>
          rw [List.countP_cons, List.countP_cons, List.countP_cons, ← ih4]
          unfold isp
          by_cases q1 : D / 65536 < n
          · rw [if_pos (by simpa using q1), if_neg (by simp; omega), if_pos (by simp; omega)]; omega
          · by_cases q2 : D / 65536 = n
            · rw [if_neg (by simpa using q1), if_pos (by simpa using q2), if_pos (by simp; omega)]; omega
            · rw [if_neg (by simpa using q1), if_neg (by simpa using q2), if_neg (by simp; omega)]; omega
      rw [List.countP_cons, List.countP_cons, List.countP_cons, ← ih3]
      unfold isp
      by_cases q1 : C / 65536 < n
      · rw [if_pos (by simpa using q1), if_neg (by simp; omega), if_pos (by simp; omega)]; omega
      · by_cases q2 : C / 65536 = n
        · rw [if_neg (by simpa using q1), if_pos (by simpa using q2), if_pos (by simp; omega)]; omega
        · rw [if_neg (by simpa using q1), if_neg (by simpa using q2), if_neg (by simp; omega)]; omega
theorem ag_tot {Ls : Nat → List Nat} {T : List Nat} (h : RL Ls T) (hb : ∀ C, C ∈ T → C < 524288) : tr_off Ls 8 = T.length := by
  rw [ag_off h 8 (Nat.le_refl _), List.countP_eq_length]
  intro C hC; have := hb C hC; simp; omega
