theorem split_cp (T : List Nat) (n : Nat) (H H' : Nat → Bool) (hh : ∀ C, C / 65536 = n → H' C = H C) : T.countP (fun C => decide (C / 65536 < n) && H C) + T.countP (fun C => isp n C && H' C) = T.countP (fun C => decide (C / 65536 < n + 1) && H C) := by
  induction T with
  | nil => rfl
  | cons C T ih =>
    rw [List.countP_cons, List.countP_cons, List.countP_cons, ← ih]
    unfold isp
    by_cases q1 : C / 65536 < n
    · have a : decide (C / 65536 < n) = true := decide_eq_true q1
      have b : decide (C / 65536 < n + 1) = true := decide_eq_true (by omega)
      have c : (C / 65536 == n) = false := by simp; omega
      rw [a, b, c]; cases H C <;> simp <;> omega
    · by_cases q2 : C / 65536 = n
      · have a : decide (C / 65536 < n) = false := decide_eq_false q1
        have b : decide (C / 65536 < n + 1) = true := decide_eq_true (by omega)
        have c : (C / 65536 == n) = true := by simpa using q2
        rw [a, b, c, hh C q2]; cases H C <;> simp; omega
      · have a : decide (C / 65536 < n) = false := decide_eq_false q1
        have b : decide (C / 65536 < n + 1) = false := decide_eq_false (by omega)
        have c : (C / 65536 == n) = false := by simpa using q2
        rw [a, b, c]; simp
theorem ag_mts {Ls : Nat → List Nat} {T : List Nat} (h : RL Ls T) (G : Nat → Nat → Bool) (n : Nat) (hn : n ≤ 8) : mts Ls G n = T.countP (fun C => decide (C / 65536 < n) && G (C / 65536) (C % 65536)) := by
  induction n with
  | zero => symm; show List.countP _ T = 0; rw [List.countP_eq_zero]; intro C _; simp
  | succ n ih =>
    rw [mts_s, ih (by omega), ag_cp h (by omega)]
    exact split_cp T n (fun C => G (C / 65536) (C % 65536)) (fun C => G n (C % 65536)) (fun C e => by rw [e])
def okp (x : Int32) : Prop := x = -1 ∨ ¬ x < 0
theorem ag_pal {x : Int32} (h : okp x) (y : Int32) : pal x y = mfit x y := by
  unfold pal mfit
  rw [Bool.eq_iff_iff, decide_eq_true_eq, decide_eq_true_eq]
  rcases h with h | h
  · subst h; exact ⟨fun _ => Or.inl (by decide), fun _ => Or.inl rfl⟩
  · constructor
    · rintro (e | e)
      · exfalso; rw [e] at h; exact h (by decide)
      · exact Or.inr e
    · rintro (e | e)
      · exact absurd e h
      · exact Or.inr e
theorem ag_mat {Ls : Nat → List Nat} {T : List Nat} (h : RL Ls T) (hb : ∀ C, C ∈ T → C < 524288) {a b d : Int32} (ha : okp a) (hb2 : okp b) (hd : okp d) : mts Ls (gow a b d) 8 = T.countP (mgo a b d) := by
  rw [ag_mts h _ 8 (Nat.le_refl _)]
  refine List.countP_congr (fun C hC => ?_)
  have := hb C hC
  rw [decide_eq_true (show C / 65536 < 8 by omega), Bool.true_and]
  unfold gow mgo
  rw [ag_pal ha, ag_pal hb2, ag_pal hd]
  unfold sub_ obj_
  rw [show C % 65536 / 256 = C / 256 % 256 by omega, show C % 65536 % 256 = C % 256 by omega]
theorem idx_pw {xs : List Nat} : (∀ i j, i < j → j < xs.length → xs.getD i 0 < xs.getD j 0) ↔ xs.Pairwise (· < ·) := by
  rw [List.pairwise_iff_getElem]
  constructor
  · intro h i j hi hj hij
    have := h i j hij hj
    rw [List.getD_eq_getElem?_getD, List.getD_eq_getElem?_getD, List.getElem?_eq_getElem hi, List.getElem?_eq_getElem hj] at this
    exact this
  · intro h i j hij hj
    rw [List.getD_eq_getElem?_getD, List.getD_eq_getElem?_getD, List.getElem?_eq_getElem (show i < xs.length by omega), List.getElem?_eq_getElem hj]
    exact h i j (by omega) hj hij
theorem ss_sorted {Ls : Nat → List Nat} {f g : Nat → Int32} (hT : RT Ls f g) : ∀ p, p < 8 → ∀ i j, i < j → j < ((Ls p).filter smp).length → ((Ls p).filter smp).getD i 0 < ((Ls p).filter smp).getD j 0 := fun p hp => idx_pw.mpr ((idx_pw.mp (hT.2.2.2.2 p hp)).filter smp)
theorem ss_mem {Ls : Nat → List Nat} {T : List Nat} (h : RL Ls T) : ∀ p, p < 8 → ∀ c, c ∈ (Ls p).filter smp ↔ ∃ i, i < T.length ∧ T.getD i 0 / 65536 = p ∧ T.getD i 0 % 65536 = c ∧ smp c = true := by
  intro p hp c
  rw [List.mem_filter, (h p hp).mem_iff, mem_prj]
  constructor
  · rintro ⟨⟨C, a, b, e⟩, s⟩
    obtain ⟨i, hi, ei⟩ := mem_gd.mp a
    exact ⟨i, hi, by rw [ei]; exact b, by rw [ei]; exact e, s⟩
  · rintro ⟨i, hi, a, b, s⟩
    exact ⟨⟨_, mem_gd.mpr ⟨i, hi, rfl⟩, a, b⟩, s⟩
theorem ss_len {Ls : Nat → List Nat} {f g : Nat → Int32} (hT : RT Ls f g) : ∀ p, p < 8 → ((Ls p).filter smp).length ≤ 400 := fun p hp => by
  have h1 := tr_top (Ls := Ls) hp
  have h2 := hT.2.2.1
  have h3 : ((Ls p).filter smp).length ≤ (Ls p).length := List.length_filter_le _ _
  omega
/-- a triple comes, a triple goes -/
theorem RL_ins {Ls : Nat → List Nat} {T : List Nat} (h : RL Ls T) {p c k : Nat} (hc : c < 65536) (hk : k ≤ (Ls p).length) : RL (tr_ins Ls p k c) (T ++ [65536 * p + c]) := by
  intro q hq
  rw [prj_app, prj_cons, prj_nil]
  by_cases e : q = p
  · subst e
    rw [if_pos (by unfold isp; simp; omega), show (65536 * q + c) % 65536 = c by omega]
    unfold tr_ins
    rw [if_pos rfl]
    refine List.perm_middle.trans ?_
    rw [List.take_append_drop]
    exact ((h q hq).cons c).trans (List.perm_append_singleton c _).symm
  · rw [if_neg (by unfold isp; simp; omega), List.append_nil]
    unfold tr_ins
    rw [if_neg e]; exact h q hq
theorem set_perm (x : Nat) : ∀ (D : List Nat) (j : Nat), j < D.length → (D.set j x).Perm (x :: D.eraseIdx j) := by
  intro D
  induction D with
  | nil => intro j h; exact absurd h (Nat.not_lt_zero _)
  | cons d D ih =>
    intro j h
    cases j with
    | zero => exact List.Perm.refl _
    | succ j =>
      show (d :: D.set j x).Perm (x :: d :: D.eraseIdx j)
      exact ((ih j (by simpa using h)).cons d).trans (List.Perm.swap x d _)
theorem tdel_perm {T : List Nat} {j : Nat} (hj : j < T.length) : T.Perm (T.getD j 0 :: tdel T j) := by
  have h1 : (T.set j (T.getD j 0)).Perm (T.getD j 0 :: T.eraseIdx j) := set_perm _ T j hj
  have e1 : T.set j (T.getD j 0) = T := by
    rw [List.getD_eq_getElem?_getD, List.getElem?_eq_getElem hj]; exact List.set_getElem_self hj
  rw [e1] at h1
  refine h1.trans (List.Perm.cons _ ?_)
  have h2 : (T.set j (T.getD (T.length - 1) 0)).Perm (T.getD (T.length - 1) 0 :: T.eraseIdx j) := set_perm _ T j hj
  have hl : (T.set j (T.getD (T.length - 1) 0)).length = T.length := List.length_set
  have e2 : T.set j (T.getD (T.length - 1) 0) = tdel T j ++ [T.getD (T.length - 1) 0] := by
    have h3 := tk1 (T.set j (T.getD (T.length - 1) 0)) (T.length - 1) 0 (by omega)
    rw [List.take_of_length_le (by omega)] at h3
    have h4 : (T.set j (T.getD (T.length - 1) 0)).getD (T.length - 1) 0 = T.getD (T.length - 1) 0 := by
      simp only [List.getD_eq_getElem?_getD]
      rw [List.getElem?_set]
      by_cases q : j = T.length - 1
      · rw [if_pos q, if_pos hj]; rfl
      · rw [if_neg q]
    rw [h4] at h3
    exact h3
  rw [e2] at h2
  exact ((List.perm_append_singleton _ _).symm.trans h2).cons_inv.symm
theorem RL_del {Ls : Nat → List Nat} {T : List Nat} (h : RL Ls T) {p c k j : Nat} (hc : c < 65536) (hk : k < (Ls p).length) (ek : (Ls p).getD k 0 = c) (hj : j < T.length) (ej : T.getD j 0 = 65536 * p + c) : RL (tr_del Ls p k) (tdel T j) := by
  intro q hq
  have hp := prj_perm (tdel_perm hj) q
  rw [ej, prj_cons] at hp
  by_cases e : q = p
  · subst e
    rw [if_pos (by unfold isp; simp; omega), show (65536 * q + c) % 65536 = c by omega] at hp
    unfold tr_del
    rw [if_pos rfl]
    have e1 : Ls q = (Ls q).take k ++ c :: (Ls q).drop (k + 1) := by
      have := List.take_append_drop (k + 1) (Ls q)
      rw [tk1 (Ls q) k 0 hk, ek, List.append_assoc] at this
      exact this.symm
    have h1 : (Ls q).Perm (c :: ((Ls q).take k ++ (Ls q).drop (k + 1))) := (List.Perm.of_eq e1).trans List.perm_middle
    exact (h1.symm.trans ((h q hq).trans hp)).cons_inv
  · rw [if_neg (by unfold isp; simp; omega)] at hp
    unfold tr_del
    rw [if_neg e]; exact (h q hq).trans hp
def LI (it : Nat) (f g : Nat → Int32) (Ls : Nat → List Nat) (fs fp fo : Nat → Int32) (n : Nat) (z : Nat → Int32) (k e : Nat) (su pd ob : Nat → Int32) (T : List Nat) (ak cn : Nat → Int32) : Prop :=
  RT Ls f g ∧ RM T su pd ob ∧ RL Ls T ∧ n ≤ 30 ∧ (∀ i, i < n → ak (3 * i) = fs i ∧ ak (3 * i + 1) = fp i ∧ ak (3 * i + 2) = fo i) ∧ (∀ i, i < n → okp (fs i) ∧ okp (fp i) ∧ okp (fo i)) ∧ k ≤ e ∧ e ≤ k + 40 ∧ e ≤ it ∧ (∀ j, j < 320 → z j = cn j)
theorem RM_bd {T : List Nat} {su pd ob : Nat → Int32} (h : RM T su pd ob) : ∀ C, C ∈ T → C < 524288 := fun C hC => by
  obtain ⟨i, hi, e⟩ := mem_gd.mp hC
  rw [← e]; exact h.2.2.1 i hi
theorem nb1 {x : Int32} {a N : Nat} (hN : N < 2 ^ 31) (h : inr_ N x = false) (ha : a < N) (e : x = nI a) : False := by
  rw [e, inr_n hN ha] at h; cases h
theorem nb2 {x y : Int32} {a b N M : Nat} (hN : N < 2 ^ 31) (hM : M < 2 ^ 31) (h : (inr_ N x && inr_ M y) = false) (ha : a < N) (hb : b < M) (e : x = nI a) (e2 : y = nI b) : False := by
  rw [e, e2, inr_n hN ha, inr_n hM hb] at h; cases h
theorem nb3 {x y w : Int32} {a b d : Nat} (h : (inr_ 256 x && inr_ 8 y && inr_ 256 w) = false) (ha : a < 256) (hb : b < 8) (hd : d < 256) (e : x = nI a) (e2 : y = nI b) (e3 : w = nI d) : False := by
  rw [e, e2, e3, inr_n (by decide) ha, inr_n (by decide) hb, inr_n (by decide) hd] at h; cases h
theorem ij {x : Int32} {a b : Nat} (ha : a < 2 ^ 31) (hb : b < 2 ^ 31) (e : x = nI a) (e2 : x = nI b) : a = b := (nI_eq ha hb).mp (e.symm.trans e2)
theorem zs {x : Int32} {a N : Nat} (hN : N < 2 ^ 31) (ha : a < N) (e : x = nI a) : ¬ x < 0 ∧ ¬ nI N ≤ x := by
  rw [e]; exact ⟨nI_pos (by omega), nI_ge ha hN⟩
