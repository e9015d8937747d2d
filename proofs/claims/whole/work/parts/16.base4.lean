/-! The static table of the register row. -/
theorem few_lt (z : Nat) : few z ≤ 44 := by
  unfold few
  rcases Nat.lt_or_ge z 17 with h | h
  · have : ∀ z, z < 17 → [0, 44, 33, 26, 22, 18, 15, 13, 11, 9, 7, 5, 4, 3, 2, 1, 0].getD z 0 ≤ 44 := by decide
    exact this z h
  · rw [List.getD_eq_getElem?_getD, List.getElem?_eq_none (by simpa using h)]; decide
def ZT (A : Nat → Prop) (U : State) (H : Heap) : Prop := ∃ t : Nat, va_Z "StatRows$RegisterRow" "ABOUT_BY_ZEROS" "[I" (.ref t) A U H ∧ va_T .int t 17 (fun j => .int (nI (few j))) A U H
theorem ZT.moved {A : Nat → Prop} {u U : State} {H : Heap} (hvm : u.vm.Alike U.vm) (h : ZT A u H) : ZT A U H := by
  obtain ⟨t, a, b⟩ := h; exact ⟨t, a.moved hvm, b.moved hvm⟩
theorem ZT.kept {A : Nat → Prop} {U : State} {H H1 : Heap} (h : ZT A U H) (hq : ∀ a : Nat, a < H.size → ¬ A a → H1[a]? = H[a]?) : ZT A U H1 := by
  obtain ⟨t, a, b⟩ := h; exact ⟨t, a.kept hq, b.kept hq⟩
theorem ZT.narrow {A B : Nat → Prop} {U : State} {H : Heap} (h : ZT A U H) (hAB : ∀ q, B q → A q) : ZT B U H := by
  obtain ⟨t, a, b⟩ := h; exact ⟨t, a.narrow hAB, b.narrow hAB⟩
def zz_RZ (D : va_G) (cl : List vw_C) (tys : List (ClassId × FieldType)) (av : List Value) (w : va_W) : Array Value → State → Prop := fun v U => zz_R D cl tys av w v U ∧ ZT (fun _ => False) U U.heap
def zz_PZ (D : va_G) (cl : List vw_C) (tys : List (ClassId × FieldType)) (av : List Value) (w : va_W) (sz : Nat) : Array Value → State → Prop := fun v U => zz_P D cl tys av w sz v U ∧ ZT (va_A w sz) U U.heap
theorem zz_RZ_V {s : State} {H : Heap} {D : va_G} {cl : List vw_C} {tys : List (ClassId × FieldType)} {b : Addr} {As : List Value} {w : va_W} (hZ : ZT (fun _ => False) s H) (hN : NW s) (hK : va_K D cl tys s) (hP : va_P D cl w H) (ci q0 : Nat) {C : String} {T : u_T} {N : Nat} {fs : List Value} (hc : cl[ci]? = some (C, T, N)) (he : w[q0]? = some (b, .inr (ci, fs))) : PreV s H C b (zz_RZ D cl tys (.ref b :: As) w) As :=
  ⟨fun a U g mk q => ⟨zz_R_blind a U g mk q.1, ZT.moved (u := U) (U := U.calling g mk a) (Vm.Alike.refl U.vm) q.2⟩, va_recv hK hP hc he, fun U hU hW => ⟨⟨rfl, by rw [hU]; exact hP, va_K.moved hW.alike hK, hN.warm hW⟩, by rw [hU]; exact hZ.moved hW.alike⟩⟩
theorem zz_PZ_V {s : State} {H : Heap} {D : va_G} {cl : List vw_C} {tys : List (ClassId × FieldType)} {A : Nat → Prop} {b : Addr} {As : List Value} {w : va_W} (hZ : ZT (va_A w H.size) s H) (hN : NW s) (hK : va_K D cl tys s) (hP : va_P D cl w H) (hD : va_D A w) (ci q0 : Nat) {C : String} {T : u_T} {N : Nat} {fs : List Value} (hc : cl[ci]? = some (C, T, N)) (he : w[q0]? = some (b, .inr (ci, fs))) : PreV s H C b (zz_PZ D cl tys (.ref b :: As) w H.size) As :=
  ⟨fun a U g mk q => ⟨zz_P_blind a U g mk q.1, ZT.moved (u := U) (U := U.calling g mk a) (Vm.Alike.refl U.vm) q.2⟩, va_recv hK hP hc he, fun U hU hW => ⟨⟨rfl, by rw [hU], by rw [hU]; exact hP, va_K.moved hW.alike hK, hD.weaken (fun _ _ _ _ => trivial), hN.warm hW⟩, by rw [hU]; exact hZ.moved hW.alike⟩⟩
/-! Counting. -/
def inr_ (n : Nat) (x : Int32) : Bool := decide (¬ x < 0 ∧ ¬ nI n ≤ x)
theorem inr_t {n : Nat} {x : Int32} (hn : n < 2 ^ 31) (h : inr_ n x = true) : ∃ j, j < n ∧ x = nI j := by
  have h := of_decide_eq_true h
  exact zz_in hn h.1 h.2
theorem inr_n {n j : Nat} (hn : n < 2 ^ 31) (h : j < n) : inr_ n (nI j) = true := decide_eq_true ⟨nI_pos (by omega), nI_ge h hn⟩
theorem tk1 {α : Type} (xs : List α) (i : Nat) (d : α) (h : i < xs.length) : xs.take (i + 1) = xs.take i ++ [xs.getD i d] := by
  rw [List.take_succ_eq_append_getElem h, List.getD_eq_getElem?_getD, List.getElem?_eq_getElem h]; rfl
theorem tkl {α : Type} (xs : List α) (i : Nat) (h : xs.length ≤ i) : xs.take i = xs := List.take_of_length_le h
def cnt (pr : Nat → Bool) : Nat → Nat
  | 0 => 0
  | n + 1 => cnt pr n + (pr n).toNat
theorem cnt_s (pr : Nat → Bool) (n : Nat) : cnt pr (n + 1) = cnt pr n + (pr n).toNat := rfl
theorem cnt_le (pr : Nat → Bool) (n : Nat) : cnt pr n ≤ n := by
  induction n with
  | zero => exact Nat.le_refl _
  | succ n ih => rw [cnt_s]; have := btl (pr n); omega
theorem cnt_congr {p q : Nat → Bool} (n : Nat) (h : ∀ i, i < n → p i = q i) : cnt p n = cnt q n := by
  induction n with
  | zero => rfl
  | succ n ih => rw [cnt_s, cnt_s, h n (by omega), ih (fun i hi => h i (by omega))]
theorem cp1 (p : Nat → Bool) (xs : List Nat) (x : Nat) : (xs ++ [x]).countP p = xs.countP p + (p x).toNat := by
  rw [List.countP_append]
  cases h : p x <;> simp [h]
theorem cpl (p : Nat → Bool) (xs : List Nat) : xs.countP p ≤ xs.length := List.countP_le_length
/-- some element has the key v -/
def anyk (key : Nat → Nat) (xs : List Nat) (v : Nat) : Bool := xs.any (fun c => key c == v)
theorem anyk_pos (key : Nat → Nat) (xs : List Nat) (v : Nat) : decide (0 < xs.countP (fun c => key c == v)) = anyk key xs v := by
  unfold anyk
  rw [Bool.eq_iff_iff]
  simp [List.countP_pos_iff]
def sub_ (c : Nat) : Nat := c / 256
def obj_ (c : Nat) : Nat := c % 256
/-- tallies of several rows -/
def bit_ (b p : Nat) : Bool := b / 2 ^ p % 2 == 1
def tsm (Ls : Nat → List Nat) (b v : Nat) : Nat → Nat
  | 0 => 0
  | p + 1 => tsm Ls b v p + if bit_ b p = true then (Ls p).countP (fun c => sub_ c == v) else 0
theorem tsm_s (Ls : Nat → List Nat) (b v p : Nat) : tsm Ls b v (p + 1) = tsm Ls b v p + if bit_ b p = true then (Ls p).countP (fun c => sub_ c == v) else 0 := rfl
theorem tsm_le (Ls : Nat → List Nat) (b v p : Nat) : tsm Ls b v p ≤ tr_off Ls p := by
  induction p with
  | zero => exact Nat.le_refl _
  | succ p ih => rw [tsm_s, tr_next]; split; have := cpl (fun c => sub_ c == v) (Ls p); omega; omega
def anyb (Ls : Nat → List Nat) (b v : Nat) : Nat → Bool
  | 0 => false
  | p + 1 => anyb Ls b v p || (bit_ b p && anyk sub_ (Ls p) v)
theorem tsm_pos (Ls : Nat → List Nat) (b v p : Nat) : decide (0 < tsm Ls b v p) = anyb Ls b v p := by
  induction p with
  | zero => rfl
  | succ p ih =>
    show _ = (anyb Ls b v p || (bit_ b p && anyk sub_ (Ls p) v))
    rw [tsm_s, ← ih, ← anyk_pos]
    cases h : bit_ b p
    · simp
    · rw [if_pos rfl, Bool.eq_iff_iff]; simp only [Bool.or_eq_true, Bool.true_and, decide_eq_true_eq]; omega
