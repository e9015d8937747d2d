abbrev rm_JA_fill : Room := { frames := 0, cells := 0, slots := 0, locals := 0 }
set_option maxHeartbeats 4000000 in
set_option maxRecDepth 100000 in
theorem c_JA_fill (l : Launch) (D : va_G) (cI cB : ClassId) (sz : Nat) (q0 n : Nat) (f : Nat → Int32) (x : Int32) (hn : n < 2 ^ 31) : Met l yJA_fill wJA_fill rm_JA_fill (zz_P D vwCl [(cI, .int), (cB, .boolean)] [.ref q0, .int x] [(q0, .inl (cI, n, .inl f))] sz) (va_Qv (fun u : (Nat → Int32) => ∀ j, j < n → u j = x) (fun u : (Nat → Int32) => zz_B D vwCl [(cI, .int), (cB, .boolean)] (va_A [(q0, .inl (cI, n, .inl f))] sz) [(q0, .inl (cI, n, .inl u))]) (va_A [(q0, .inl (cI, n, .inl f))] sz)) 0 0 (va_A [(q0, .inl (cI, n, .inl f))] sz) := by
  refine Met.ofW (cc := cJA_fill) (maxL := 4) (ret := none) (by decide) rfl ?_
  intro pg ev s mt args below meth kd s₁ B hml hv
  obtain ⟨rfl, hsz, hP, hK, hD0, hN⟩ := hv
  have hx := B.exec
  have hb := B.bytes
  have hr := B.returns
  have ht : ∀ w ∈ W0, w.before _ s = true := fun w h => atoms_spec (ws := wJA_fill) B.pre w (List.mem_cons_of_mem _ h)
  have hown : s.vm.findClass "java/util/Arrays" = some mt.cls := findClass_of_methodNamed B.named
  have hlocks := B.notSynchronized
  subst hsz
  have hD := hD0.self (sz := s.heap.size)
  generalize hAe : va_A [(q0, .inl (cI, n, .inl f))] s.heap.size = A at hD ⊢
  have hA : ∀ q : Nat, s.heap.size ≤ q → A q := fun q h => by rw [← hAe]; exact Or.inr h
  have hS : va_S A s.heap s.heap [] := va_S.rf
  have hP : va_P D vwCl [(q0, .inl (cI, n, .inl f))] s.heap := hP
  have hl := lv_entry ([.ref q0, .int x]) (n := 4) (Nat.le_of_ble_eq_true rfl)
  rw [lg_entry_eq]
  generalize (lg_sl ([.ref q0, .int x]) ++ List.replicate (4 - (lg_sl ([.ref q0, .int x])).length) Slot.unset).toArray = ls at hl ⊢
  have hl : lv_has ls 4 [(0, .ref q0), (1, .int x)] := hl
  refine lv_iconst (v := nI 0) hx hb dJA_fill_0 (by decide) ?_
  refine lv_istore_n (lv' := [(2, .int (nI 0)), (0, .ref q0), (1, .int x)]) hx hb dJA_fill_1 rfl hl (by decide) rfl (fun ls hl => ?_)
  refine lv_aload_n hx hb dJA_fill_2 rfl (lv_at hl 1 rfl) ?_
  refine va_alen (v := nI n) hx hb hK hP 0 0 rfl rfl rfl dJA_fill_3 ?_
  refine lv_istore_n (lv' := [(3, .int (nI n)), (2, .int (nI 0)), (0, .ref q0), (1, .int x)]) hx hb dJA_fill_4 rfl hl (by decide) rfl (fun ls hl => ?_)
  have lp5 : ∀ (fu : Nat) (i : Nat) (g : Nat → Int32) (hi : i ≤ n) (hg : ∀ j, j < i → g j = x) (hm : n - i < fu) (H : Heap) (locs : List Loc) (hP : va_P D vwCl [(q0, .inl (cI, n, .inl g))] H) (hD : va_D A [(q0, .inl (cI, n, .inl g))]) (hS : va_S A s.heap H locs) (ls : Array Slot) (hl : lv_has ls 4 [(0, .ref q0), (1, .int x), (2, .int (nI i)), (3, .int (nI n))]), W pg l ev (headSpec wJA_fill rm_JA_fill).room s mt (([.ref q0, .int x] : List Value).toArray) below meth kd H locs 0 0 (MQ below (va_Qv (fun u : (Nat → Int32) => ∀ j, j < n → u j = x) (fun u : (Nat → Int32) => zz_B D vwCl [(cI, .int), (cB, .boolean)] A [(q0, .inl (cI, n, .inl u))]) A) (([.ref q0, .int x] : List Value).toArray) s 0 0 A) (F0 mt 5 ls []) := by
    intro fu
    induction fu with
    | zero => intro i g hi hg hm; exact absurd hm (Nat.not_lt_zero _)
    | succ fu ih5 =>
      intro i g hi hg hm H locs hP hD hS ls hl
      refine lv_iload_n hx hb dJA_fill_5 rfl (lv_at hl 2 rfl) ?_
      refine lv_iload_n hx hb dJA_fill_6 rfl (lv_at hl 3 rfl) ?_
      refine lv_icmp_ge (tgt := 20) hx hb dJA_fill_7 (by decide) (fun c7 => ?_) (fun c7 => ?_)
      · -- taken
        have c7 : n ≤ i := (nI_leI (a := n) (b := i) (by omega) (by omega)).mp c7
        exact zz_vretW (w1 := fun u : (Nat → Int32) => [(q0, .inl (cI, n, .inl u))]) g hx hb hr hlocks (fun j h => hg j (by omega)) hP hK hD hS dJA_fill_20
      · -- not taken
        have c7 : ¬ (n ≤ i) := fun h => c7 ((nI_leI (a := n) (b := i) (by omega) (by omega)).mpr h)
        refine lv_aload_n hx hb dJA_fill_10 rfl (lv_at hl 0 rfl) ?_
        refine lv_iload_n hx hb dJA_fill_11 rfl (lv_at hl 2 rfl) ?_
        refine lv_iload_n hx hb dJA_fill_12 rfl (lv_at hl 1 rfl) ?_
        refine zz_iast (k := i) hx hb hK hP hD hS 0 0 rfl rfl (by omega) hn dJA_fill_13 (fun H locs hP hD hS => ?_)
        have hP : va_P D vwCl [(q0, .inl (cI, n, .inl (upd g i x)))] H := hP
        have hD : va_D A [(q0, .inl (cI, n, .inl (upd g i x)))] := hD
        refine lv_iinc (v := nI (i + 1)) (lv' := [(2, .int (nI (i + 1))), (0, .ref q0), (1, .int x), (3, .int (nI n))]) hx hb dJA_fill_14 hl (k := 2) rfl (nI_1 i) (by decide) rfl (fun ls hl => ?_)
        refine lv_goto (tgt := 5) hx hb dJA_fill_17 (by decide) ?_
        exact ih5 (i + 1) (upd g i x) (by omega) (fun j h => by
          by_cases q : j = i
          · rw [q, pk_us]
          · rw [pk_un q]; exact hg j (by omega)) (by omega) _ _ hP hD hS ls (lv_sub hl [1, 2, 0, 3] rfl)
  exact lp5 ((n - 0) + 1) 0 f (Nat.zero_le _) (fun j h => absurd h (Nat.not_lt_zero _)) (Nat.lt_succ_self _) s.heap _ hP hD hS ls (lv_sub hl [2, 3, 1, 0] rfl)

abbrev rm_P_size : Room := { frames := 0, cells := 0, slots := 0, locals := 0 }
set_option maxHeartbeats 4000000 in
set_option maxRecDepth 100000 in
theorem c_P_size (l : Launch) (D : va_G) (cI cB : ClassId) (q0 q1 q2 q3 : Nat) (fs fp fo : Nat → Int32) (n : Nat) (hn : n ≤ 30) : Met l yP_size wP_size rm_P_size (zz_R D vwCl [(cI, .int), (cB, .boolean)] [.ref q0] [(q0, .inr (1, [.ref q1, .ref q2, .ref q3, .int (nI n)])), (q1, .inl (cI, 30, .inl fs)), (q2, .inl (cI, 30, .inl fp)), (q3, .inl (cI, 30, .inl fo))]) (vp_Si (fun r : Int32 => r = nI n)) 0 0 (fun _ => False) := by
  refine Met.ofW (cc := cP_size) (maxL := 1) (ret := (some .int)) (by decide) rfl ?_
  intro pg ev s mt args below meth kd s₁ B hml hv
  obtain ⟨rfl, hP, hK, hN⟩ := hv
  have hx := B.exec
  have hb := B.bytes
  have hr := B.returns
  have ht : ∀ w ∈ W0, w.before _ s = true := fun w h => atoms_spec (ws := wP_size) B.pre w (List.mem_cons_of_mem _ h)
  have hown : s.vm.findClass "StatRows$PatternRow" = some mt.cls := findClass_of_methodNamed B.named
  have hlocks := B.notSynchronized
  have hl := lv_entry ([.ref q0]) (n := 1) (Nat.le_of_ble_eq_true rfl)
  rw [lg_entry_eq]
  generalize (lg_sl ([.ref q0]) ++ List.replicate (1 - (lg_sl ([.ref q0])).length) Slot.unset).toArray = ls at hl ⊢
  have hl : lv_has ls 1 [(0, .ref q0)] := hl
  refine lv_aload_n hx hb dP_size_0 rfl (lv_at hl 0 rfl) ?_
  refine va_get (D := D) (ci := 1) (v := .int (nI n)) (C := "StatRows$PatternRow") (T := TP) (N := 4) hx hb ht inP hown hK hP 0 rfl rfl 3 (by decide) (ht _ wd41) (fun _ h9 => h9) rfl dP_size_1 ?_
  exact zz_iretR (v := nI n) hx hb hr hlocks (rfl) dP_size_4

abbrev rm_P_has : Room := { frames := 0, cells := 0, slots := 0, locals := 0 }
set_option maxHeartbeats 4000000 in
set_option maxRecDepth 100000 in
theorem c_P_has (l : Launch) (D : va_G) (cI cB : ClassId) (q0 q1 q2 q3 : Nat) (fs fp fo : Nat → Int32) (n : Nat) (hn : n ≤ 30) (x : Int32) : Met l yP_has wP_has rm_P_has (zz_R D vwCl [(cI, .int), (cB, .boolean)] [.ref q0, .int x] [(q0, .inr (1, [.ref q1, .ref q2, .ref q3, .int (nI n)])), (q1, .inl (cI, 30, .inl fs)), (q2, .inl (cI, 30, .inl fp)), (q3, .inl (cI, 30, .inl fo))]) (vp_Si (fun r : Int32 => r = nI (decide (¬ x < 0 ∧ ¬ nI n ≤ x)).toNat)) 0 0 (fun _ => False) := by
  refine Met.ofW (cc := cP_has) (maxL := 2) (ret := (some .boolean)) (by decide) rfl ?_
  intro pg ev s mt args below meth kd s₁ B hml hv
  obtain ⟨rfl, hP, hK, hN⟩ := hv
  have hx := B.exec
  have hb := B.bytes
  have hr := B.returns
  have ht : ∀ w ∈ W0, w.before _ s = true := fun w h => atoms_spec (ws := wP_has) B.pre w (List.mem_cons_of_mem _ h)
  have hown : s.vm.findClass "StatRows$PatternRow" = some mt.cls := findClass_of_methodNamed B.named
  have hlocks := B.notSynchronized
  have hl := lv_entry ([.ref q0, .int x]) (n := 2) (Nat.le_of_ble_eq_true rfl)
  rw [lg_entry_eq]
  generalize (lg_sl ([.ref q0, .int x]) ++ List.replicate (2 - (lg_sl ([.ref q0, .int x])).length) Slot.unset).toArray = ls at hl ⊢
  have hl : lv_has ls 2 [(0, .ref q0), (1, .int x)] := hl
  refine lv_iload_n hx hb dP_has_0 rfl (lv_at hl 1 rfl) ?_
  refine lv_if_lt (tgt := 16) hx hb dP_has_1 (by decide) (fun c1 => ?_) (fun c1 => ?_)
  · -- taken
    have hs : decide (¬ x < 0 ∧ ¬ nI n ≤ x) = false := decide_eq_false (fun q => q.1 c1)
    refine lv_iconst (v := nI 0) hx hb dP_has_16 (by decide) ?_
    exact zz_zretR (v := nI 0) hx hb hr hlocks (by decide) (by rw [hs]; rfl) dP_has_17
  · -- not taken
    refine lv_iload_n hx hb dP_has_4 rfl (lv_at hl 1 rfl) ?_
    refine lv_aload_n hx hb dP_has_5 rfl (lv_at hl 0 rfl) ?_
    refine va_get (D := D) (ci := 1) (v := .int (nI n)) (C := "StatRows$PatternRow") (T := TP) (N := 4) hx hb ht inP hown hK hP 0 rfl rfl 3 (by decide) (ht _ wd41) (fun _ h9 => h9) rfl dP_has_6 ?_
    refine lv_icmp_ge (tgt := 16) hx hb dP_has_9 (by decide) (fun c9 => ?_) (fun c9 => ?_)
    · -- taken
      have hs : decide (¬ x < 0 ∧ ¬ nI n ≤ x) = false := decide_eq_false (fun q => q.2 c9)
      refine lv_iconst (v := nI 0) hx hb dP_has_16 (by decide) ?_
      exact zz_zretR (v := nI 0) hx hb hr hlocks (by decide) (by rw [hs]; rfl) dP_has_17
    · -- not taken
      have hs : decide (¬ x < 0 ∧ ¬ nI n ≤ x) = true := decide_eq_true ⟨c1, c9⟩
      refine lv_iconst (v := nI 1) hx hb dP_has_12 (by decide) ?_
      refine lv_goto (tgt := 17) hx hb dP_has_13 (by decide) ?_
      exact zz_zretR (v := nI 1) hx hb hr hlocks (by decide) (by rw [hs]; rfl) dP_has_17

abbrev rm_P_allows : Room := { frames := 0, cells := 0, slots := 0, locals := 0 }
set_option maxHeartbeats 4000000 in
set_option maxRecDepth 100000 in
theorem c_P_allows (l : Launch) (x y : Int32) : Met l yP_allows wP_allows rm_P_allows (zz_N [.int x, .int y]) (vp_Si (fun r : Int32 => r = nI (pal x y).toNat)) 0 0 (fun _ => False) := by
  refine Met.ofW (cc := cP_allows) (maxL := 2) (ret := (some .boolean)) (by decide) rfl ?_
  intro pg ev s mt args below meth kd s₁ B hml hv
  have hv : args = _ := hv
  subst hv
  have hx := B.exec
  have hb := B.bytes
  have hr := B.returns
  have ht : ∀ w ∈ W0, w.before _ s = true := fun w h => atoms_spec (ws := wP_allows) B.pre w (List.mem_cons_of_mem _ h)
  have hown : s.vm.findClass "StatRows$PatternRow" = some mt.cls := findClass_of_methodNamed B.named
  have hlocks := B.notSynchronized
  have hl := lv_entry ([.int x, .int y]) (n := 2) (Nat.le_of_ble_eq_true rfl)
  rw [lg_entry_eq]
  generalize (lg_sl ([.int x, .int y]) ++ List.replicate (2 - (lg_sl ([.int x, .int y])).length) Slot.unset).toArray = ls at hl ⊢
  have hl : lv_has ls 2 [(0, .int x), (1, .int y)] := hl
  refine lv_iload_n hx hb dP_allows_0 rfl (lv_at hl 0 rfl) ?_
  refine lv_iconst (v := (-1)) hx hb dP_allows_1 (by decide) ?_
  refine lv_icmp_eq (tgt := 10) hx hb dP_allows_2 (by decide) (fun c2 => ?_) (fun c2 => ?_)
  · -- taken
    have hs : pal x y = true := decide_eq_true (Or.inl c2)
    refine lv_iconst (v := nI 1) hx hb dP_allows_10 (by decide) ?_
    refine lv_goto (tgt := 15) hx hb dP_allows_11 (by decide) ?_
    exact zz_zretR (v := nI 1) hx hb hr hlocks (by decide) (by rw [hs]; rfl) dP_allows_15
  · -- not taken
    refine lv_iload_n hx hb dP_allows_5 rfl (lv_at hl 0 rfl) ?_
    refine lv_iload_n hx hb dP_allows_6 rfl (lv_at hl 1 rfl) ?_
    refine lv_icmp_ne (tgt := 14) hx hb dP_allows_7 (by decide) (fun c7 => ?_) (fun c7 => ?_)
    · -- taken
      have hs : pal x y = false := decide_eq_false (fun q => q.elim c2 c7)
      refine lv_iconst (v := nI 0) hx hb dP_allows_14 (by decide) ?_
      exact zz_zretR (v := nI 0) hx hb hr hlocks (by decide) (by rw [hs]; rfl) dP_allows_15
    · -- not taken
      have hs : pal x y = true := decide_eq_true (Or.inr c7)
      refine lv_iconst (v := nI 1) hx hb dP_allows_10 (by decide) ?_
      refine lv_goto (tgt := 15) hx hb dP_allows_11 (by decide) ?_
      exact zz_zretR (v := nI 1) hx hb hr hlocks (by decide) (by rw [hs]; rfl) dP_allows_15

abbrev rm_P_goesWith : Room := { frames := 1, cells := 0, slots := 0, locals := 21 }
set_option maxHeartbeats 4000000 in
set_option maxRecDepth 100000 in
theorem c_P_goesWith (l : Launch) (D : va_G) (cI cB : ClassId) (q0 q1 q2 q3 : Nat) (fs fp fo : Nat → Int32) (n : Nat) (hn : n ≤ 30) (k : Nat) (hk : k < 30) (s1 p1 o1 : Int32) : Met l yP_goesWith wP_goesWith rm_P_goesWith (zz_R D vwCl [(cI, .int), (cB, .boolean)] [.ref q0, .int (nI k), .int s1, .int p1, .int o1] [(q0, .inr (1, [.ref q1, .ref q2, .ref q3, .int (nI n)])), (q1, .inl (cI, 30, .inl fs)), (q2, .inl (cI, 30, .inl fp)), (q3, .inl (cI, 30, .inl fo))]) (vp_Si (fun r : Int32 => r = nI (pal (fs k) s1 && pal (fp k) p1 && pal (fo k) o1).toNat)) 0 0 (fun _ => False) := by
  refine Met.ofW (cc := cP_goesWith) (maxL := 5) (ret := (some .boolean)) (by decide) rfl ?_
  intro pg ev s mt args below meth kd s₁ B hml hv
  obtain ⟨rfl, hP, hK, hN⟩ := hv
  have hx := B.exec
  have hb := B.bytes
  have hr := B.returns
  have ht : ∀ w ∈ W0, w.before _ s = true := fun w h => atoms_spec (ws := wP_goesWith) B.pre w (List.mem_cons_of_mem _ h)
  have hown : s.vm.findClass "StatRows$PatternRow" = some mt.cls := findClass_of_methodNamed B.named
  have hlocks := B.notSynchronized
  have hl := lv_entry ([.ref q0, .int (nI k), .int s1, .int p1, .int o1]) (n := 5) (Nat.le_of_ble_eq_true rfl)
  rw [lg_entry_eq]
  generalize (lg_sl ([.ref q0, .int (nI k), .int s1, .int p1, .int o1]) ++ List.replicate (5 - (lg_sl ([.ref q0, .int (nI k), .int s1, .int p1, .int o1])).length) Slot.unset).toArray = ls at hl ⊢
  have hl : lv_has ls 5 [(0, .ref q0), (1, .int (nI k)), (2, .int s1), (3, .int p1), (4, .int o1)] := hl
  have b1 := btl (pal (fs k) s1)
  have b2 := btl (pal (fp k) p1)
  have b3 := btl (pal (fo k) o1)
  refine lv_aload_n hx hb dP_goesWith_0 rfl (lv_at hl 0 rfl) ?_
  refine va_get (D := D) (ci := 1) (v := .ref q1) (C := "StatRows$PatternRow") (T := TP) (N := 4) hx hb ht inP hown hK hP 0 rfl rfl 0 (by decide) (ht _ wd38) (fun _ h9 => h9) rfl dP_goesWith_1 ?_
  refine lv_iload_n hx hb dP_goesWith_4 rfl (lv_at hl 1 rfl) ?_
  refine zz_iald (k := k) hx hb hK hP 1 0 rfl rfl (by omega) (by decide) dP_goesWith_5 ?_
  refine lv_iload_n hx hb dP_goesWith_6 rfl (lv_at hl 2 rfl) ?_
  refine zz_ci (v := nI ((pal (fs k) s1).toNat)) (W.runS (As := [.int (fs k), .int s1]) (rest := []) ⟨hx, hb, hml, hown, ht⟩ (c_P_allows l (fs k) s1) (va_cwS 2 ht (gd_S wd328 wd329 wd3 wd330) rfl rfl rfl (by decide +kernel) ⟨Nat.le_of_ble_eq_true rfl, Nat.le_of_ble_eq_true rfl⟩) zz_N_S rfl rfl hl.1 rfl (lv_room (Nat.le_of_ble_eq_true rfl)) dP_goesWith_7 ⟨Nat.le_of_ble_eq_true rfl, Nat.le_of_ble_eq_true rfl⟩) ?_
  refine lv_if_eq (tgt := 44) hx hb dP_goesWith_10 (by decide) (fun c10 => ?_) (fun c10 => ?_)
  · -- taken
    have c10 : (pal (fs k) s1).toNat = 0 := (nI_eq (a := (pal (fs k) s1).toNat) (b := 0) (by omega) (by omega)).mp c10
    have hs : (pal (fs k) s1 && pal (fp k) p1 && pal (fo k) o1) = false := by rw [bt0 c10]; rfl
    refine lv_iconst (v := nI 0) hx hb dP_goesWith_44 (by decide) ?_
    exact zz_zretR (v := nI 0) hx hb hr hlocks (by decide) (by rw [hs]; rfl) dP_goesWith_45
  · -- not taken
    have c10 : ¬ ((pal (fs k) s1).toNat = 0) := fun h => c10 ((nI_eq (a := (pal (fs k) s1).toNat) (b := 0) (by omega) (by omega)).mpr h)
    have e1 := bt1 c10
    refine lv_aload_n hx hb dP_goesWith_13 rfl (lv_at hl 0 rfl) ?_
    refine va_get (D := D) (ci := 1) (v := .ref q2) (C := "StatRows$PatternRow") (T := TP) (N := 4) hx hb ht inP hown hK hP 0 rfl rfl 1 (by decide) (ht _ wd39) (fun _ h9 => h9) rfl dP_goesWith_14 ?_
    refine lv_iload_n hx hb dP_goesWith_17 rfl (lv_at hl 1 rfl) ?_
    refine zz_iald (k := k) hx hb hK hP 2 0 rfl rfl (by omega) (by decide) dP_goesWith_18 ?_
    refine lv_iload_n hx hb dP_goesWith_19 rfl (lv_at hl 3 rfl) ?_
    refine zz_ci (v := nI ((pal (fp k) p1).toNat)) (W.runS (As := [.int (fp k), .int p1]) (rest := []) ⟨hx, hb, hml, hown, ht⟩ (c_P_allows l (fp k) p1) (va_cwS 2 ht (gd_S wd328 wd329 wd3 wd330) rfl rfl rfl (by decide +kernel) ⟨Nat.le_of_ble_eq_true rfl, Nat.le_of_ble_eq_true rfl⟩) zz_N_S rfl rfl hl.1 rfl (lv_room (Nat.le_of_ble_eq_true rfl)) dP_goesWith_20 ⟨Nat.le_of_ble_eq_true rfl, Nat.le_of_ble_eq_true rfl⟩) ?_
    refine lv_if_eq (tgt := 44) hx hb dP_goesWith_23 (by decide) (fun c23 => ?_) (fun c23 => ?_)
    · -- taken
      have c23 : (pal (fp k) p1).toNat = 0 := (nI_eq (a := (pal (fp k) p1).toNat) (b := 0) (by omega) (by omega)).mp c23
      have hs : (pal (fs k) s1 && pal (fp k) p1 && pal (fo k) o1) = false := by rw [e1, bt0 c23]; rfl
      refine lv_iconst (v := nI 0) hx hb dP_goesWith_44 (by decide) ?_
      exact zz_zretR (v := nI 0) hx hb hr hlocks (by decide) (by rw [hs]; rfl) dP_goesWith_45
    · -- not taken
      have c23 : ¬ ((pal (fp k) p1).toNat = 0) := fun h => c23 ((nI_eq (a := (pal (fp k) p1).toNat) (b := 0) (by omega) (by omega)).mpr h)
      have e2 := bt1 c23
      refine lv_aload_n hx hb dP_goesWith_26 rfl (lv_at hl 0 rfl) ?_
      refine va_get (D := D) (ci := 1) (v := .ref q3) (C := "StatRows$PatternRow") (T := TP) (N := 4) hx hb ht inP hown hK hP 0 rfl rfl 2 (by decide) (ht _ wd40) (fun _ h9 => h9) rfl dP_goesWith_27 ?_
      refine lv_iload_n hx hb dP_goesWith_30 rfl (lv_at hl 1 rfl) ?_
      refine zz_iald (k := k) hx hb hK hP 3 0 rfl rfl (by omega) (by decide) dP_goesWith_31 ?_
      refine lv_iload hx hb dP_goesWith_32 (lv_at hl 4 rfl) ?_
      refine zz_ci (v := nI ((pal (fo k) o1).toNat)) (W.runS (As := [.int (fo k), .int o1]) (rest := []) ⟨hx, hb, hml, hown, ht⟩ (c_P_allows l (fo k) o1) (va_cwS 2 ht (gd_S wd328 wd329 wd3 wd330) rfl rfl rfl (by decide +kernel) ⟨Nat.le_of_ble_eq_true rfl, Nat.le_of_ble_eq_true rfl⟩) zz_N_S rfl rfl hl.1 rfl (lv_room (Nat.le_of_ble_eq_true rfl)) dP_goesWith_34 ⟨Nat.le_of_ble_eq_true rfl, Nat.le_of_ble_eq_true rfl⟩) ?_
      refine lv_if_eq (tgt := 44) hx hb dP_goesWith_37 (by decide) (fun c37 => ?_) (fun c37 => ?_)
      · -- taken
        have c37 : (pal (fo k) o1).toNat = 0 := (nI_eq (a := (pal (fo k) o1).toNat) (b := 0) (by omega) (by omega)).mp c37
        have hs : (pal (fs k) s1 && pal (fp k) p1 && pal (fo k) o1) = false := by rw [e1, e2, bt0 c37]; rfl
        refine lv_iconst (v := nI 0) hx hb dP_goesWith_44 (by decide) ?_
        exact zz_zretR (v := nI 0) hx hb hr hlocks (by decide) (by rw [hs]; rfl) dP_goesWith_45
      · -- not taken
        have c37 : ¬ ((pal (fo k) o1).toNat = 0) := fun h => c37 ((nI_eq (a := (pal (fo k) o1).toNat) (b := 0) (by omega) (by omega)).mpr h)
        have hs : (pal (fs k) s1 && pal (fp k) p1 && pal (fo k) o1) = true := by rw [e1, e2, bt1 c37]; rfl
        refine lv_iconst (v := nI 1) hx hb dP_goesWith_40 (by decide) ?_
        refine lv_goto (tgt := 45) hx hb dP_goesWith_41 (by decide) ?_
        exact zz_zretR (v := nI 1) hx hb hr hlocks (by decide) (by rw [hs]; rfl) dP_goesWith_45

abbrev rm_P_rowOf : Room := { frames := 0, cells := 0, slots := 0, locals := 0 }
set_option maxHeartbeats 4000000 in
set_option maxRecDepth 100000 in
theorem c_P_rowOf (l : Launch) (D : va_G) (cI cB : ClassId) (sz : Nat) (q0 q1 q2 q3 : Nat) (fs fp fo : Nat → Int32) (n : Nat) (hn : n ≤ 30) (s1 p1 o1 : Int32) : Met l yP_rowOf wP_rowOf rm_P_rowOf (zz_P D vwCl [(cI, .int), (cB, .boolean)] [.ref q0, .int s1, .int p1, .int o1] [(q0, .inr (1, [.ref q1, .ref q2, .ref q3, .int (nI n)])), (q1, .inl (cI, 30, .inl fs)), (q2, .inl (cI, 30, .inl fp)), (q3, .inl (cI, 30, .inl fo))] sz) (va_Qi (fun (r : Int32) (u : ((Nat → Int32) × (Nat → Int32) × (Nat → Int32) × Nat)) => (∃ j, j < n ∧ (fs j = s1 ∧ fp j = p1 ∧ fo j = o1) ∧ (∀ i, i < j → ¬ (fs i = s1 ∧ fp i = p1 ∧ fo i = o1)) ∧ r = nI j ∧ u = (fs, fp, fo, n)) ∨ ((∀ i, i < n → ¬ (fs i = s1 ∧ fp i = p1 ∧ fo i = o1)) ∧ ((n = 30 ∧ r = -3 ∧ u = (fs, fp, fo, n)) ∨ (n < 30 ∧ r = nI n ∧ u = (upd fs n s1, upd fp n p1, upd fo n o1, n + 1))))) (fun u : ((Nat → Int32) × (Nat → Int32) × (Nat → Int32) × Nat) => zz_B D vwCl [(cI, .int), (cB, .boolean)] (va_A [(q0, .inr (1, [.ref q1, .ref q2, .ref q3, .int (nI n)])), (q1, .inl (cI, 30, .inl fs)), (q2, .inl (cI, 30, .inl fp)), (q3, .inl (cI, 30, .inl fo))] sz) [(q0, .inr (1, [.ref q1, .ref q2, .ref q3, .int (nI u.2.2.2)])), (q1, .inl (cI, 30, .inl u.1)), (q2, .inl (cI, 30, .inl u.2.1)), (q3, .inl (cI, 30, .inl u.2.2.1))]) (va_A [(q0, .inr (1, [.ref q1, .ref q2, .ref q3, .int (nI n)])), (q1, .inl (cI, 30, .inl fs)), (q2, .inl (cI, 30, .inl fp)), (q3, .inl (cI, 30, .inl fo))] sz)) 0 0 (va_A [(q0, .inr (1, [.ref q1, .ref q2, .ref q3, .int (nI n)])), (q1, .inl (cI, 30, .inl fs)), (q2, .inl (cI, 30, .inl fp)), (q3, .inl (cI, 30, .inl fo))] sz) := by
  refine Met.ofW (cc := cP_rowOf) (maxL := 5) (ret := (some .int)) (by decide) rfl ?_
  intro pg ev s mt args below meth kd s₁ B hml hv
  obtain ⟨rfl, hsz, hP, hK, hD0, hN⟩ := hv
  have hx := B.exec
  have hb := B.bytes
  have hr := B.returns
  have ht : ∀ w ∈ W0, w.before _ s = true := fun w h => atoms_spec (ws := wP_rowOf) B.pre w (List.mem_cons_of_mem _ h)
  have hown : s.vm.findClass "StatRows$PatternRow" = some mt.cls := findClass_of_methodNamed B.named
  have hlocks := B.notSynchronized
  subst hsz
  have hD := hD0.self (sz := s.heap.size)
  generalize hAe : va_A [(q0, .inr (1, [.ref q1, .ref q2, .ref q3, .int (nI n)])), (q1, .inl (cI, 30, .inl fs)), (q2, .inl (cI, 30, .inl fp)), (q3, .inl (cI, 30, .inl fo))] s.heap.size = A at hD ⊢
  have hA : ∀ q : Nat, s.heap.size ≤ q → A q := fun q h => by rw [← hAe]; exact Or.inr h
  have hS : va_S A s.heap s.heap [] := va_S.rf
  have hP : va_P D vwCl [(q0, .inr (1, [.ref q1, .ref q2, .ref q3, .int (nI n)])), (q1, .inl (cI, 30, .inl fs)), (q2, .inl (cI, 30, .inl fp)), (q3, .inl (cI, 30, .inl fo))] s.heap := hP
  have hl := lv_entry ([.ref q0, .int s1, .int p1, .int o1]) (n := 5) (Nat.le_of_ble_eq_true rfl)
  rw [lg_entry_eq]
  generalize (lg_sl ([.ref q0, .int s1, .int p1, .int o1]) ++ List.replicate (5 - (lg_sl ([.ref q0, .int s1, .int p1, .int o1])).length) Slot.unset).toArray = ls at hl ⊢
  have hl : lv_has ls 5 [(0, .ref q0), (1, .int s1), (2, .int p1), (3, .int o1)] := hl
  refine lv_iconst (v := nI 0) hx hb dP_rowOf_0 (by decide) ?_
  refine lv_istore (lv' := [(4, .int (nI 0)), (0, .ref q0), (1, .int s1), (2, .int p1), (3, .int o1)]) hx hb dP_rowOf_1 hl (by decide) rfl (fun ls hl => ?_)
  have lp3 : ∀ (fu : Nat) (i : Nat) (hi : i ≤ n) (hno : ∀ j, j < i → ¬ (fs j = s1 ∧ fp j = p1 ∧ fo j = o1)) (hm : n - i < fu) (H : Heap) (locs : List Loc) (hP : va_P D vwCl [(q0, .inr (1, [.ref q1, .ref q2, .ref q3, .int (nI n)])), (q1, .inl (cI, 30, .inl fs)), (q2, .inl (cI, 30, .inl fp)), (q3, .inl (cI, 30, .inl fo))] H) (hD : va_D A [(q0, .inr (1, [.ref q1, .ref q2, .ref q3, .int (nI n)])), (q1, .inl (cI, 30, .inl fs)), (q2, .inl (cI, 30, .inl fp)), (q3, .inl (cI, 30, .inl fo))]) (hS : va_S A s.heap H locs) (ls : Array Slot) (hl : lv_has ls 5 [(0, .ref q0), (1, .int s1), (2, .int p1), (3, .int o1), (4, .int (nI i))]), W pg l ev (headSpec wP_rowOf rm_P_rowOf).room s mt (([.ref q0, .int s1, .int p1, .int o1] : List Value).toArray) below meth kd H locs 0 0 (MQ below (va_Qi (fun (r : Int32) (u : ((Nat → Int32) × (Nat → Int32) × (Nat → Int32) × Nat)) => (∃ j, j < n ∧ (fs j = s1 ∧ fp j = p1 ∧ fo j = o1) ∧ (∀ i, i < j → ¬ (fs i = s1 ∧ fp i = p1 ∧ fo i = o1)) ∧ r = nI j ∧ u = (fs, fp, fo, n)) ∨ ((∀ i, i < n → ¬ (fs i = s1 ∧ fp i = p1 ∧ fo i = o1)) ∧ ((n = 30 ∧ r = -3 ∧ u = (fs, fp, fo, n)) ∨ (n < 30 ∧ r = nI n ∧ u = (upd fs n s1, upd fp n p1, upd fo n o1, n + 1))))) (fun u : ((Nat → Int32) × (Nat → Int32) × (Nat → Int32) × Nat) => zz_B D vwCl [(cI, .int), (cB, .boolean)] A [(q0, .inr (1, [.ref q1, .ref q2, .ref q3, .int (nI u.2.2.2)])), (q1, .inl (cI, 30, .inl u.1)), (q2, .inl (cI, 30, .inl u.2.1)), (q3, .inl (cI, 30, .inl u.2.2.1))]) A) (([.ref q0, .int s1, .int p1, .int o1] : List Value).toArray) s 0 0 A) (F0 mt 3 ls []) := by
    intro fu
    induction fu with
    | zero => intro i hi hno hm; exact absurd hm (Nat.not_lt_zero _)
    | succ fu ih3 =>
      intro i hi hno hm H locs hP hD hS ls hl
      refine lv_iload hx hb dP_rowOf_3 (lv_at hl 4 rfl) ?_
      refine lv_aload_n hx hb dP_rowOf_5 rfl (lv_at hl 0 rfl) ?_
      refine va_get (D := D) (ci := 1) (v := .int (nI n)) (C := "StatRows$PatternRow") (T := TP) (N := 4) hx hb ht inP hown hK hP 0 rfl rfl 3 (by decide) (ht _ wd41) (fun _ h9 => h9) rfl dP_rowOf_6 ?_
      refine lv_icmp_ge (tgt := 54) hx hb dP_rowOf_9 (by decide) (fun c9 => ?_) (fun c9 => ?_)
      · -- taken
        have c9 : n ≤ i := (nI_leI (a := n) (b := i) (by omega) (by omega)).mp c9
        have hno : ∀ j, j < n → ¬ (fs j = s1 ∧ fp j = p1 ∧ fo j = o1) := fun j h => hno j (by omega)
        refine lv_aload_n hx hb dP_rowOf_54 rfl (lv_at hl 0 rfl) ?_
        refine va_get (D := D) (ci := 1) (v := .int (nI n)) (C := "StatRows$PatternRow") (T := TP) (N := 4) hx hb ht inP hown hK hP 0 rfl rfl 3 (by decide) (ht _ wd41) (fun _ h9 => h9) rfl dP_rowOf_55 ?_
        refine lv_bipush (v := nI 30) hx hb dP_rowOf_58 (by decide) ?_
        refine lv_icmp_lt (tgt := 66) hx hb dP_rowOf_60 (by decide) (fun c60 => ?_) (fun c60 => ?_)
        · -- taken
          have c60 : n < 30 := (nI_ltI (a := n) (b := 30) (by omega) (by omega)).mp c60
          refine lv_aload_n hx hb dP_rowOf_66 rfl (lv_at hl 0 rfl) ?_
          refine va_get (D := D) (ci := 1) (v := .ref q1) (C := "StatRows$PatternRow") (T := TP) (N := 4) hx hb ht inP hown hK hP 0 rfl rfl 0 (by decide) (ht _ wd38) (fun _ h9 => h9) rfl dP_rowOf_67 ?_
          refine lv_aload_n hx hb dP_rowOf_70 rfl (lv_at hl 0 rfl) ?_
          refine va_get (D := D) (ci := 1) (v := .int (nI n)) (C := "StatRows$PatternRow") (T := TP) (N := 4) hx hb ht inP hown hK hP 0 rfl rfl 3 (by decide) (ht _ wd41) (fun _ h9 => h9) rfl dP_rowOf_71 ?_
          refine lv_iload_n hx hb dP_rowOf_74 rfl (lv_at hl 1 rfl) ?_
          refine zz_iast (k := n) hx hb hK hP hD hS 1 0 rfl rfl (by omega) (by decide) dP_rowOf_75 (fun H locs hP hD hS => ?_)
          have hP : va_P D vwCl [(q0, .inr (1, [.ref q1, .ref q2, .ref q3, .int (nI n)])), (q1, .inl (cI, 30, .inl (upd fs n s1))), (q2, .inl (cI, 30, .inl fp)), (q3, .inl (cI, 30, .inl fo))] H := hP
          have hD : va_D A [(q0, .inr (1, [.ref q1, .ref q2, .ref q3, .int (nI n)])), (q1, .inl (cI, 30, .inl (upd fs n s1))), (q2, .inl (cI, 30, .inl fp)), (q3, .inl (cI, 30, .inl fo))] := hD
          refine lv_aload_n hx hb dP_rowOf_76 rfl (lv_at hl 0 rfl) ?_
          refine va_get (D := D) (ci := 1) (v := .ref q2) (C := "StatRows$PatternRow") (T := TP) (N := 4) hx hb ht inP hown hK hP 0 rfl rfl 1 (by decide) (ht _ wd39) (fun _ h9 => h9) rfl dP_rowOf_77 ?_
          refine lv_aload_n hx hb dP_rowOf_80 rfl (lv_at hl 0 rfl) ?_
          refine va_get (D := D) (ci := 1) (v := .int (nI n)) (C := "StatRows$PatternRow") (T := TP) (N := 4) hx hb ht inP hown hK hP 0 rfl rfl 3 (by decide) (ht _ wd41) (fun _ h9 => h9) rfl dP_rowOf_81 ?_
          refine lv_iload_n hx hb dP_rowOf_84 rfl (lv_at hl 2 rfl) ?_
          refine zz_iast (k := n) hx hb hK hP hD hS 2 0 rfl rfl (by omega) (by decide) dP_rowOf_85 (fun H locs hP hD hS => ?_)
          have hP : va_P D vwCl [(q0, .inr (1, [.ref q1, .ref q2, .ref q3, .int (nI n)])), (q1, .inl (cI, 30, .inl (upd fs n s1))), (q2, .inl (cI, 30, .inl (upd fp n p1))), (q3, .inl (cI, 30, .inl fo))] H := hP
          have hD : va_D A [(q0, .inr (1, [.ref q1, .ref q2, .ref q3, .int (nI n)])), (q1, .inl (cI, 30, .inl (upd fs n s1))), (q2, .inl (cI, 30, .inl (upd fp n p1))), (q3, .inl (cI, 30, .inl fo))] := hD
          refine lv_aload_n hx hb dP_rowOf_86 rfl (lv_at hl 0 rfl) ?_
          refine va_get (D := D) (ci := 1) (v := .ref q3) (C := "StatRows$PatternRow") (T := TP) (N := 4) hx hb ht inP hown hK hP 0 rfl rfl 2 (by decide) (ht _ wd40) (fun _ h9 => h9) rfl dP_rowOf_87 ?_
          refine lv_aload_n hx hb dP_rowOf_90 rfl (lv_at hl 0 rfl) ?_
          refine va_get (D := D) (ci := 1) (v := .int (nI n)) (C := "StatRows$PatternRow") (T := TP) (N := 4) hx hb ht inP hown hK hP 0 rfl rfl 3 (by decide) (ht _ wd41) (fun _ h9 => h9) rfl dP_rowOf_91 ?_
          refine lv_iload_n hx hb dP_rowOf_94 rfl (lv_at hl 3 rfl) ?_
          refine zz_iast (k := n) hx hb hK hP hD hS 3 0 rfl rfl (by omega) (by decide) dP_rowOf_95 (fun H locs hP hD hS => ?_)
          have hP : va_P D vwCl [(q0, .inr (1, [.ref q1, .ref q2, .ref q3, .int (nI n)])), (q1, .inl (cI, 30, .inl (upd fs n s1))), (q2, .inl (cI, 30, .inl (upd fp n p1))), (q3, .inl (cI, 30, .inl (upd fo n o1)))] H := hP
          have hD : va_D A [(q0, .inr (1, [.ref q1, .ref q2, .ref q3, .int (nI n)])), (q1, .inl (cI, 30, .inl (upd fs n s1))), (q2, .inl (cI, 30, .inl (upd fp n p1))), (q3, .inl (cI, 30, .inl (upd fo n o1)))] := hD
          refine lv_aload_n hx hb dP_rowOf_96 rfl (lv_at hl 0 rfl) ?_
          refine lv_dup hx hb dP_rowOf_97 rfl ?_
          refine va_get (D := D) (ci := 1) (v := .int (nI n)) (C := "StatRows$PatternRow") (T := TP) (N := 4) hx hb ht inP hown hK hP 0 rfl rfl 3 (by decide) (ht _ wd41) (fun _ h9 => h9) rfl dP_rowOf_98 ?_
          refine lv_iconst (v := nI 1) hx hb dP_rowOf_101 (by decide) ?_
          refine lv_iadd hx hb dP_rowOf_102 ?_
          refine zz_top (y := nI (n + 1)) (nI_add n 1) ?_
          refine va_put (D := D) (ci := 1) (v := .int (nI (n + 1))) (ty := .int) (C := "StatRows$PatternRow") (T := TP) (N := 4) hx hb ht inP tyP okP nmP hown hK hP hD hS 0 rfl rfl 3 (by decide) (ht _ wd41) (fun _ h9 => h9) rfl (by decide +kernel) rfl rfl (Nat.le_of_ble_eq_true rfl) dP_rowOf_103 (fun H locs hP hD hS => ?_)
          have hP : va_P D vwCl [(q0, .inr (1, [.ref q1, .ref q2, .ref q3, .int (nI (n + 1))])), (q1, .inl (cI, 30, .inl (upd fs n s1))), (q2, .inl (cI, 30, .inl (upd fp n p1))), (q3, .inl (cI, 30, .inl (upd fo n o1)))] H := hP
          have hD : va_D A [(q0, .inr (1, [.ref q1, .ref q2, .ref q3, .int (nI (n + 1))])), (q1, .inl (cI, 30, .inl (upd fs n s1))), (q2, .inl (cI, 30, .inl (upd fp n p1))), (q3, .inl (cI, 30, .inl (upd fo n o1)))] := hD
          refine lv_aload_n hx hb dP_rowOf_106 rfl (lv_at hl 0 rfl) ?_
          refine va_get (D := D) (ci := 1) (v := .int (nI (n + 1))) (C := "StatRows$PatternRow") (T := TP) (N := 4) hx hb ht inP hown hK hP 0 rfl rfl 3 (by decide) (ht _ wd41) (fun _ h9 => h9) rfl dP_rowOf_107 ?_
          refine lv_iconst (v := nI 1) hx hb dP_rowOf_110 (by decide) ?_
          refine lv_isub hx hb dP_rowOf_111 ?_
          refine zz_top (y := nI ((n + 1) - 1)) (pk_sub (a := n + 1) (b := 1) (by omega)) ?_
          exact zz_iretW (v := nI ((n + 1) - 1)) (w1 := fun u : ((Nat → Int32) × (Nat → Int32) × (Nat → Int32) × Nat) => [(q0, .inr (1, [.ref q1, .ref q2, .ref q3, .int (nI u.2.2.2)])), (q1, .inl (cI, 30, .inl u.1)), (q2, .inl (cI, 30, .inl u.2.1)), (q3, .inl (cI, 30, .inl u.2.2.1))]) (upd fs n s1, upd fp n p1, upd fo n o1, n + 1) hx hb hr hlocks (Or.inr ⟨hno, Or.inr ⟨by omega, rfl, rfl⟩⟩) hP hK hD hS dP_rowOf_112
        · -- not taken
          have c60 : ¬ (n < 30) := fun h => c60 ((nI_ltI (a := n) (b := 30) (by omega) (by omega)).mpr h)
          refine lv_bipush (v := (-3)) hx hb dP_rowOf_63 (by decide) ?_
          exact zz_iretW (v := (-3)) (w1 := fun u : ((Nat → Int32) × (Nat → Int32) × (Nat → Int32) × Nat) => [(q0, .inr (1, [.ref q1, .ref q2, .ref q3, .int (nI u.2.2.2)])), (q1, .inl (cI, 30, .inl u.1)), (q2, .inl (cI, 30, .inl u.2.1)), (q3, .inl (cI, 30, .inl u.2.2.1))]) (fs, fp, fo, n) hx hb hr hlocks (Or.inr ⟨hno, Or.inl ⟨by omega, rfl, rfl⟩⟩) hP hK hD hS dP_rowOf_65
      · -- not taken
        have c9 : ¬ (n ≤ i) := fun h => c9 ((nI_leI (a := n) (b := i) (by omega) (by omega)).mpr h)
        refine lv_aload_n hx hb dP_rowOf_12 rfl (lv_at hl 0 rfl) ?_
        refine va_get (D := D) (ci := 1) (v := .ref q1) (C := "StatRows$PatternRow") (T := TP) (N := 4) hx hb ht inP hown hK hP 0 rfl rfl 0 (by decide) (ht _ wd38) (fun _ h9 => h9) rfl dP_rowOf_13 ?_
        refine lv_iload hx hb dP_rowOf_16 (lv_at hl 4 rfl) ?_
        refine zz_iald (k := i) hx hb hK hP 1 0 rfl rfl (by omega) (by decide) dP_rowOf_18 ?_
        refine lv_iload_n hx hb dP_rowOf_19 rfl (lv_at hl 1 rfl) ?_
        refine lv_icmp_ne (tgt := 48) hx hb dP_rowOf_20 (by decide) (fun c20 => ?_) (fun c20 => ?_)
        · -- taken
          have hne : ¬ (fs i = s1 ∧ fp i = p1 ∧ fo i = o1) := fun q => c20 q.1
          refine lv_iinc (v := nI (i + 1)) (lv' := [(4, .int (nI (i + 1))), (0, .ref q0), (1, .int s1), (2, .int p1), (3, .int o1)]) hx hb dP_rowOf_48 hl (k := 4) rfl (nI_1 i) (by decide) rfl (fun ls hl => ?_)
          refine lv_goto (tgt := 3) hx hb dP_rowOf_51 (by decide) ?_
          exact ih3 (i + 1) (by omega) (fun j h => by
            by_cases q : j = i
            · rw [q]; exact hne
            · exact hno j (by omega)) (by omega) _ _ hP hD hS ls (lv_sub hl [1, 2, 3, 4, 0] rfl)
        · -- not taken
          refine lv_aload_n hx hb dP_rowOf_23 rfl (lv_at hl 0 rfl) ?_
          refine va_get (D := D) (ci := 1) (v := .ref q2) (C := "StatRows$PatternRow") (T := TP) (N := 4) hx hb ht inP hown hK hP 0 rfl rfl 1 (by decide) (ht _ wd39) (fun _ h9 => h9) rfl dP_rowOf_24 ?_
          refine lv_iload hx hb dP_rowOf_27 (lv_at hl 4 rfl) ?_
          refine zz_iald (k := i) hx hb hK hP 2 0 rfl rfl (by omega) (by decide) dP_rowOf_29 ?_
          refine lv_iload_n hx hb dP_rowOf_30 rfl (lv_at hl 2 rfl) ?_
          refine lv_icmp_ne (tgt := 48) hx hb dP_rowOf_31 (by decide) (fun c31 => ?_) (fun c31 => ?_)
          · -- taken
            have hne : ¬ (fs i = s1 ∧ fp i = p1 ∧ fo i = o1) := fun q => c31 q.2.1
            refine lv_iinc (v := nI (i + 1)) (lv' := [(4, .int (nI (i + 1))), (0, .ref q0), (1, .int s1), (2, .int p1), (3, .int o1)]) hx hb dP_rowOf_48 hl (k := 4) rfl (nI_1 i) (by decide) rfl (fun ls hl => ?_)
            refine lv_goto (tgt := 3) hx hb dP_rowOf_51 (by decide) ?_
            exact ih3 (i + 1) (by omega) (fun j h => by
              by_cases q : j = i
              · rw [q]; exact hne
              · exact hno j (by omega)) (by omega) _ _ hP hD hS ls (lv_sub hl [1, 2, 3, 4, 0] rfl)
          · -- not taken
            refine lv_aload_n hx hb dP_rowOf_34 rfl (lv_at hl 0 rfl) ?_
            refine va_get (D := D) (ci := 1) (v := .ref q3) (C := "StatRows$PatternRow") (T := TP) (N := 4) hx hb ht inP hown hK hP 0 rfl rfl 2 (by decide) (ht _ wd40) (fun _ h9 => h9) rfl dP_rowOf_35 ?_
            refine lv_iload hx hb dP_rowOf_38 (lv_at hl 4 rfl) ?_
            refine zz_iald (k := i) hx hb hK hP 3 0 rfl rfl (by omega) (by decide) dP_rowOf_40 ?_
            refine lv_iload_n hx hb dP_rowOf_41 rfl (lv_at hl 3 rfl) ?_
            refine lv_icmp_ne (tgt := 48) hx hb dP_rowOf_42 (by decide) (fun c42 => ?_) (fun c42 => ?_)
            · -- taken
              have hne : ¬ (fs i = s1 ∧ fp i = p1 ∧ fo i = o1) := fun q => c42 q.2.2
              refine lv_iinc (v := nI (i + 1)) (lv' := [(4, .int (nI (i + 1))), (0, .ref q0), (1, .int s1), (2, .int p1), (3, .int o1)]) hx hb dP_rowOf_48 hl (k := 4) rfl (nI_1 i) (by decide) rfl (fun ls hl => ?_)
              refine lv_goto (tgt := 3) hx hb dP_rowOf_51 (by decide) ?_
              exact ih3 (i + 1) (by omega) (fun j h => by
                by_cases q : j = i
                · rw [q]; exact hne
                · exact hno j (by omega)) (by omega) _ _ hP hD hS ls (lv_sub hl [1, 2, 3, 4, 0] rfl)
            · -- not taken
              refine lv_iload hx hb dP_rowOf_45 (lv_at hl 4 rfl) ?_
              exact zz_iretW (v := nI i) (w1 := fun u : ((Nat → Int32) × (Nat → Int32) × (Nat → Int32) × Nat) => [(q0, .inr (1, [.ref q1, .ref q2, .ref q3, .int (nI u.2.2.2)])), (q1, .inl (cI, 30, .inl u.1)), (q2, .inl (cI, 30, .inl u.2.1)), (q3, .inl (cI, 30, .inl u.2.2.1))]) (fs, fp, fo, n) hx hb hr hlocks (Or.inl ⟨i, by omega, ⟨c20, c31, c42⟩, hno, rfl, rfl⟩) hP hK hD hS dP_rowOf_47
  exact lp3 ((n - 0) + 1) 0 (Nat.zero_le _) (fun j h => absurd h (Nat.not_lt_zero _)) (Nat.lt_succ_self _) s.heap _ hP hD hS ls (lv_sub hl [1, 2, 3, 4, 0] rfl)

abbrev rm_V_ended : Room := { frames := 0, cells := 0, slots := 0, locals := 0 }
set_option maxHeartbeats 4000000 in
set_option maxRecDepth 100000 in
theorem c_V_ended (l : Launch) (D : va_G) (cI cB : ClassId) (q0 q1 : Nat) (z : Nat → Int32) (k e : Nat) (hke : k ≤ e) (he : e < 1000) : Met l yV_ended wV_ended rm_V_ended (zz_R D vwCl [(cI, .int), (cB, .boolean)] [.ref q0] [(q0, .inr (2, [.ref q1, .int (nI k), .int (nI e)])), (q1, .inl (cI, 320, .inl z))]) (vp_Si (fun r : Int32 => r = nI e)) 0 0 (fun _ => False) := by
  refine Met.ofW (cc := cV_ended) (maxL := 1) (ret := (some .int)) (by decide) rfl ?_
  intro pg ev s mt args below meth kd s₁ B hml hv
  obtain ⟨rfl, hP, hK, hN⟩ := hv
  have hx := B.exec
  have hb := B.bytes
  have hr := B.returns
  have ht : ∀ w ∈ W0, w.before _ s = true := fun w h => atoms_spec (ws := wV_ended) B.pre w (List.mem_cons_of_mem _ h)
  have hown : s.vm.findClass "StatRows$VersionRow" = some mt.cls := findClass_of_methodNamed B.named
  have hlocks := B.notSynchronized
  have hl := lv_entry ([.ref q0]) (n := 1) (Nat.le_of_ble_eq_true rfl)
  rw [lg_entry_eq]
  generalize (lg_sl ([.ref q0]) ++ List.replicate (1 - (lg_sl ([.ref q0])).length) Slot.unset).toArray = ls at hl ⊢
  have hl : lv_has ls 1 [(0, .ref q0)] := hl
  refine lv_aload_n hx hb dV_ended_0 rfl (lv_at hl 0 rfl) ?_
  refine va_get (D := D) (ci := 2) (v := .int (nI e)) (C := "StatRows$VersionRow") (T := TV) (N := 3) hx hb ht inV hown hK hP 0 rfl rfl 2 (by decide) (ht _ wd59) (fun _ h9 => h9) rfl dV_ended_1 ?_
  exact zz_iretR (v := nI e) hx hb hr hlocks (rfl) dV_ended_4

abbrev rm_V_kept : Room := { frames := 0, cells := 0, slots := 0, locals := 0 }
set_option maxHeartbeats 4000000 in
set_option maxRecDepth 100000 in
theorem c_V_kept (l : Launch) (D : va_G) (cI cB : ClassId) (q0 q1 : Nat) (z : Nat → Int32) (k e : Nat) (hke : k ≤ e) (he : e < 1000) : Met l yV_kept wV_kept rm_V_kept (zz_R D vwCl [(cI, .int), (cB, .boolean)] [.ref q0] [(q0, .inr (2, [.ref q1, .int (nI k), .int (nI e)])), (q1, .inl (cI, 320, .inl z))]) (vp_Si (fun r : Int32 => r = nI (e - k))) 0 0 (fun _ => False) := by
  refine Met.ofW (cc := cV_kept) (maxL := 1) (ret := (some .int)) (by decide) rfl ?_
  intro pg ev s mt args below meth kd s₁ B hml hv
  obtain ⟨rfl, hP, hK, hN⟩ := hv
  have hx := B.exec
  have hb := B.bytes
  have hr := B.returns
  have ht : ∀ w ∈ W0, w.before _ s = true := fun w h => atoms_spec (ws := wV_kept) B.pre w (List.mem_cons_of_mem _ h)
  have hown : s.vm.findClass "StatRows$VersionRow" = some mt.cls := findClass_of_methodNamed B.named
  have hlocks := B.notSynchronized
  have hl := lv_entry ([.ref q0]) (n := 1) (Nat.le_of_ble_eq_true rfl)
  rw [lg_entry_eq]
  generalize (lg_sl ([.ref q0]) ++ List.replicate (1 - (lg_sl ([.ref q0])).length) Slot.unset).toArray = ls at hl ⊢
  have hl : lv_has ls 1 [(0, .ref q0)] := hl
  refine lv_aload_n hx hb dV_kept_0 rfl (lv_at hl 0 rfl) ?_
  refine va_get (D := D) (ci := 2) (v := .int (nI e)) (C := "StatRows$VersionRow") (T := TV) (N := 3) hx hb ht inV hown hK hP 0 rfl rfl 2 (by decide) (ht _ wd59) (fun _ h9 => h9) rfl dV_kept_1 ?_
  refine lv_aload_n hx hb dV_kept_4 rfl (lv_at hl 0 rfl) ?_
  refine va_get (D := D) (ci := 2) (v := .int (nI k)) (C := "StatRows$VersionRow") (T := TV) (N := 3) hx hb ht inV hown hK hP 0 rfl rfl 1 (by decide) (ht _ wd58) (fun _ h9 => h9) rfl dV_kept_5 ?_
  refine lv_isub hx hb dV_kept_8 ?_
  refine zz_top (y := nI (e - k)) (pk_sub (a := e) (b := k) (by omega)) ?_
  exact zz_iretR (v := nI (e - k)) hx hb hr hlocks (rfl) dV_kept_9

abbrev rm_V_hasEnded : Room := { frames := 0, cells := 0, slots := 0, locals := 0 }
set_option maxHeartbeats 4000000 in
set_option maxRecDepth 100000 in
theorem c_V_hasEnded (l : Launch) (D : va_G) (cI cB : ClassId) (q0 q1 : Nat) (z : Nat → Int32) (k e : Nat) (hke : k ≤ e) (he : e < 1000) (x : Int32) : Met l yV_hasEnded wV_hasEnded rm_V_hasEnded (zz_R D vwCl [(cI, .int), (cB, .boolean)] [.ref q0, .int x] [(q0, .inr (2, [.ref q1, .int (nI k), .int (nI e)])), (q1, .inl (cI, 320, .inl z))]) (vp_Si (fun r : Int32 => r = nI (decide (¬ x < 0 ∧ ¬ nI e ≤ x)).toNat)) 0 0 (fun _ => False) := by
  refine Met.ofW (cc := cV_hasEnded) (maxL := 2) (ret := (some .boolean)) (by decide) rfl ?_
  intro pg ev s mt args below meth kd s₁ B hml hv
  obtain ⟨rfl, hP, hK, hN⟩ := hv
  have hx := B.exec
  have hb := B.bytes
  have hr := B.returns
  have ht : ∀ w ∈ W0, w.before _ s = true := fun w h => atoms_spec (ws := wV_hasEnded) B.pre w (List.mem_cons_of_mem _ h)
  have hown : s.vm.findClass "StatRows$VersionRow" = some mt.cls := findClass_of_methodNamed B.named
  have hlocks := B.notSynchronized
  have hl := lv_entry ([.ref q0, .int x]) (n := 2) (Nat.le_of_ble_eq_true rfl)
  rw [lg_entry_eq]
  generalize (lg_sl ([.ref q0, .int x]) ++ List.replicate (2 - (lg_sl ([.ref q0, .int x])).length) Slot.unset).toArray = ls at hl ⊢
  have hl : lv_has ls 2 [(0, .ref q0), (1, .int x)] := hl
  refine lv_iload_n hx hb dV_hasEnded_0 rfl (lv_at hl 1 rfl) ?_
  refine lv_if_lt (tgt := 16) hx hb dV_hasEnded_1 (by decide) (fun c1 => ?_) (fun c1 => ?_)
  · -- taken
    have hs : decide (¬ x < 0 ∧ ¬ nI e ≤ x) = false := decide_eq_false (fun q => q.1 c1)
    refine lv_iconst (v := nI 0) hx hb dV_hasEnded_16 (by decide) ?_
    exact zz_zretR (v := nI 0) hx hb hr hlocks (by decide) (by rw [hs]; rfl) dV_hasEnded_17
  · -- not taken
    refine lv_iload_n hx hb dV_hasEnded_4 rfl (lv_at hl 1 rfl) ?_
    refine lv_aload_n hx hb dV_hasEnded_5 rfl (lv_at hl 0 rfl) ?_
    refine va_get (D := D) (ci := 2) (v := .int (nI e)) (C := "StatRows$VersionRow") (T := TV) (N := 3) hx hb ht inV hown hK hP 0 rfl rfl 2 (by decide) (ht _ wd59) (fun _ h9 => h9) rfl dV_hasEnded_6 ?_
    refine lv_icmp_ge (tgt := 16) hx hb dV_hasEnded_9 (by decide) (fun c9 => ?_) (fun c9 => ?_)
    · -- taken
      have hs : decide (¬ x < 0 ∧ ¬ nI e ≤ x) = false := decide_eq_false (fun q => q.2 c9)
      refine lv_iconst (v := nI 0) hx hb dV_hasEnded_16 (by decide) ?_
      exact zz_zretR (v := nI 0) hx hb hr hlocks (by decide) (by rw [hs]; rfl) dV_hasEnded_17
    · -- not taken
      have hs : decide (¬ x < 0 ∧ ¬ nI e ≤ x) = true := decide_eq_true ⟨c1, c9⟩
      refine lv_iconst (v := nI 1) hx hb dV_hasEnded_12 (by decide) ?_
      refine lv_goto (tgt := 17) hx hb dV_hasEnded_13 (by decide) ?_
      exact zz_zretR (v := nI 1) hx hb hr hlocks (by decide) (by rw [hs]; rfl) dV_hasEnded_17

abbrev rm_V_place : Room := { frames := 0, cells := 0, slots := 0, locals := 0 }
set_option maxHeartbeats 4000000 in
set_option maxRecDepth 100000 in
theorem c_V_place (l : Launch) (pp v : Nat) (hp : pp < 8) (hv : v < 1000) : Met l yV_place wV_place rm_V_place (zz_N [.int (nI pp), .int (nI v)]) (vp_Si (fun r : Int32 => r = nI (v % 40 * 8 + pp))) 0 0 (fun _ => False) := by
  refine Met.ofW (cc := cV_place) (maxL := 2) (ret := (some .int)) (by decide) rfl ?_
  intro pg ev s mt args below meth kd s₁ B hml hv
  have hv : args = _ := hv
  subst hv
  have hx := B.exec
  have hb := B.bytes
  have hr := B.returns
  have ht : ∀ w ∈ W0, w.before _ s = true := fun w h => atoms_spec (ws := wV_place) B.pre w (List.mem_cons_of_mem _ h)
  have hown : s.vm.findClass "StatRows$VersionRow" = some mt.cls := findClass_of_methodNamed B.named
  have hlocks := B.notSynchronized
  have hl := lv_entry ([.int (nI pp), .int (nI v)]) (n := 2) (Nat.le_of_ble_eq_true rfl)
  rw [lg_entry_eq]
  generalize (lg_sl ([.int (nI pp), .int (nI v)]) ++ List.replicate (2 - (lg_sl ([.int (nI pp), .int (nI v)])).length) Slot.unset).toArray = ls at hl ⊢
  have hl : lv_has ls 2 [(0, .int (nI pp)), (1, .int (nI v))] := hl
  refine lv_iload_n hx hb dV_place_0 rfl (lv_at hl 1 rfl) ?_
  refine lv_bipush (v := nI 40) hx hb dV_place_1 (by decide) ?_
  refine lv_irem hx hb dV_place_3 (by decide) ?_
  refine zz_top (y := nI (v % 40)) (pk_rem (a := v) (d := 40) (by omega) (by omega) (by omega)) ?_
  refine lv_bipush (v := nI 8) hx hb dV_place_4 (by decide) ?_
  refine lv_imul hx hb dV_place_6 ?_
  refine zz_top (y := nI ((v % 40) * 8)) (pk_mul (v % 40) 8) ?_
  refine lv_iload_n hx hb dV_place_7 rfl (lv_at hl 0 rfl) ?_
  refine lv_iadd hx hb dV_place_8 ?_
  refine zz_top (y := nI (((v % 40) * 8) + pp)) (nI_add ((v % 40) * 8) pp) ?_
  exact zz_iretR (v := nI (((v % 40) * 8) + pp)) hx hb hr hlocks (rfl) dV_place_9

abbrev rm_V_sizeAt : Room := { frames := 1, cells := 0, slots := 0, locals := 21 }
set_option maxHeartbeats 4000000 in
set_option maxRecDepth 100000 in
theorem c_V_sizeAt (l : Launch) (D : va_G) (cI cB : ClassId) (q0 q1 : Nat) (z : Nat → Int32) (k e : Nat) (hke : k ≤ e) (he : e < 1000) (pp : Nat) (hp : pp < 8) (x : Int32) : Met l yV_sizeAt wV_sizeAt rm_V_sizeAt (zz_R D vwCl [(cI, .int), (cB, .boolean)] [.ref q0, .int (nI pp), .int x] [(q0, .inr (2, [.ref q1, .int (nI k), .int (nI e)])), (q1, .inl (cI, 320, .inl z))]) (vp_Si (fun r : Int32 => (¬ (¬ x < 0 ∧ ¬ nI e ≤ x) ∧ r = -1) ∨ ∃ v, v < e ∧ x = nI v ∧ r = if v < k then -2 else z (v % 40 * 8 + pp))) 0 0 (fun _ => False) := by
  refine Met.ofW (cc := cV_sizeAt) (maxL := 3) (ret := (some .int)) (by decide) rfl ?_
  intro pg ev s mt args below meth kd s₁ B hml hv
  obtain ⟨rfl, hP, hK, hN⟩ := hv
  have hx := B.exec
  have hb := B.bytes
  have hr := B.returns
  have ht : ∀ w ∈ W0, w.before _ s = true := fun w h => atoms_spec (ws := wV_sizeAt) B.pre w (List.mem_cons_of_mem _ h)
  have hown : s.vm.findClass "StatRows$VersionRow" = some mt.cls := findClass_of_methodNamed B.named
  have hlocks := B.notSynchronized
  have hl := lv_entry ([.ref q0, .int (nI pp), .int x]) (n := 3) (Nat.le_of_ble_eq_true rfl)
  rw [lg_entry_eq]
  generalize (lg_sl ([.ref q0, .int (nI pp), .int x]) ++ List.replicate (3 - (lg_sl ([.ref q0, .int (nI pp), .int x])).length) Slot.unset).toArray = ls at hl ⊢
  have hl : lv_has ls 3 [(0, .ref q0), (1, .int (nI pp)), (2, .int x)] := hl
  have b1 := btl (decide (¬ x < 0 ∧ ¬ nI e ≤ x))
  refine lv_aload_n hx hb dV_sizeAt_0 rfl (lv_at hl 0 rfl) ?_
  refine lv_iload_n hx hb dV_sizeAt_1 rfl (lv_at hl 2 rfl) ?_
  refine zz_ci (v := nI ((decide (¬ x < 0 ∧ ¬ nI e ≤ x)).toNat)) (W.runV (As := [.int x]) (rest := []) ⟨hx, hb, hml, hown, ht⟩ (c_V_hasEnded l D cI cB q0 q1 z k e hke he x) (cwV 1 ht (gd_V wd356 wd358 wp15 wd4 wd359) rfl rfl rfl (by decide +kernel) ⟨Nat.le_of_ble_eq_true rfl, Nat.le_of_ble_eq_true rfl⟩) (zz_R_V hN hK (hP.sub (ws' := [(q0, .inr (2, [.ref q1, .int (nI k), .int (nI e)])), (q1, .inl (cI, 320, .inl z))]) [0, 1] rfl) 2 0 rfl rfl) rfl rfl hl.1 rfl (lv_room (Nat.le_of_ble_eq_true rfl)) dV_sizeAt_2 ⟨Nat.le_of_ble_eq_true rfl, Nat.le_of_ble_eq_true rfl⟩) ?_
  refine lv_if_ne (tgt := 10) hx hb dV_sizeAt_5 (by decide) (fun c5 => ?_) (fun c5 => ?_)
  · -- taken
    have c5 : ¬ ((decide (¬ x < 0 ∧ ¬ nI e ≤ x)).toNat = 0) := fun h => c5 ((nI_eq (a := (decide (¬ x < 0 ∧ ¬ nI e ≤ x)).toNat) (b := 0) (by omega) (by omega)).mpr h)
    have hin := of_decide_eq_true (bt1 c5)
    obtain ⟨v, hv, ex⟩ := zz_in (n := e) (by omega) hin.1 hin.2
    rw [ex] at hl
    refine lv_iload_n hx hb dV_sizeAt_10 rfl (lv_at hl 2 rfl) ?_
    refine lv_aload_n hx hb dV_sizeAt_11 rfl (lv_at hl 0 rfl) ?_
    refine va_get (D := D) (ci := 2) (v := .int (nI k)) (C := "StatRows$VersionRow") (T := TV) (N := 3) hx hb ht inV hown hK hP 0 rfl rfl 1 (by decide) (ht _ wd58) (fun _ h9 => h9) rfl dV_sizeAt_12 ?_
    refine lv_icmp_ge (tgt := 23) hx hb dV_sizeAt_15 (by decide) (fun c15 => ?_) (fun c15 => ?_)
    · -- taken
      have c15 : k ≤ v := (nI_leI (a := k) (b := v) (by omega) (by omega)).mp c15
      refine lv_aload_n hx hb dV_sizeAt_23 rfl (lv_at hl 0 rfl) ?_
      refine va_get (D := D) (ci := 2) (v := .ref q1) (C := "StatRows$VersionRow") (T := TV) (N := 3) hx hb ht inV hown hK hP 0 rfl rfl 0 (by decide) (ht _ wd57) (fun _ h9 => h9) rfl dV_sizeAt_24 ?_
      refine lv_iload_n hx hb dV_sizeAt_27 rfl (lv_at hl 1 rfl) ?_
      refine lv_iload_n hx hb dV_sizeAt_28 rfl (lv_at hl 2 rfl) ?_
      refine zz_ci (v := nI (v % 40 * 8 + pp)) (W.runS (As := [.int (nI pp), .int (nI v)]) (rest := [.ref q1]) ⟨hx, hb, hml, hown, ht⟩ (c_V_place l pp v hp (by omega)) (va_cwS 2 ht (gd_S wd344 wd345 wd4 wd346) rfl rfl rfl (by decide +kernel) ⟨Nat.le_of_ble_eq_true rfl, Nat.le_of_ble_eq_true rfl⟩) zz_N_S rfl rfl hl.1 rfl (lv_room (Nat.le_of_ble_eq_true rfl)) dV_sizeAt_29 ⟨Nat.le_of_ble_eq_true rfl, Nat.le_of_ble_eq_true rfl⟩) ?_
      refine zz_iald (k := v % 40 * 8 + pp) hx hb hK hP 1 0 rfl rfl (by omega) (by decide) dV_sizeAt_32 ?_
      exact zz_iretR (v := z (v % 40 * 8 + pp)) hx hb hr hlocks (Or.inr ⟨v, hv, ex, (if_neg (by omega)).symm⟩) dV_sizeAt_33
    · -- not taken
      have c15 : ¬ (k ≤ v) := fun h => c15 ((nI_leI (a := k) (b := v) (by omega) (by omega)).mpr h)
      refine lv_bipush (v := (-2)) hx hb dV_sizeAt_18 (by decide) ?_
      refine lv_goto (tgt := 33) hx hb dV_sizeAt_20 (by decide) ?_
      exact zz_iretR (v := (-2)) hx hb hr hlocks (Or.inr ⟨v, hv, ex, (if_pos (by omega)).symm⟩) dV_sizeAt_33
  · -- not taken
    have c5 : (decide (¬ x < 0 ∧ ¬ nI e ≤ x)).toNat = 0 := (nI_eq (a := (decide (¬ x < 0 ∧ ¬ nI e ≤ x)).toNat) (b := 0) (by omega) (by omega)).mp c5
    have hin := of_decide_eq_false (bt0 (by omega))
    refine lv_iconst (v := (-1)) hx hb dV_sizeAt_8 (by decide) ?_
    exact zz_iretR (v := (-1)) hx hb hr hlocks (Or.inl ⟨hin, rfl⟩) dV_sizeAt_9

abbrev rm_V_forgetBelow : Room := { frames := 1, cells := 0, slots := 0, locals := 32 }
set_option maxHeartbeats 4000000 in
set_option maxRecDepth 100000 in
theorem c_V_forgetBelow (l : Launch) (D : va_G) (cI cB : ClassId) (sz : Nat) (q0 q1 : Nat) (z : Nat → Int32) (k e : Nat) (hke : k ≤ e) (he : e < 1000) (x : Int32) : Met l yV_forgetBelow wV_forgetBelow rm_V_forgetBelow (zz_P D vwCl [(cI, .int), (cB, .boolean)] [.ref q0, .int x] [(q0, .inr (2, [.ref q1, .int (nI k), .int (nI e)])), (q1, .inl (cI, 320, .inl z))] sz) (va_Qi (fun (r : Int32) (u : Nat) => (¬ (¬ x < 0 ∧ ¬ nI e ≤ x) ∧ r = -1 ∧ u = k) ∨ ∃ v, v < e ∧ x = nI v ∧ r = nI (v - k) ∧ u = k + (v - k)) (fun u : Nat => zz_B D vwCl [(cI, .int), (cB, .boolean)] (va_A [(q0, .inr (2, [.ref q1, .int (nI k), .int (nI e)])), (q1, .inl (cI, 320, .inl z))] sz) [(q0, .inr (2, [.ref q1, .int (nI u), .int (nI e)])), (q1, .inl (cI, 320, .inl z))]) (va_A [(q0, .inr (2, [.ref q1, .int (nI k), .int (nI e)])), (q1, .inl (cI, 320, .inl z))] sz)) 0 0 (va_A [(q0, .inr (2, [.ref q1, .int (nI k), .int (nI e)])), (q1, .inl (cI, 320, .inl z))] sz) := by
  refine Met.ofW (cc := cV_forgetBelow) (maxL := 3) (ret := (some .int)) (by decide) rfl ?_
  intro pg ev s mt args below meth kd s₁ B hml hv
  obtain ⟨rfl, hsz, hP, hK, hD0, hN⟩ := hv
  have hx := B.exec
  have hb := B.bytes
  have hr := B.returns
  have ht : ∀ w ∈ W0, w.before _ s = true := fun w h => atoms_spec (ws := wV_forgetBelow) B.pre w (List.mem_cons_of_mem _ h)
  have hown : s.vm.findClass "StatRows$VersionRow" = some mt.cls := findClass_of_methodNamed B.named
  have hlocks := B.notSynchronized
  subst hsz
  have hD := hD0.self (sz := s.heap.size)
  generalize hAe : va_A [(q0, .inr (2, [.ref q1, .int (nI k), .int (nI e)])), (q1, .inl (cI, 320, .inl z))] s.heap.size = A at hD ⊢
  have hA : ∀ q : Nat, s.heap.size ≤ q → A q := fun q h => by rw [← hAe]; exact Or.inr h
  have hS : va_S A s.heap s.heap [] := va_S.rf
  have hP : va_P D vwCl [(q0, .inr (2, [.ref q1, .int (nI k), .int (nI e)])), (q1, .inl (cI, 320, .inl z))] s.heap := hP
  have hl := lv_entry ([.ref q0, .int x]) (n := 3) (Nat.le_of_ble_eq_true rfl)
  rw [lg_entry_eq]
  generalize (lg_sl ([.ref q0, .int x]) ++ List.replicate (3 - (lg_sl ([.ref q0, .int x])).length) Slot.unset).toArray = ls at hl ⊢
  have hl : lv_has ls 3 [(0, .ref q0), (1, .int x)] := hl
  have b1 := btl (decide (¬ x < 0 ∧ ¬ nI e ≤ x))
  refine lv_aload_n hx hb dV_forgetBelow_0 rfl (lv_at hl 0 rfl) ?_
  refine lv_iload_n hx hb dV_forgetBelow_1 rfl (lv_at hl 1 rfl) ?_
  refine zz_ci (v := nI ((decide (¬ x < 0 ∧ ¬ nI e ≤ x)).toNat)) (W.runV (As := [.int x]) (rest := []) ⟨hx, hb, hml, hown, ht⟩ (c_V_hasEnded l D cI cB q0 q1 z k e hke he x) (cwV 1 ht (gd_V wd356 wd358 wp15 wd4 wd359) rfl rfl rfl (by decide +kernel) ⟨Nat.le_of_ble_eq_true rfl, Nat.le_of_ble_eq_true rfl⟩) (zz_R_V hN hK (hP.sub (ws' := [(q0, .inr (2, [.ref q1, .int (nI k), .int (nI e)])), (q1, .inl (cI, 320, .inl z))]) [0, 1] rfl) 2 0 rfl rfl) rfl rfl hl.1 rfl (lv_room (Nat.le_of_ble_eq_true rfl)) dV_forgetBelow_2 ⟨Nat.le_of_ble_eq_true rfl, Nat.le_of_ble_eq_true rfl⟩) ?_
  refine lv_if_ne (tgt := 10) hx hb dV_forgetBelow_5 (by decide) (fun c5 => ?_) (fun c5 => ?_)
  · -- taken
    have c5 : ¬ ((decide (¬ x < 0 ∧ ¬ nI e ≤ x)).toNat = 0) := fun h => c5 ((nI_eq (a := (decide (¬ x < 0 ∧ ¬ nI e ≤ x)).toNat) (b := 0) (by omega) (by omega)).mpr h)
    have hin := of_decide_eq_true (bt1 c5)
    obtain ⟨v, hv, ex⟩ := zz_in (n := e) (by omega) hin.1 hin.2
    rw [ex] at hl
    refine lv_iconst (v := nI 0) hx hb dV_forgetBelow_10 (by decide) ?_
    refine lv_iload_n hx hb dV_forgetBelow_11 rfl (lv_at hl 1 rfl) ?_
    refine lv_aload_n hx hb dV_forgetBelow_12 rfl (lv_at hl 0 rfl) ?_
    refine va_get (D := D) (ci := 2) (v := .int (nI k)) (C := "StatRows$VersionRow") (T := TV) (N := 3) hx hb ht inV hown hK hP 0 rfl rfl 1 (by decide) (ht _ wd58) (fun _ h9 => h9) rfl dV_forgetBelow_13 ?_
    refine lv_isub hx hb dV_forgetBelow_16 ?_
    refine zz_top (y := nI v - nI k) (rfl) ?_
    refine va_mmax (x := nI 0) (y := nI v - nI k) hx hb (hml.trans hl.1.symm) hown (ht _ wd368) (ht _ wd252) (ht _ wd9) (ht _ wd253) (Nat.le_of_ble_eq_true rfl) (Nat.le_of_ble_eq_true rfl) (Nat.le_of_ble_eq_true rfl) (Nat.le_of_ble_eq_true rfl) dV_forgetBelow_17 ?_
    refine zz_top (y := nI (v - k)) (vmax (by omega) (by omega)) ?_
    refine lv_istore_n (lv' := [(2, .int (nI (v - k))), (0, .ref q0), (1, .int (nI v))]) hx hb dV_forgetBelow_20 rfl hl (by decide) rfl (fun ls hl => ?_)
    refine lv_aload_n hx hb dV_forgetBelow_21 rfl (lv_at hl 1 rfl) ?_
    refine lv_dup hx hb dV_forgetBelow_22 rfl ?_
    refine va_get (D := D) (ci := 2) (v := .int (nI k)) (C := "StatRows$VersionRow") (T := TV) (N := 3) hx hb ht inV hown hK hP 0 rfl rfl 1 (by decide) (ht _ wd58) (fun _ h9 => h9) rfl dV_forgetBelow_23 ?_
    refine lv_iload_n hx hb dV_forgetBelow_26 rfl (lv_at hl 0 rfl) ?_
    refine lv_iadd hx hb dV_forgetBelow_27 ?_
    refine zz_top (y := nI (k + (v - k))) (nI_add k (v - k)) ?_
    refine va_put (D := D) (ci := 2) (v := .int (nI (k + (v - k)))) (ty := .int) (C := "StatRows$VersionRow") (T := TV) (N := 3) hx hb ht inV tyV okV nmV hown hK hP hD hS 0 rfl rfl 1 (by decide) (ht _ wd58) (fun _ h9 => h9) rfl (by decide +kernel) rfl rfl (Nat.le_of_ble_eq_true rfl) dV_forgetBelow_28 (fun H locs hP hD hS => ?_)
    have hP : va_P D vwCl [(q0, .inr (2, [.ref q1, .int (nI (k + (v - k))), .int (nI e)])), (q1, .inl (cI, 320, .inl z))] H := hP
    have hD : va_D A [(q0, .inr (2, [.ref q1, .int (nI (k + (v - k))), .int (nI e)])), (q1, .inl (cI, 320, .inl z))] := hD
    refine lv_iload_n hx hb dV_forgetBelow_31 rfl (lv_at hl 0 rfl) ?_
    exact zz_iretW (v := nI (v - k)) (w1 := fun u : Nat => [(q0, .inr (2, [.ref q1, .int (nI u), .int (nI e)])), (q1, .inl (cI, 320, .inl z))]) (k + (v - k)) hx hb hr hlocks (Or.inr ⟨v, hv, ex, rfl, rfl⟩) hP hK hD hS dV_forgetBelow_32
  · -- not taken
    have c5 : (decide (¬ x < 0 ∧ ¬ nI e ≤ x)).toNat = 0 := (nI_eq (a := (decide (¬ x < 0 ∧ ¬ nI e ≤ x)).toNat) (b := 0) (by omega) (by omega)).mp c5
    have hin := of_decide_eq_false (bt0 (by omega))
    refine lv_iconst (v := (-1)) hx hb dV_forgetBelow_8 (by decide) ?_
    exact zz_iretW (v := (-1)) (w1 := fun u : Nat => [(q0, .inr (2, [.ref q1, .int (nI u), .int (nI e)])), (q1, .inl (cI, 320, .inl z))]) k hx hb hr hlocks (Or.inl ⟨hin, rfl, rfl⟩) hP hK hD hS dV_forgetBelow_9

abbrev rm_V_finish : Room := { frames := 2, cells := 0, slots := 0, locals := 42 }
set_option maxHeartbeats 4000000 in
set_option maxRecDepth 100000 in
theorem c_V_finish (l : Launch) (D : va_G) (cI cB : ClassId) (sz : Nat) (q0 q1 : Nat) (z : Nat → Int32) (k e : Nat) (hke : k ≤ e) (he : e < 1000) (q5 q6 q7 : Nat) (f g : Nat → Int32) (Ls : Nat → List Nat) (hT : RT Ls f g) : Met l yV_finish wV_finish rm_V_finish (zz_P D vwCl [(cI, .int), (cB, .boolean)] [.ref q0, .ref q5] [(q0, .inr (2, [.ref q1, .int (nI k), .int (nI e)])), (q1, .inl (cI, 320, .inl z)), (q5, .inr (0, [.ref q6, .ref q7])), (q6, .inl (cI, 400, .inl f)), (q7, .inl (cI, 9, .inl g))] sz) (va_Qi (fun (r : Int32) (u : ((Nat → Int32) × Nat)) => (40 ≤ e - k ∧ r = -3 ∧ u = (z, e)) ∨ (e - k < 40 ∧ r = nI e ∧ u.2 = e + 1 ∧ ∀ j, j < 320 → u.1 j = if e % 40 * 8 ≤ j ∧ j < e % 40 * 8 + 8 then nI (Ls (j - e % 40 * 8)).length else z j)) (fun u : ((Nat → Int32) × Nat) => zz_B D vwCl [(cI, .int), (cB, .boolean)] (va_A [(q0, .inr (2, [.ref q1, .int (nI k), .int (nI e)])), (q1, .inl (cI, 320, .inl z)), (q5, .inr (0, [.ref q6, .ref q7])), (q6, .inl (cI, 400, .inl f)), (q7, .inl (cI, 9, .inl g))] sz) [(q0, .inr (2, [.ref q1, .int (nI k), .int (nI u.2)])), (q1, .inl (cI, 320, .inl u.1)), (q5, .inr (0, [.ref q6, .ref q7])), (q6, .inl (cI, 400, .inl f)), (q7, .inl (cI, 9, .inl g))]) (va_A [(q0, .inr (2, [.ref q1, .int (nI k), .int (nI e)])), (q1, .inl (cI, 320, .inl z)), (q5, .inr (0, [.ref q6, .ref q7])), (q6, .inl (cI, 400, .inl f)), (q7, .inl (cI, 9, .inl g))] sz)) 0 0 (va_A [(q0, .inr (2, [.ref q1, .int (nI k), .int (nI e)])), (q1, .inl (cI, 320, .inl z)), (q5, .inr (0, [.ref q6, .ref q7])), (q6, .inl (cI, 400, .inl f)), (q7, .inl (cI, 9, .inl g))] sz) := by
  refine Met.ofW (cc := cV_finish) (maxL := 3) (ret := (some .int)) (by decide) rfl ?_
  intro pg ev s mt args below meth kd s₁ B hml hv
  obtain ⟨rfl, hsz, hP, hK, hD0, hN⟩ := hv
  have hx := B.exec
  have hb := B.bytes
  have hr := B.returns
  have ht : ∀ w ∈ W0, w.before _ s = true := fun w h => atoms_spec (ws := wV_finish) B.pre w (List.mem_cons_of_mem _ h)
  have hown : s.vm.findClass "StatRows$VersionRow" = some mt.cls := findClass_of_methodNamed B.named
  have hlocks := B.notSynchronized
  subst hsz
  have hD := hD0.self (sz := s.heap.size)
  generalize hAe : va_A [(q0, .inr (2, [.ref q1, .int (nI k), .int (nI e)])), (q1, .inl (cI, 320, .inl z)), (q5, .inr (0, [.ref q6, .ref q7])), (q6, .inl (cI, 400, .inl f)), (q7, .inl (cI, 9, .inl g))] s.heap.size = A at hD ⊢
  have hA : ∀ q : Nat, s.heap.size ≤ q → A q := fun q h => by rw [← hAe]; exact Or.inr h
  have hS : va_S A s.heap s.heap [] := va_S.rf
  have hP : va_P D vwCl [(q0, .inr (2, [.ref q1, .int (nI k), .int (nI e)])), (q1, .inl (cI, 320, .inl z)), (q5, .inr (0, [.ref q6, .ref q7])), (q6, .inl (cI, 400, .inl f)), (q7, .inl (cI, 9, .inl g))] s.heap := hP
  have hl := lv_entry ([.ref q0, .ref q5]) (n := 3) (Nat.le_of_ble_eq_true rfl)
  rw [lg_entry_eq]
  generalize (lg_sl ([.ref q0, .ref q5]) ++ List.replicate (3 - (lg_sl ([.ref q0, .ref q5])).length) Slot.unset).toArray = ls at hl ⊢
  have hl : lv_has ls 3 [(0, .ref q0), (1, .ref q5)] := hl
  refine lv_aload_n hx hb dV_finish_0 rfl (lv_at hl 0 rfl) ?_
  refine zz_ci (v := nI (e - k)) (W.runV (As := []) (rest := []) ⟨hx, hb, hml, hown, ht⟩ (c_V_kept l D cI cB q0 q1 z k e hke he) (cwV 0 ht (gd_V wd339 wd340 wd341 wd4 wd342) rfl rfl rfl (by decide +kernel) ⟨Nat.le_of_ble_eq_true rfl, Nat.le_of_ble_eq_true rfl⟩) (zz_R_V hN hK (hP.sub (ws' := [(q0, .inr (2, [.ref q1, .int (nI k), .int (nI e)])), (q1, .inl (cI, 320, .inl z))]) [0, 1] rfl) 2 0 rfl rfl) rfl rfl hl.1 rfl (lv_room (Nat.le_of_ble_eq_true rfl)) dV_finish_1 ⟨Nat.le_of_ble_eq_true rfl, Nat.le_of_ble_eq_true rfl⟩) ?_
  refine lv_bipush (v := nI 40) hx hb dV_finish_4 (by decide) ?_
  refine lv_icmp_ge (tgt := 18) hx hb dV_finish_6 (by decide) (fun c6 => ?_) (fun c6 => ?_)
  · -- taken
    have c6 : 40 ≤ e - k := (nI_leI (a := 40) (b := e - k) (by omega) (by omega)).mp c6
    refine lv_bipush (v := (-3)) hx hb dV_finish_18 (by decide) ?_
    exact zz_iretW (v := (-3)) (w1 := fun u : ((Nat → Int32) × Nat) => [(q0, .inr (2, [.ref q1, .int (nI k), .int (nI u.2)])), (q1, .inl (cI, 320, .inl u.1)), (q5, .inr (0, [.ref q6, .ref q7])), (q6, .inl (cI, 400, .inl f)), (q7, .inl (cI, 9, .inl g))]) (z, e) hx hb hr hlocks (Or.inl ⟨by omega, rfl, rfl⟩) hP hK hD hS dV_finish_20
  · -- not taken
    have c6 : ¬ (40 ≤ e - k) := fun h => c6 ((nI_leI (a := 40) (b := e - k) (by omega) (by omega)).mpr h)
    refine lv_aload_n hx hb dV_finish_9 rfl (lv_at hl 0 rfl) ?_
    refine va_get (D := D) (ci := 2) (v := .int (nI e)) (C := "StatRows$VersionRow") (T := TV) (N := 3) hx hb ht inV hown hK hP 0 rfl rfl 2 (by decide) (ht _ wd59) (fun _ h9 => h9) rfl dV_finish_10 ?_
    refine lv_ldc (v := 2147483647) hx hb hown (ht _ wd343) dV_finish_13 ?_
    refine lv_icmp_ne (tgt := 21) hx hb dV_finish_15 (by decide) (fun c15 => ?_) (fun c15 => ?_)
    · -- taken
      refine lv_iconst (v := nI 0) hx hb dV_finish_21 (by decide) ?_
      refine lv_istore_n (lv' := [(2, .int (nI 0)), (0, .ref q0), (1, .ref q5)]) hx hb dV_finish_22 rfl hl (by decide) rfl (fun ls hl => ?_)
      have lp23 : ∀ (fu : Nat) (i : Nat) (zz : Nat → Int32) (hi : i ≤ 8) (hz : ∀ j, j < 320 → zz j = if e % 40 * 8 ≤ j ∧ j < e % 40 * 8 + i then nI (Ls (j - e % 40 * 8)).length else z j) (hm : 8 - i < fu) (H : Heap) (locs : List Loc) (hP : va_P D vwCl [(q0, .inr (2, [.ref q1, .int (nI k), .int (nI e)])), (q1, .inl (cI, 320, .inl zz)), (q5, .inr (0, [.ref q6, .ref q7])), (q6, .inl (cI, 400, .inl f)), (q7, .inl (cI, 9, .inl g))] H) (hD : va_D A [(q0, .inr (2, [.ref q1, .int (nI k), .int (nI e)])), (q1, .inl (cI, 320, .inl zz)), (q5, .inr (0, [.ref q6, .ref q7])), (q6, .inl (cI, 400, .inl f)), (q7, .inl (cI, 9, .inl g))]) (hS : va_S A s.heap H locs) (ls : Array Slot) (hl : lv_has ls 3 [(0, .ref q0), (1, .ref q5), (2, .int (nI i))]), W pg l ev (headSpec wV_finish rm_V_finish).room s mt (([.ref q0, .ref q5] : List Value).toArray) below meth kd H locs 0 0 (MQ below (va_Qi (fun (r : Int32) (u : ((Nat → Int32) × Nat)) => (40 ≤ e - k ∧ r = -3 ∧ u = (z, e)) ∨ (e - k < 40 ∧ r = nI e ∧ u.2 = e + 1 ∧ ∀ j, j < 320 → u.1 j = if e % 40 * 8 ≤ j ∧ j < e % 40 * 8 + 8 then nI (Ls (j - e % 40 * 8)).length else z j)) (fun u : ((Nat → Int32) × Nat) => zz_B D vwCl [(cI, .int), (cB, .boolean)] A [(q0, .inr (2, [.ref q1, .int (nI k), .int (nI u.2)])), (q1, .inl (cI, 320, .inl u.1)), (q5, .inr (0, [.ref q6, .ref q7])), (q6, .inl (cI, 400, .inl f)), (q7, .inl (cI, 9, .inl g))]) A) (([.ref q0, .ref q5] : List Value).toArray) s 0 0 A) (F0 mt 23 ls []) := by
        intro fu
        induction fu with
        | zero => intro i zz hi hz hm; exact absurd hm (Nat.not_lt_zero _)
        | succ fu ih23 =>
          intro i zz hi hz hm H locs hP hD hS ls hl
          refine lv_iload_n hx hb dV_finish_23 rfl (lv_at hl 2 rfl) ?_
          refine lv_bipush (v := nI 8) hx hb dV_finish_24 (by decide) ?_
          refine lv_icmp_ge (tgt := 53) hx hb dV_finish_26 (by decide) (fun c26 => ?_) (fun c26 => ?_)
          · -- taken
            have c26 : 8 ≤ i := (nI_leI (a := 8) (b := i) (by omega) (by omega)).mp c26
            refine lv_aload_n hx hb dV_finish_53 rfl (lv_at hl 0 rfl) ?_
            refine lv_dup hx hb dV_finish_54 rfl ?_
            refine va_get (D := D) (ci := 2) (v := .int (nI e)) (C := "StatRows$VersionRow") (T := TV) (N := 3) hx hb ht inV hown hK hP 0 rfl rfl 2 (by decide) (ht _ wd59) (fun _ h9 => h9) rfl dV_finish_55 ?_
            refine lv_iconst (v := nI 1) hx hb dV_finish_58 (by decide) ?_
            refine lv_iadd hx hb dV_finish_59 ?_
            refine zz_top (y := nI (e + 1)) (nI_add e 1) ?_
            refine va_put (D := D) (ci := 2) (v := .int (nI (e + 1))) (ty := .int) (C := "StatRows$VersionRow") (T := TV) (N := 3) hx hb ht inV tyV okV nmV hown hK hP hD hS 0 rfl rfl 2 (by decide) (ht _ wd59) (fun _ h9 => h9) rfl (by decide +kernel) rfl rfl (Nat.le_of_ble_eq_true rfl) dV_finish_60 (fun H locs hP hD hS => ?_)
            have hP : va_P D vwCl [(q0, .inr (2, [.ref q1, .int (nI k), .int (nI (e + 1))])), (q1, .inl (cI, 320, .inl zz)), (q5, .inr (0, [.ref q6, .ref q7])), (q6, .inl (cI, 400, .inl f)), (q7, .inl (cI, 9, .inl g))] H := hP
            have hD : va_D A [(q0, .inr (2, [.ref q1, .int (nI k), .int (nI (e + 1))])), (q1, .inl (cI, 320, .inl zz)), (q5, .inr (0, [.ref q6, .ref q7])), (q6, .inl (cI, 400, .inl f)), (q7, .inl (cI, 9, .inl g))] := hD
            refine lv_aload_n hx hb dV_finish_63 rfl (lv_at hl 0 rfl) ?_
            refine va_get (D := D) (ci := 2) (v := .int (nI (e + 1))) (C := "StatRows$VersionRow") (T := TV) (N := 3) hx hb ht inV hown hK hP 0 rfl rfl 2 (by decide) (ht _ wd59) (fun _ h9 => h9) rfl dV_finish_64 ?_
            refine lv_iconst (v := nI 1) hx hb dV_finish_67 (by decide) ?_
            refine lv_isub hx hb dV_finish_68 ?_
            refine zz_top (y := nI ((e + 1) - 1)) (pk_sub (a := e + 1) (b := 1) (by omega)) ?_
            exact zz_iretW (v := nI ((e + 1) - 1)) (w1 := fun u : ((Nat → Int32) × Nat) => [(q0, .inr (2, [.ref q1, .int (nI k), .int (nI u.2)])), (q1, .inl (cI, 320, .inl u.1)), (q5, .inr (0, [.ref q6, .ref q7])), (q6, .inl (cI, 400, .inl f)), (q7, .inl (cI, 9, .inl g))]) (zz, e + 1) hx hb hr hlocks (Or.inr ⟨by omega, rfl, rfl, fun j hj => by
              have h := hz j hj
              rw [show i = 8 by omega] at h
              exact h⟩) hP hK hD hS dV_finish_69
          · -- not taken
            have c26 : ¬ (8 ≤ i) := fun h => c26 ((nI_leI (a := 8) (b := i) (by omega) (by omega)).mpr h)
            refine lv_aload_n hx hb dV_finish_29 rfl (lv_at hl 0 rfl) ?_
            refine va_get (D := D) (ci := 2) (v := .ref q1) (C := "StatRows$VersionRow") (T := TV) (N := 3) hx hb ht inV hown hK hP 0 rfl rfl 0 (by decide) (ht _ wd57) (fun _ h9 => h9) rfl dV_finish_30 ?_
            refine lv_iload_n hx hb dV_finish_33 rfl (lv_at hl 2 rfl) ?_
            refine lv_aload_n hx hb dV_finish_34 rfl (lv_at hl 0 rfl) ?_
            refine va_get (D := D) (ci := 2) (v := .int (nI e)) (C := "StatRows$VersionRow") (T := TV) (N := 3) hx hb ht inV hown hK hP 0 rfl rfl 2 (by decide) (ht _ wd59) (fun _ h9 => h9) rfl dV_finish_35 ?_
            refine zz_ci (v := nI (e % 40 * 8 + i)) (W.runS (As := [.int (nI i), .int (nI e)]) (rest := [.ref q1]) ⟨hx, hb, hml, hown, ht⟩ (c_V_place l i e (by omega) he) (va_cwS 2 ht (gd_S wd344 wd345 wd4 wd346) rfl rfl rfl (by decide +kernel) ⟨Nat.le_of_ble_eq_true rfl, Nat.le_of_ble_eq_true rfl⟩) zz_N_S rfl rfl hl.1 rfl (lv_room (Nat.le_of_ble_eq_true rfl)) dV_finish_38 ⟨Nat.le_of_ble_eq_true rfl, Nat.le_of_ble_eq_true rfl⟩) ?_
            refine lv_aload_n hx hb dV_finish_41 rfl (lv_at hl 1 rfl) ?_
            refine lv_iload_n hx hb dV_finish_42 rfl (lv_at hl 2 rfl) ?_
            refine zz_ci (v := nI (tr_off Ls i + (Ls i).length - tr_off Ls i)) (W.runV (As := [.int (nI i)]) (rest := [.int (nI (e % 40 * 8 + i)), .ref q1]) ⟨hx, hb, hml, hown, ht⟩ (c_T_sizeOf l D cI cB q5 q6 q7 f g i (tr_off Ls i) (tr_off Ls i + (Ls i).length) (by omega) (hT.1 i (by omega)) (hT.1 (i + 1) (by omega)) (by omega)) (cwV 1 ht (gd_V wd347 wd153 wd154 wd2 wd155) rfl rfl rfl (by decide +kernel) ⟨Nat.le_of_ble_eq_true rfl, Nat.le_of_ble_eq_true rfl⟩) (zz_R_V hN hK (hP.sub (ws' := [(q5, .inr (0, [.ref q6, .ref q7])), (q6, .inl (cI, 400, .inl f)), (q7, .inl (cI, 9, .inl g))]) [2, 3, 4] rfl) 0 0 rfl rfl) rfl rfl hl.1 rfl (lv_room (Nat.le_of_ble_eq_true rfl)) dV_finish_43 ⟨Nat.le_of_ble_eq_true rfl, Nat.le_of_ble_eq_true rfl⟩) ?_
            refine zz_iast (k := e % 40 * 8 + i) hx hb hK hP hD hS 1 0 rfl rfl (by omega) (by decide) dV_finish_46 (fun H locs hP hD hS => ?_)
            have hP : va_P D vwCl [(q0, .inr (2, [.ref q1, .int (nI k), .int (nI e)])), (q1, .inl (cI, 320, .inl (upd zz (e % 40 * 8 + i) (nI (tr_off Ls i + (Ls i).length - tr_off Ls i))))), (q5, .inr (0, [.ref q6, .ref q7])), (q6, .inl (cI, 400, .inl f)), (q7, .inl (cI, 9, .inl g))] H := hP
            have hD : va_D A [(q0, .inr (2, [.ref q1, .int (nI k), .int (nI e)])), (q1, .inl (cI, 320, .inl (upd zz (e % 40 * 8 + i) (nI (tr_off Ls i + (Ls i).length - tr_off Ls i))))), (q5, .inr (0, [.ref q6, .ref q7])), (q6, .inl (cI, 400, .inl f)), (q7, .inl (cI, 9, .inl g))] := hD
            refine lv_iinc (v := nI (i + 1)) (lv' := [(2, .int (nI (i + 1))), (0, .ref q0), (1, .ref q5)]) hx hb dV_finish_47 hl (k := 2) rfl (nI_1 i) (by decide) rfl (fun ls hl => ?_)
            refine lv_goto (tgt := 23) hx hb dV_finish_50 (by decide) ?_
            exact ih23 (i + 1) (upd zz (e % 40 * 8 + i) (nI (tr_off Ls i + (Ls i).length - tr_off Ls i))) (by omega) (fun j hj => by
              by_cases h : j = e % 40 * 8 + i
              · rw [h, pk_us, if_pos (by omega), show e % 40 * 8 + i - e % 40 * 8 = i by omega, show tr_off Ls i + (Ls i).length - tr_off Ls i = (Ls i).length by omega]
              · rw [pk_un h, hz j hj]; by_cases h2 : e % 40 * 8 ≤ j ∧ j < e % 40 * 8 + i
                · rw [if_pos h2, if_pos (by omega)]
                · rw [if_neg h2, if_neg (by omega)]) (by omega) _ _ hP hD hS ls (lv_sub hl [1, 2, 0] rfl)
      exact lp23 ((8 - 0) + 1) 0 z (Nat.zero_le _) (fun j hj => by rw [if_neg (by omega)]) (Nat.lt_succ_self _) s.heap _ hP hD hS ls (lv_sub hl [1, 2, 0] rfl)
    · -- not taken
      exact absurd c15 (by
        intro q
        have a := congrArg Int32.toInt q
        rw [nI_toInt (by omega)] at a
        have b : (2147483647 : Int32).toInt = 2147483647 := rfl
        omega)

abbrev rm_G_rank : Room := { frames := 0, cells := 0, slots := 0, locals := 0 }
set_option maxHeartbeats 4000000 in
set_option maxRecDepth 100000 in
theorem c_G_rank (l : Launch) (D : va_G) (cI cB : ClassId) (q0 q1 : Nat) (rk : Nat → Int32) (i : Nat) (hi : i < 16) : Met l yG_rank wG_rank rm_G_rank (zz_R D vwCl [(cI, .int), (cB, .boolean)] [.ref q0, .int (nI i)] [(q0, .inr (3, [.ref q1])), (q1, .inl (cI, 16, .inl rk))]) (vp_Si (fun r : Int32 => r = rk i)) 0 0 (fun _ => False) := by
  refine Met.ofW (cc := cG_rank) (maxL := 2) (ret := (some .int)) (by decide) rfl ?_
  intro pg ev s mt args below meth kd s₁ B hml hv
  obtain ⟨rfl, hP, hK, hN⟩ := hv
  have hx := B.exec
  have hb := B.bytes
  have hr := B.returns
  have ht : ∀ w ∈ W0, w.before _ s = true := fun w h => atoms_spec (ws := wG_rank) B.pre w (List.mem_cons_of_mem _ h)
  have hown : s.vm.findClass "StatRows$RegisterRow" = some mt.cls := findClass_of_methodNamed B.named
  have hlocks := B.notSynchronized
  have hl := lv_entry ([.ref q0, .int (nI i)]) (n := 2) (Nat.le_of_ble_eq_true rfl)
  rw [lg_entry_eq]
  generalize (lg_sl ([.ref q0, .int (nI i)]) ++ List.replicate (2 - (lg_sl ([.ref q0, .int (nI i)])).length) Slot.unset).toArray = ls at hl ⊢
  have hl : lv_has ls 2 [(0, .ref q0), (1, .int (nI i))] := hl
  refine lv_aload_n hx hb dG_rank_0 rfl (lv_at hl 0 rfl) ?_
  refine va_get (D := D) (ci := 3) (v := .ref q1) (C := "StatRows$RegisterRow") (T := TG) (N := 1) hx hb ht inG hown hK hP 0 rfl rfl 0 (by decide) (ht _ wd73) (fun _ h9 => h9) rfl dG_rank_1 ?_
  refine lv_iload_n hx hb dG_rank_4 rfl (lv_at hl 1 rfl) ?_
  refine zz_iald (k := i) hx hb hK hP 1 0 rfl rfl (by omega) (by decide) dG_rank_5 ?_
  exact zz_iretR (v := rk i) hx hb hr hlocks (rfl) dG_rank_6

abbrev rm_G_rankOf : Room := { frames := 0, cells := 0, slots := 0, locals := 0 }
set_option maxHeartbeats 4000000 in
set_option maxRecDepth 100000 in
theorem c_G_rankOf (l : Launch) (x : Int32) (N : Nat) (hN : bn x = N) : Met l yG_rankOf wG_rankOf rm_G_rankOf (zz_N [.int x]) (vp_Si (fun r : Int32 => r = nI (rz N 28 + 1))) 0 0 (fun _ => False) := by
  refine Met.ofW (cc := cG_rankOf) (maxL := 2) (ret := (some .int)) (by decide) rfl ?_
  intro pg ev s mt args below meth kd s₁ B hml hv
  have hv : args = _ := hv
  subst hv
  have hx := B.exec
  have hb := B.bytes
  have hr := B.returns
  have ht : ∀ w ∈ W0, w.before _ s = true := fun w h => atoms_spec (ws := wG_rankOf) B.pre w (List.mem_cons_of_mem _ h)
  have hown : s.vm.findClass "StatRows$RegisterRow" = some mt.cls := findClass_of_methodNamed B.named
  have hlocks := B.notSynchronized
  have hl := lv_entry ([.int x]) (n := 2) (Nat.le_of_ble_eq_true rfl)
  rw [lg_entry_eq]
  generalize (lg_sl ([.int x]) ++ List.replicate (2 - (lg_sl ([.int x])).length) Slot.unset).toArray = ls at hl ⊢
  have hl : lv_has ls 2 [(0, .int x)] := hl
  have hle := rz_le 28 N
  refine lv_iconst (v := nI 0) hx hb dG_rankOf_0 (by decide) ?_
  refine lv_istore_n (lv' := [(1, .int (nI 0)), (0, .int x)]) hx hb dG_rankOf_1 rfl hl (by decide) rfl (fun ls hl => ?_)
  have lp2 : ∀ (fu : Nat) (i : Nat) (hi : i ≤ rz N 28) (hm : 28 - i < fu) (ls : Array Slot) (hl : lv_has ls 2 [(0, .int x), (1, .int (nI i))]), W pg l ev (headSpec wG_rankOf rm_G_rankOf).room s mt (([.int x] : List Value).toArray) below meth kd s.heap [] 0 0 (MQ below (vp_Si (fun r : Int32 => r = nI (rz N 28 + 1))) (([.int x] : List Value).toArray) s 0 0 (fun _ => False)) (F0 mt 2 ls []) := by
    intro fu
    induction fu with
    | zero => intro i hi hm; exact absurd hm (Nat.not_lt_zero _)
    | succ fu ih2 =>
      intro i hi hm ls hl
      refine lv_iload_n hx hb dG_rankOf_2 rfl (lv_at hl 1 rfl) ?_
      refine lv_bipush (v := nI 28) hx hb dG_rankOf_3 (by decide) ?_
      refine lv_icmp_ge (tgt := 22) hx hb dG_rankOf_5 (by decide) (fun c5 => ?_) (fun c5 => ?_)
      · -- taken
        have c5 : 28 ≤ i := (nI_leI (a := 28) (b := i) (by omega) (by omega)).mp c5
        have e : i = rz N 28 := by omega
        refine lv_iload_n hx hb dG_rankOf_22 rfl (lv_at hl 1 rfl) ?_
        refine lv_iconst (v := nI 1) hx hb dG_rankOf_23 (by decide) ?_
        refine lv_iadd hx hb dG_rankOf_24 ?_
        refine zz_top (y := nI (i + 1)) (nI_add i 1) ?_
        exact zz_iretR (v := nI (i + 1)) hx hb hr hlocks (congrArg nI (by omega)) dG_rankOf_25
      · -- not taken
        have c5 : ¬ (28 ≤ i) := fun h => c5 ((nI_leI (a := 28) (b := i) (by omega) (by omega)).mpr h)
        refine lv_iload_n hx hb dG_rankOf_8 rfl (lv_at hl 0 rfl) ?_
        refine lv_iload_n hx hb dG_rankOf_9 rfl (lv_at hl 1 rfl) ?_
        refine lv_iushr (v := (x.toUInt32 >>> ((nI i).toUInt32 &&& Int32.toUInt32 31)).toInt32) hx hb dG_rankOf_10 (rfl) ?_
        refine lv_iconst (v := nI 1) hx hb dG_rankOf_11 (by decide) ?_
        refine lv_iand hx hb dG_rankOf_12 ?_
        refine zz_top (y := nI (N / 2 ^ i % 2)) (by rw [← hN]; exact zz_bit x (by omega)) ?_
        have hm2 : N / 2 ^ i % 2 < 2 := Nat.mod_lt _ (by omega)
        refine lv_if_ne (tgt := 22) hx hb dG_rankOf_13 (by decide) (fun c13 => ?_) (fun c13 => ?_)
        · -- taken
          have c13 : ¬ (N / 2 ^ i % 2 = 0) := fun h => c13 ((nI_eq (a := N / 2 ^ i % 2) (b := 0) (by omega) (by omega)).mpr h)
          have e : i = rz N 28 := by
            rcases Nat.lt_or_ge i (rz N 28) with q | q
            · exact absurd (rz_lo 28 N i q) c13
            · omega
          refine lv_iload_n hx hb dG_rankOf_22 rfl (lv_at hl 1 rfl) ?_
          refine lv_iconst (v := nI 1) hx hb dG_rankOf_23 (by decide) ?_
          refine lv_iadd hx hb dG_rankOf_24 ?_
          refine zz_top (y := nI (i + 1)) (nI_add i 1) ?_
          exact zz_iretR (v := nI (i + 1)) hx hb hr hlocks (congrArg nI (by omega)) dG_rankOf_25
        · -- not taken
          have c13 : N / 2 ^ i % 2 = 0 := (nI_eq (a := N / 2 ^ i % 2) (b := 0) (by omega) (by omega)).mp c13
          refine lv_iinc (v := nI (i + 1)) (lv' := [(1, .int (nI (i + 1))), (0, .int x)]) hx hb dG_rankOf_16 hl (k := 1) rfl (nI_1 i) (by decide) rfl (fun ls hl => ?_)
          refine lv_goto (tgt := 2) hx hb dG_rankOf_19 (by decide) ?_
          exact ih2 (i + 1) (by
            rcases Nat.lt_or_ge i (rz N 28) with q | q
            · omega
            · have e1 : i = rz N 28 := by omega
              have := rz_hi 28 N (by omega)
              rw [← e1] at this; omega) (by omega) ls (lv_sub hl [1, 0] rfl)
  exact lp2 ((28 - 0) + 1) 0 (Nat.zero_le _) (Nat.lt_succ_self _) ls (lv_sub hl [1, 0] rfl)

abbrev rm_G_tell : Room := { frames := 1, cells := 0, slots := 0, locals := 32 }
set_option maxHeartbeats 4000000 in
set_option maxRecDepth 100000 in
theorem c_G_tell (l : Launch) (D : va_G) (cI cB : ClassId) (sz : Nat) (q0 q1 : Nat) (rk : Nat → Int32) (x : Int32) (Rn : Nat → Nat) (hR : ∀ i, i < 16 → rk i = nI (Rn i)) (hR2 : ∀ i, i < 16 → Rn i ≤ 29) : Met l yG_tell wG_tell rm_G_tell (zz_P D vwCl [(cI, .int), (cB, .boolean)] [.ref q0, .int x] [(q0, .inr (3, [.ref q1])), (q1, .inl (cI, 16, .inl rk))] sz) (va_Qv (fun u : (Nat → Int32) => ∀ i, i < 16 → u i = nI (if hix x = i then max (Rn i) (rnk x) else Rn i)) (fun u : (Nat → Int32) => zz_B D vwCl [(cI, .int), (cB, .boolean)] (va_A [(q0, .inr (3, [.ref q1])), (q1, .inl (cI, 16, .inl rk))] sz) [(q0, .inr (3, [.ref q1])), (q1, .inl (cI, 16, .inl u))]) (va_A [(q0, .inr (3, [.ref q1])), (q1, .inl (cI, 16, .inl rk))] sz)) 0 0 (va_A [(q0, .inr (3, [.ref q1])), (q1, .inl (cI, 16, .inl rk))] sz) := by
  refine Met.ofW (cc := cG_tell) (maxL := 3) (ret := none) (by decide) rfl ?_
  intro pg ev s mt args below meth kd s₁ B hml hv
  obtain ⟨rfl, hsz, hP, hK, hD0, hN⟩ := hv
  have hx := B.exec
  have hb := B.bytes
  have hr := B.returns
  have ht : ∀ w ∈ W0, w.before _ s = true := fun w h => atoms_spec (ws := wG_tell) B.pre w (List.mem_cons_of_mem _ h)
  have hown : s.vm.findClass "StatRows$RegisterRow" = some mt.cls := findClass_of_methodNamed B.named
  have hlocks := B.notSynchronized
  subst hsz
  have hD := hD0.self (sz := s.heap.size)
  generalize hAe : va_A [(q0, .inr (3, [.ref q1])), (q1, .inl (cI, 16, .inl rk))] s.heap.size = A at hD ⊢
  have hA : ∀ q : Nat, s.heap.size ≤ q → A q := fun q h => by rw [← hAe]; exact Or.inr h
  have hS : va_S A s.heap s.heap [] := va_S.rf
  have hP : va_P D vwCl [(q0, .inr (3, [.ref q1])), (q1, .inl (cI, 16, .inl rk))] s.heap := hP
  have hl := lv_entry ([.ref q0, .int x]) (n := 3) (Nat.le_of_ble_eq_true rfl)
  rw [lg_entry_eq]
  generalize (lg_sl ([.ref q0, .int x]) ++ List.replicate (3 - (lg_sl ([.ref q0, .int x])).length) Slot.unset).toArray = ls at hl ⊢
  have hl : lv_has ls 3 [(0, .ref q0), (1, .int x)] := hl
  have h16 : hix x < 16 := Nat.mod_lt _ (by decide)
  have hr29 := rnk_lt x
  have hR3 := hR2 _ h16
  refine lv_iload_n hx hb dG_tell_0 rfl (lv_at hl 1 rfl) ?_
  refine lv_bipush (v := nI 15) hx hb dG_tell_1 (by decide) ?_
  refine lv_iand hx hb dG_tell_3 ?_
  refine zz_top (y := nI (hix x)) (zz_and15 x) ?_
  refine lv_istore_n (lv' := [(2, .int (nI (hix x))), (0, .ref q0), (1, .int x)]) hx hb dG_tell_4 rfl hl (by decide) rfl (fun ls hl => ?_)
  refine lv_aload_n hx hb dG_tell_5 rfl (lv_at hl 1 rfl) ?_
  refine va_get (D := D) (ci := 3) (v := .ref q1) (C := "StatRows$RegisterRow") (T := TG) (N := 1) hx hb ht inG hown hK hP 0 rfl rfl 0 (by decide) (ht _ wd73) (fun _ h9 => h9) rfl dG_tell_6 ?_
  refine lv_iload_n hx hb dG_tell_9 rfl (lv_at hl 0 rfl) ?_
  refine lv_aload_n hx hb dG_tell_10 rfl (lv_at hl 1 rfl) ?_
  refine va_get (D := D) (ci := 3) (v := .ref q1) (C := "StatRows$RegisterRow") (T := TG) (N := 1) hx hb ht inG hown hK hP 0 rfl rfl 0 (by decide) (ht _ wd73) (fun _ h9 => h9) rfl dG_tell_11 ?_
  refine lv_iload_n hx hb dG_tell_14 rfl (lv_at hl 0 rfl) ?_
  refine zz_iald (k := hix x) hx hb hK hP 1 0 rfl rfl (by omega) (by decide) dG_tell_15 ?_
  refine zz_top (y := nI (Rn (hix x))) (hR _ h16) ?_
  refine lv_iload_n hx hb dG_tell_16 rfl (lv_at hl 2 rfl) ?_
  refine lv_iconst (v := nI 4) hx hb dG_tell_17 (by decide) ?_
  refine lv_iushr (v := (x.toUInt32 >>> ((nI 4).toUInt32 &&& Int32.toUInt32 31)).toInt32) hx hb dG_tell_18 (rfl) ?_
  refine zz_ci (v := nI (rz (bn x / 16) 28 + 1)) (W.runS (As := [.int ((x.toUInt32 >>> ((nI 4).toUInt32 &&& Int32.toUInt32 31)).toInt32)]) (rest := [.int (nI (Rn (hix x))), .int (nI (hix x)), .ref q1]) ⟨hx, hb, hml, hown, ht⟩ (c_G_rankOf l _ (bn x / 16) (zz_ush4 x)) (va_cwS 1 ht (gd_S wd248 wd249 wd5 wd250) rfl rfl rfl (by decide +kernel) ⟨Nat.le_of_ble_eq_true rfl, Nat.le_of_ble_eq_true rfl⟩) zz_N_S rfl rfl hl.1 rfl (lv_room (Nat.le_of_ble_eq_true rfl)) dG_tell_19 ⟨Nat.le_of_ble_eq_true rfl, Nat.le_of_ble_eq_true rfl⟩) ?_
  refine va_mmax (x := nI (Rn (hix x))) (y := nI (rz (bn x / 16) 28 + 1)) hx hb (hml.trans hl.1.symm) hown (ht _ wd251) (ht _ wd252) (ht _ wd9) (ht _ wd253) (Nat.le_of_ble_eq_true rfl) (Nat.le_of_ble_eq_true rfl) (Nat.le_of_ble_eq_true rfl) (Nat.le_of_ble_eq_true rfl) dG_tell_22 ?_
  refine zz_top (y := nI (max (Rn (hix x)) (rnk x))) (imax (b := rnk x) (by omega) (by omega)) ?_
  refine zz_iast (k := hix x) hx hb hK hP hD hS 1 0 rfl rfl (by omega) (by decide) dG_tell_25 (fun H locs hP hD hS => ?_)
  have hP : va_P D vwCl [(q0, .inr (3, [.ref q1])), (q1, .inl (cI, 16, .inl (upd rk (hix x) (nI (max (Rn (hix x)) (rnk x))))))] H := hP
  have hD : va_D A [(q0, .inr (3, [.ref q1])), (q1, .inl (cI, 16, .inl (upd rk (hix x) (nI (max (Rn (hix x)) (rnk x))))))] := hD
  exact zz_vretW (w1 := fun u : (Nat → Int32) => [(q0, .inr (3, [.ref q1])), (q1, .inl (cI, 16, .inl u))]) (upd rk (hix x) (nI (max (Rn (hix x)) (rnk x)))) hx hb hr hlocks (fun i hi => by
    by_cases q : i = hix x
    · rw [q, pk_us, if_pos rfl]
    · rw [pk_un q, if_neg (fun h => q h.symm)]; exact hR i hi) hP hK hD hS dG_tell_26

abbrev rm_G_tellAll : Room := { frames := 2, cells := 0, slots := 0, locals := 54 }
set_option maxHeartbeats 4000000 in
set_option maxRecDepth 100000 in
theorem c_G_tellAll (l : Launch) (D : va_G) (cI cB : ClassId) (sz : Nat) (q0 q1 : Nat) (rk : Nat → Int32) (qa : Nat) (ta : Nat → Int32) (pr : Nat → Bool) (hpr : ∀ s1, s1 < 256 → (nI 0 < ta s1 ↔ pr s1 = true)) : Met l yG_tellAll wG_tellAll rm_G_tellAll (zz_P D vwCl [(cI, .int), (cB, .boolean)] [.ref q0, .ref qa] [(q0, .inr (3, [.ref q1])), (q1, .inl (cI, 16, .inl rk)), (qa, .inl (cI, 256, .inl ta))] sz) (va_Qv (fun u : (Nat → Int32) => ∀ i, i < 16 → u i = nI (rkf pr i 256)) (fun u : (Nat → Int32) => zz_B D vwCl [(cI, .int), (cB, .boolean)] (va_A [(q0, .inr (3, [.ref q1])), (q1, .inl (cI, 16, .inl rk)), (qa, .inl (cI, 256, .inl ta))] sz) [(q0, .inr (3, [.ref q1])), (q1, .inl (cI, 16, .inl u)), (qa, .inl (cI, 256, .inl ta))]) (va_A [(q0, .inr (3, [.ref q1])), (q1, .inl (cI, 16, .inl rk)), (qa, .inl (cI, 256, .inl ta))] sz)) 0 0 (va_A [(q0, .inr (3, [.ref q1])), (q1, .inl (cI, 16, .inl rk)), (qa, .inl (cI, 256, .inl ta))] sz) := by
  refine Met.ofW (cc := cG_tellAll) (maxL := 3) (ret := none) (by decide) rfl ?_
  intro pg ev s mt args below meth kd s₁ B hml hv
  obtain ⟨rfl, hsz, hP, hK, hD0, hN⟩ := hv
  have hx := B.exec
  have hb := B.bytes
  have hr := B.returns
  have ht : ∀ w ∈ W0, w.before _ s = true := fun w h => atoms_spec (ws := wG_tellAll) B.pre w (List.mem_cons_of_mem _ h)
  have hown : s.vm.findClass "StatRows$RegisterRow" = some mt.cls := findClass_of_methodNamed B.named
  have hlocks := B.notSynchronized
  subst hsz
  have hD := hD0.self (sz := s.heap.size)
  generalize hAe : va_A [(q0, .inr (3, [.ref q1])), (q1, .inl (cI, 16, .inl rk)), (qa, .inl (cI, 256, .inl ta))] s.heap.size = A at hD ⊢
  have hA : ∀ q : Nat, s.heap.size ≤ q → A q := fun q h => by rw [← hAe]; exact Or.inr h
  have hS : va_S A s.heap s.heap [] := va_S.rf
  have hP : va_P D vwCl [(q0, .inr (3, [.ref q1])), (q1, .inl (cI, 16, .inl rk)), (qa, .inl (cI, 256, .inl ta))] s.heap := hP
  have hl := lv_entry ([.ref q0, .ref qa]) (n := 3) (Nat.le_of_ble_eq_true rfl)
  rw [lg_entry_eq]
  generalize (lg_sl ([.ref q0, .ref qa]) ++ List.replicate (3 - (lg_sl ([.ref q0, .ref qa])).length) Slot.unset).toArray = ls at hl ⊢
  have hl : lv_has ls 3 [(0, .ref q0), (1, .ref qa)] := hl
  refine lv_aload_n hx hb dG_tellAll_0 rfl (lv_at hl 0 rfl) ?_
  refine va_get (D := D) (ci := 3) (v := .ref q1) (C := "StatRows$RegisterRow") (T := TG) (N := 1) hx hb ht inG hown hK hP 0 rfl rfl 0 (by decide) (ht _ wd73) (fun _ h9 => h9) rfl dG_tellAll_1 ?_
  refine lv_iconst (v := nI 0) hx hb dG_tellAll_4 (by decide) ?_
  refine zz_wv (wc := [(q1, .inl (cI, 16, .inl rk))]) (wr := [(q0, .inr (3, [.ref q1])), (qa, .inl (cI, 256, .inl ta))]) (va_runS (As := [.ref q1, .int (nI 0)]) (rest := []) ⟨hx, hb, hml, hown, ht⟩ (c_JA_fill l D cI cB s.heap.size q1 16 rk (nI 0) (by decide)) (va_cwS 2 ht (gd_S wd242 wd165 wd8 wd166) rfl rfl rfl (by decide +kernel) ⟨Nat.le_of_ble_eq_true rfl, Nat.le_of_ble_eq_true rfl⟩) (zz_P_S hN hK (hP.sub (ws' := [(q1, .inl (cI, 16, .inl rk))]) [1] rfl) (hD.sub (ws' := [(q1, .inl (cI, 16, .inl rk))]) [1] (by decide) rfl)) rfl rfl hl.1 rfl (lv_room (Nat.le_of_ble_eq_true rfl)) dG_tellAll_5 ⟨Nat.le_of_ble_eq_true rfl, Nat.le_of_ble_eq_true rfl⟩) hP hD hS hA [1] [0, 2] rfl rfl (by decide) (by decide) (fun u5 H locs hq5 hP hD hS => ?_)
  have hP := hP.sub (ws' := [(q0, .inr (3, [.ref q1])), (q1, .inl (cI, 16, .inl u5)), (qa, .inl (cI, 256, .inl ta))]) [0, 2, 1] rfl
  have hD := hD.sub (ws' := [(q0, .inr (3, [.ref q1])), (q1, .inl (cI, 16, .inl u5)), (qa, .inl (cI, 256, .inl ta))]) [0, 2, 1] (by decide) rfl
  refine lv_iconst (v := nI 0) hx hb dG_tellAll_8 (by decide) ?_
  refine lv_istore_n (lv' := [(2, .int (nI 0)), (0, .ref q0), (1, .ref qa)]) hx hb dG_tellAll_9 rfl hl (by decide) rfl (fun ls hl => ?_)
  have lp10 : ∀ (fu : Nat) (i : Nat) (rr : Nat → Int32) (hi : i ≤ 256) (hr2 : ∀ j, j < 16 → rr j = nI (rkf pr j i)) (hm : 256 - i < fu) (H : Heap) (locs : List Loc) (hP : va_P D vwCl [(q0, .inr (3, [.ref q1])), (q1, .inl (cI, 16, .inl rr)), (qa, .inl (cI, 256, .inl ta))] H) (hD : va_D A [(q0, .inr (3, [.ref q1])), (q1, .inl (cI, 16, .inl rr)), (qa, .inl (cI, 256, .inl ta))]) (hS : va_S A s.heap H locs) (ls : Array Slot) (hl : lv_has ls 3 [(0, .ref q0), (1, .ref qa), (2, .int (nI i))]), W pg l ev (headSpec wG_tellAll rm_G_tellAll).room s mt (([.ref q0, .ref qa] : List Value).toArray) below meth kd H locs 0 0 (MQ below (va_Qv (fun u : (Nat → Int32) => ∀ i, i < 16 → u i = nI (rkf pr i 256)) (fun u : (Nat → Int32) => zz_B D vwCl [(cI, .int), (cB, .boolean)] A [(q0, .inr (3, [.ref q1])), (q1, .inl (cI, 16, .inl u)), (qa, .inl (cI, 256, .inl ta))]) A) (([.ref q0, .ref qa] : List Value).toArray) s 0 0 A) (F0 mt 10 ls []) := by
    intro fu
    induction fu with
    | zero => intro i rr hi hr2 hm; exact absurd hm (Nat.not_lt_zero _)
    | succ fu ih10 =>
      intro i rr hi hr2 hm H locs hP hD hS ls hl
      refine lv_iload_n hx hb dG_tellAll_10 rfl (lv_at hl 2 rfl) ?_
      refine lv_aload_n hx hb dG_tellAll_11 rfl (lv_at hl 1 rfl) ?_
      refine va_alen (v := nI 256) hx hb hK hP 2 0 rfl rfl rfl dG_tellAll_12 ?_
      refine lv_icmp_ge (tgt := 36) hx hb dG_tellAll_13 (by decide) (fun c13 => ?_) (fun c13 => ?_)
      · -- taken
        have c13 : 256 ≤ i := (nI_leI (a := 256) (b := i) (by omega) (by omega)).mp c13
        exact zz_vretW (w1 := fun u : (Nat → Int32) => [(q0, .inr (3, [.ref q1])), (q1, .inl (cI, 16, .inl u)), (qa, .inl (cI, 256, .inl ta))]) rr hx hb hr hlocks (fun j hj => by
          have h := hr2 j hj
          rw [show i = 256 by omega] at h
          exact h) hP hK hD hS dG_tellAll_36
      · -- not taken
        have c13 : ¬ (256 ≤ i) := fun h => c13 ((nI_leI (a := 256) (b := i) (by omega) (by omega)).mpr h)
        refine lv_aload_n hx hb dG_tellAll_16 rfl (lv_at hl 1 rfl) ?_
        refine lv_iload_n hx hb dG_tellAll_17 rfl (lv_at hl 2 rfl) ?_
        refine zz_iald (k := i) hx hb hK hP 2 0 rfl rfl (by omega) (by decide) dG_tellAll_18 ?_
        refine lv_if_le (tgt := 30) hx hb dG_tellAll_19 (by decide) (fun c19 => ?_) (fun c19 => ?_)
        · -- taken
          have hpi : ¬ pr i = true := fun q => by
            have := (hpr i (by omega)).mpr q
            exact absurd (Int32.lt_iff_toInt_lt.mp this) (by have := Int32.le_iff_toInt_le.mp c19; have e0 : (nI 0).toInt = 0 := rfl; have e1 : (0 : Int32).toInt = 0 := rfl; omega)
          refine lv_iinc (v := nI (i + 1)) (lv' := [(2, .int (nI (i + 1))), (0, .ref q0), (1, .ref qa)]) hx hb dG_tellAll_30 hl (k := 2) rfl (nI_1 i) (by decide) rfl (fun ls hl => ?_)
          refine lv_goto (tgt := 10) hx hb dG_tellAll_33 (by decide) ?_
          exact ih10 (i + 1) rr (by omega) (fun j hj => by rw [hr2 j hj]; rw [rkf_s, if_neg (fun h => hpi h.1)]) (by omega) _ _ hP hD hS ls (lv_sub hl [1, 2, 0] rfl)
        · -- not taken
          have hpi : pr i = true := (hpr i (by omega)).mp (Int32.lt_iff_toInt_lt.mpr (by
            have h9 : ¬ (ta i).toInt ≤ (0 : Int32).toInt := fun q => c19 (Int32.le_iff_toInt_le.mpr q)
            have e0 : (nI 0).toInt = 0 := rfl
            have e1 : (0 : Int32).toInt = 0 := rfl
            omega))
          refine lv_aload_n hx hb dG_tellAll_22 rfl (lv_at hl 0 rfl) ?_
          refine lv_iload_n hx hb dG_tellAll_23 rfl (lv_at hl 2 rfl) ?_
          refine zz_ci (v := hsh (nI i)) (zz_run (va_runSN (As := [.int (nI i)]) (rest := [.ref q0]) ⟨hx, hb, hml, hown, ht⟩ (c_X_hash l (nI i)) ⟨va_cnB 1 ht (gd_1 wd195) rfl rfl rfl hN.2 (ht _ wd1) (by decide +kernel) ⟨Nat.le_of_ble_eq_true rfl, Nat.le_of_ble_eq_true rfl⟩, ht _ wd194, trivial⟩ zz_N_S rfl rfl hl.1 rfl (lv_room (Nat.le_of_ble_eq_true rfl)) dG_tellAll_24 ⟨Nat.le_of_ble_eq_true rfl, Nat.le_of_ble_eq_true rfl⟩)) ?_
          refine zz_wv (wc := [(q0, .inr (3, [.ref q1])), (q1, .inl (cI, 16, .inl rr))]) (wr := [(qa, .inl (cI, 256, .inl ta))]) (va_runV (As := [.int (hsh (nI i))]) (rest := []) ⟨hx, hb, hml, hown, ht⟩ (c_G_tell l D cI cB H.size q0 q1 rr (hsh (nI i)) (fun j => rkf pr j i) hr2 (fun j _ => rkf_le pr j i)) (cwV 1 ht (gd_V wd244 wd246 wp12 wd5 wd247) rfl rfl rfl (by decide +kernel) ⟨Nat.le_of_ble_eq_true rfl, Nat.le_of_ble_eq_true rfl⟩) (zz_P_V hN hK (hP.sub (ws' := [(q0, .inr (3, [.ref q1])), (q1, .inl (cI, 16, .inl rr))]) [0, 1] rfl) (hD.sub (ws' := [(q0, .inr (3, [.ref q1])), (q1, .inl (cI, 16, .inl rr))]) [0, 1] (by decide) rfl) 3 0 rfl rfl) rfl rfl hl.1 rfl (lv_room (Nat.le_of_ble_eq_true rfl)) dG_tellAll_27 ⟨Nat.le_of_ble_eq_true rfl, Nat.le_of_ble_eq_true rfl⟩) hP hD hS hA [0, 1] [2] rfl rfl (by decide) (by decide) (fun u27 H locs hq27 hP hD hS => ?_)
          have hP := hP.sub (ws' := [(q0, .inr (3, [.ref q1])), (q1, .inl (cI, 16, .inl u27)), (qa, .inl (cI, 256, .inl ta))]) [1, 2, 0] rfl
          have hD := hD.sub (ws' := [(q0, .inr (3, [.ref q1])), (q1, .inl (cI, 16, .inl u27)), (qa, .inl (cI, 256, .inl ta))]) [1, 2, 0] (by decide) rfl
          refine lv_iinc (v := nI (i + 1)) (lv' := [(2, .int (nI (i + 1))), (0, .ref q0), (1, .ref qa)]) hx hb dG_tellAll_30 hl (k := 2) rfl (nI_1 i) (by decide) rfl (fun ls hl => ?_)
          refine lv_goto (tgt := 10) hx hb dG_tellAll_33 (by decide) ?_
          exact ih10 (i + 1) u27 (by omega) (fun j hj => by
            rw [hq27 j hj, rkf_s]
            by_cases q : hix (hsh (nI i)) = j
            · rw [if_pos q, if_pos ⟨hpi, q⟩]
            · rw [if_neg q, if_neg (fun h => q h.2)]) (by omega) _ _ hP hD hS ls (lv_sub hl [1, 2, 0] rfl)
  exact lp10 ((256 - 0) + 1) 0 u5 (Nat.zero_le _) (fun j hj => by rw [hq5 j hj]; rfl) (Nat.lt_succ_self _) _ _ hP hD hS ls (lv_sub hl [1, 2, 0] rfl)
