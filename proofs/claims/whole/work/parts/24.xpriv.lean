abbrev rm_X_isNumber : Room := { frames := 0, cells := 0, slots := 0, locals := 0 }
set_option maxHeartbeats 4000000 in
set_option maxRecDepth 100000 in
theorem c_X_isNumber (l : Launch) (x : Int32) : Met l yX_isNumber wX_isNumber rm_X_isNumber (zz_N [.int x]) (vp_Si (fun r : Int32 => r = nI (inr_ 256 x).toNat)) 0 0 (fun _ => False) := by
  refine Met.ofW (cc := cX_isNumber) (maxL := 1) (ret := (some .boolean)) (by decide) rfl ?_
  intro pg ev s mt args below meth kd s₁ B hml hv
  have hv : args = _ := hv
  subst hv
  have hx := B.exec
  have hb := B.bytes
  have hr := B.returns
  have ht : ∀ w ∈ W0, w.before _ s = true := fun w h => atoms_spec (ws := wX_isNumber) B.pre w (List.mem_cons_of_mem _ h)
  have hown : s.vm.findClass "StatRows" = some mt.cls := findClass_of_methodNamed B.named
  have hlocks := B.notSynchronized
  have hl := lv_entry ([.int x]) (n := 1) (Nat.le_of_ble_eq_true rfl)
  rw [lg_entry_eq]
  generalize (lg_sl ([.int x]) ++ List.replicate (1 - (lg_sl ([.int x])).length) Slot.unset).toArray = ls at hl ⊢
  have hl : lv_has ls 1 [(0, .int x)] := hl
  refine lv_iload_n hx hb dX_isNumber_0 rfl (lv_at hl 0 rfl) ?_
  refine lv_if_lt (tgt := 15) hx hb dX_isNumber_1 (by decide) (fun c1 => ?_) (fun c1 => ?_)
  · -- taken
    have hs : inr_ 256 x = false := decide_eq_false (fun q => q.1 c1)
    refine lv_iconst (v := nI 0) hx hb dX_isNumber_15 (by decide) ?_
    exact zz_zretR (v := nI 0) hx hb hr hlocks (by decide) (by rw [hs]; rfl) dX_isNumber_16
  · -- not taken
    refine lv_iload_n hx hb dX_isNumber_4 rfl (lv_at hl 0 rfl) ?_
    refine lv_sipush (v := nI 256) hx hb dX_isNumber_5 (by decide) ?_
    refine lv_icmp_ge (tgt := 15) hx hb dX_isNumber_8 (by decide) (fun c8 => ?_) (fun c8 => ?_)
    · -- taken
      have hs : inr_ 256 x = false := decide_eq_false (fun q => q.2 c8)
      refine lv_iconst (v := nI 0) hx hb dX_isNumber_15 (by decide) ?_
      exact zz_zretR (v := nI 0) hx hb hr hlocks (by decide) (by rw [hs]; rfl) dX_isNumber_16
    · -- not taken
      have hs : inr_ 256 x = true := decide_eq_true ⟨c1, c8⟩
      refine lv_iconst (v := nI 1) hx hb dX_isNumber_11 (by decide) ?_
      refine lv_goto (tgt := 16) hx hb dX_isNumber_12 (by decide) ?_
      exact zz_zretR (v := nI 1) hx hb hr hlocks (by decide) (by rw [hs]; rfl) dX_isNumber_16

abbrev rm_X_isPredicate : Room := { frames := 0, cells := 0, slots := 0, locals := 0 }
set_option maxHeartbeats 4000000 in
set_option maxRecDepth 100000 in
theorem c_X_isPredicate (l : Launch) (x : Int32) : Met l yX_isPredicate wX_isPredicate rm_X_isPredicate (zz_N [.int x]) (vp_Si (fun r : Int32 => r = nI (inr_ 8 x).toNat)) 0 0 (fun _ => False) := by
  refine Met.ofW (cc := cX_isPredicate) (maxL := 1) (ret := (some .boolean)) (by decide) rfl ?_
  intro pg ev s mt args below meth kd s₁ B hml hv
  have hv : args = _ := hv
  subst hv
  have hx := B.exec
  have hb := B.bytes
  have hr := B.returns
  have ht : ∀ w ∈ W0, w.before _ s = true := fun w h => atoms_spec (ws := wX_isPredicate) B.pre w (List.mem_cons_of_mem _ h)
  have hown : s.vm.findClass "StatRows" = some mt.cls := findClass_of_methodNamed B.named
  have hlocks := B.notSynchronized
  have hl := lv_entry ([.int x]) (n := 1) (Nat.le_of_ble_eq_true rfl)
  rw [lg_entry_eq]
  generalize (lg_sl ([.int x]) ++ List.replicate (1 - (lg_sl ([.int x])).length) Slot.unset).toArray = ls at hl ⊢
  have hl : lv_has ls 1 [(0, .int x)] := hl
  refine lv_iload_n hx hb dX_isPredicate_0 rfl (lv_at hl 0 rfl) ?_
  refine lv_if_lt (tgt := 14) hx hb dX_isPredicate_1 (by decide) (fun c1 => ?_) (fun c1 => ?_)
  · -- taken
    have hs : inr_ 8 x = false := decide_eq_false (fun q => q.1 c1)
    refine lv_iconst (v := nI 0) hx hb dX_isPredicate_14 (by decide) ?_
    exact zz_zretR (v := nI 0) hx hb hr hlocks (by decide) (by rw [hs]; rfl) dX_isPredicate_15
  · -- not taken
    refine lv_iload_n hx hb dX_isPredicate_4 rfl (lv_at hl 0 rfl) ?_
    refine lv_bipush (v := nI 8) hx hb dX_isPredicate_5 (by decide) ?_
    refine lv_icmp_ge (tgt := 14) hx hb dX_isPredicate_7 (by decide) (fun c7 => ?_) (fun c7 => ?_)
    · -- taken
      have hs : inr_ 8 x = false := decide_eq_false (fun q => q.2 c7)
      refine lv_iconst (v := nI 0) hx hb dX_isPredicate_14 (by decide) ?_
      exact zz_zretR (v := nI 0) hx hb hr hlocks (by decide) (by rw [hs]; rfl) dX_isPredicate_15
    · -- not taken
      have hs : inr_ 8 x = true := decide_eq_true ⟨c1, c7⟩
      refine lv_iconst (v := nI 1) hx hb dX_isPredicate_10 (by decide) ?_
      refine lv_goto (tgt := 15) hx hb dX_isPredicate_11 (by decide) ?_
      exact zz_zretR (v := nI 1) hx hb hr hlocks (by decide) (by rw [hs]; rfl) dX_isPredicate_15

abbrev rm_X_isPredicateSet : Room := { frames := 0, cells := 0, slots := 0, locals := 0 }
set_option maxHeartbeats 4000000 in
set_option maxRecDepth 100000 in
theorem c_X_isPredicateSet (l : Launch) (x : Int32) : Met l yX_isPredicateSet wX_isPredicateSet rm_X_isPredicateSet (zz_N [.int x]) (vp_Si (fun r : Int32 => r = nI (inr_ 256 x).toNat)) 0 0 (fun _ => False) := by
  refine Met.ofW (cc := cX_isPredicateSet) (maxL := 1) (ret := (some .boolean)) (by decide) rfl ?_
  intro pg ev s mt args below meth kd s₁ B hml hv
  have hv : args = _ := hv
  subst hv
  have hx := B.exec
  have hb := B.bytes
  have hr := B.returns
  have ht : ∀ w ∈ W0, w.before _ s = true := fun w h => atoms_spec (ws := wX_isPredicateSet) B.pre w (List.mem_cons_of_mem _ h)
  have hown : s.vm.findClass "StatRows" = some mt.cls := findClass_of_methodNamed B.named
  have hlocks := B.notSynchronized
  have hl := lv_entry ([.int x]) (n := 1) (Nat.le_of_ble_eq_true rfl)
  rw [lg_entry_eq]
  generalize (lg_sl ([.int x]) ++ List.replicate (1 - (lg_sl ([.int x])).length) Slot.unset).toArray = ls at hl ⊢
  have hl : lv_has ls 1 [(0, .int x)] := hl
  refine lv_iload_n hx hb dX_isPredicateSet_0 rfl (lv_at hl 0 rfl) ?_
  refine lv_if_lt (tgt := 15) hx hb dX_isPredicateSet_1 (by decide) (fun c1 => ?_) (fun c1 => ?_)
  · -- taken
    have hs : inr_ 256 x = false := decide_eq_false (fun q => q.1 c1)
    refine lv_iconst (v := nI 0) hx hb dX_isPredicateSet_15 (by decide) ?_
    exact zz_zretR (v := nI 0) hx hb hr hlocks (by decide) (by rw [hs]; rfl) dX_isPredicateSet_16
  · -- not taken
    refine lv_iload_n hx hb dX_isPredicateSet_4 rfl (lv_at hl 0 rfl) ?_
    refine lv_sipush (v := nI 256) hx hb dX_isPredicateSet_5 (by decide) ?_
    refine lv_icmp_ge (tgt := 15) hx hb dX_isPredicateSet_8 (by decide) (fun c8 => ?_) (fun c8 => ?_)
    · -- taken
      have hs : inr_ 256 x = false := decide_eq_false (fun q => q.2 c8)
      refine lv_iconst (v := nI 0) hx hb dX_isPredicateSet_15 (by decide) ?_
      exact zz_zretR (v := nI 0) hx hb hr hlocks (by decide) (by rw [hs]; rfl) dX_isPredicateSet_16
    · -- not taken
      have hs : inr_ 256 x = true := decide_eq_true ⟨c1, c8⟩
      refine lv_iconst (v := nI 1) hx hb dX_isPredicateSet_11 (by decide) ?_
      refine lv_goto (tgt := 16) hx hb dX_isPredicateSet_12 (by decide) ?_
      exact zz_zretR (v := nI 1) hx hb hr hlocks (by decide) (by rw [hs]; rfl) dX_isPredicateSet_16

abbrev rm_X_isNumberOrAny : Room := { frames := 1, cells := 0, slots := 0, locals := 20 }
set_option maxHeartbeats 4000000 in
set_option maxRecDepth 100000 in
theorem c_X_isNumberOrAny (l : Launch) (x : Int32) : Met l yX_isNumberOrAny wX_isNumberOrAny rm_X_isNumberOrAny (zz_N [.int x]) (vp_Si (fun r : Int32 => r = nI (decide (x = -1) || inr_ 256 x).toNat)) 0 0 (fun _ => False) := by
  refine Met.ofW (cc := cX_isNumberOrAny) (maxL := 1) (ret := (some .boolean)) (by decide) rfl ?_
  intro pg ev s mt args below meth kd s₁ B hml hv
  have hv : args = _ := hv
  subst hv
  have hx := B.exec
  have hb := B.bytes
  have hr := B.returns
  have ht : ∀ w ∈ W0, w.before _ s = true := fun w h => atoms_spec (ws := wX_isNumberOrAny) B.pre w (List.mem_cons_of_mem _ h)
  have hown : s.vm.findClass "StatRows" = some mt.cls := findClass_of_methodNamed B.named
  have hlocks := B.notSynchronized
  have hl := lv_entry ([.int x]) (n := 1) (Nat.le_of_ble_eq_true rfl)
  rw [lg_entry_eq]
  generalize (lg_sl ([.int x]) ++ List.replicate (1 - (lg_sl ([.int x])).length) Slot.unset).toArray = ls at hl ⊢
  have hl : lv_has ls 1 [(0, .int x)] := hl
  have b1 := btl (inr_ 256 x)
  refine lv_iload_n hx hb dX_isNumberOrAny_0 rfl (lv_at hl 0 rfl) ?_
  refine lv_iconst (v := (-1)) hx hb dX_isNumberOrAny_1 (by decide) ?_
  refine lv_icmp_eq (tgt := 12) hx hb dX_isNumberOrAny_2 (by decide) (fun c2 => ?_) (fun c2 => ?_)
  · -- taken
    have hs : (decide (x = -1) || inr_ 256 x) = true := by rw [decide_eq_true c2]; rfl
    refine lv_iconst (v := nI 1) hx hb dX_isNumberOrAny_12 (by decide) ?_
    refine lv_goto (tgt := 17) hx hb dX_isNumberOrAny_13 (by decide) ?_
    exact zz_zretR (v := nI 1) hx hb hr hlocks (by decide) (by rw [hs]; rfl) dX_isNumberOrAny_17
  · -- not taken
    refine lv_iload_n hx hb dX_isNumberOrAny_5 rfl (lv_at hl 0 rfl) ?_
    refine zz_ci (v := nI ((inr_ 256 x).toNat)) (W.runS (As := [.int x]) (rest := []) ⟨hx, hb, hml, hown, ht⟩ (c_X_isNumber l x) (va_cwS 1 ht (gd_S wd100 wd101 wd1 wd102) rfl rfl rfl (by decide +kernel) ⟨Nat.le_of_ble_eq_true rfl, Nat.le_of_ble_eq_true rfl⟩) zz_N_S rfl rfl hl.1 rfl (lv_room (Nat.le_of_ble_eq_true rfl)) dX_isNumberOrAny_6 ⟨Nat.le_of_ble_eq_true rfl, Nat.le_of_ble_eq_true rfl⟩) ?_
    refine lv_if_eq (tgt := 16) hx hb dX_isNumberOrAny_9 (by decide) (fun c9 => ?_) (fun c9 => ?_)
    · -- taken
      have c9 : (inr_ 256 x).toNat = 0 := (nI_eq (a := (inr_ 256 x).toNat) (b := 0) (by omega) (by omega)).mp c9
      have hs : (decide (x = -1) || inr_ 256 x) = false := by rw [decide_eq_false c2, bt0 c9]; rfl
      refine lv_iconst (v := nI 0) hx hb dX_isNumberOrAny_16 (by decide) ?_
      exact zz_zretR (v := nI 0) hx hb hr hlocks (by decide) (by rw [hs]; rfl) dX_isNumberOrAny_17
    · -- not taken
      have c9 : ¬ ((inr_ 256 x).toNat = 0) := fun h => c9 ((nI_eq (a := (inr_ 256 x).toNat) (b := 0) (by omega) (by omega)).mpr h)
      have hs : (decide (x = -1) || inr_ 256 x) = true := by rw [decide_eq_false c2, bt1 c9]; rfl
      refine lv_iconst (v := nI 1) hx hb dX_isNumberOrAny_12 (by decide) ?_
      refine lv_goto (tgt := 17) hx hb dX_isNumberOrAny_13 (by decide) ?_
      exact zz_zretR (v := nI 1) hx hb hr hlocks (by decide) (by rw [hs]; rfl) dX_isNumberOrAny_17

abbrev rm_X_isPredicateOrAny : Room := { frames := 1, cells := 0, slots := 0, locals := 20 }
set_option maxHeartbeats 4000000 in
set_option maxRecDepth 100000 in
theorem c_X_isPredicateOrAny (l : Launch) (x : Int32) : Met l yX_isPredicateOrAny wX_isPredicateOrAny rm_X_isPredicateOrAny (zz_N [.int x]) (vp_Si (fun r : Int32 => r = nI (decide (x = -1) || inr_ 8 x).toNat)) 0 0 (fun _ => False) := by
  refine Met.ofW (cc := cX_isPredicateOrAny) (maxL := 1) (ret := (some .boolean)) (by decide) rfl ?_
  intro pg ev s mt args below meth kd s₁ B hml hv
  have hv : args = _ := hv
  subst hv
  have hx := B.exec
  have hb := B.bytes
  have hr := B.returns
  have ht : ∀ w ∈ W0, w.before _ s = true := fun w h => atoms_spec (ws := wX_isPredicateOrAny) B.pre w (List.mem_cons_of_mem _ h)
  have hown : s.vm.findClass "StatRows" = some mt.cls := findClass_of_methodNamed B.named
  have hlocks := B.notSynchronized
  have hl := lv_entry ([.int x]) (n := 1) (Nat.le_of_ble_eq_true rfl)
  rw [lg_entry_eq]
  generalize (lg_sl ([.int x]) ++ List.replicate (1 - (lg_sl ([.int x])).length) Slot.unset).toArray = ls at hl ⊢
  have hl : lv_has ls 1 [(0, .int x)] := hl
  have b1 := btl (inr_ 8 x)
  refine lv_iload_n hx hb dX_isPredicateOrAny_0 rfl (lv_at hl 0 rfl) ?_
  refine lv_iconst (v := (-1)) hx hb dX_isPredicateOrAny_1 (by decide) ?_
  refine lv_icmp_eq (tgt := 12) hx hb dX_isPredicateOrAny_2 (by decide) (fun c2 => ?_) (fun c2 => ?_)
  · -- taken
    have hs : (decide (x = -1) || inr_ 8 x) = true := by rw [decide_eq_true c2]; rfl
    refine lv_iconst (v := nI 1) hx hb dX_isPredicateOrAny_12 (by decide) ?_
    refine lv_goto (tgt := 17) hx hb dX_isPredicateOrAny_13 (by decide) ?_
    exact zz_zretR (v := nI 1) hx hb hr hlocks (by decide) (by rw [hs]; rfl) dX_isPredicateOrAny_17
  · -- not taken
    refine lv_iload_n hx hb dX_isPredicateOrAny_5 rfl (lv_at hl 0 rfl) ?_
    refine zz_ci (v := nI ((inr_ 8 x).toNat)) (W.runS (As := [.int x]) (rest := []) ⟨hx, hb, hml, hown, ht⟩ (c_X_isPredicate l x) (va_cwS 1 ht (gd_S wd103 wd104 wd1 wd105) rfl rfl rfl (by decide +kernel) ⟨Nat.le_of_ble_eq_true rfl, Nat.le_of_ble_eq_true rfl⟩) zz_N_S rfl rfl hl.1 rfl (lv_room (Nat.le_of_ble_eq_true rfl)) dX_isPredicateOrAny_6 ⟨Nat.le_of_ble_eq_true rfl, Nat.le_of_ble_eq_true rfl⟩) ?_
    refine lv_if_eq (tgt := 16) hx hb dX_isPredicateOrAny_9 (by decide) (fun c9 => ?_) (fun c9 => ?_)
    · -- taken
      have c9 : (inr_ 8 x).toNat = 0 := (nI_eq (a := (inr_ 8 x).toNat) (b := 0) (by omega) (by omega)).mp c9
      have hs : (decide (x = -1) || inr_ 8 x) = false := by rw [decide_eq_false c2, bt0 c9]; rfl
      refine lv_iconst (v := nI 0) hx hb dX_isPredicateOrAny_16 (by decide) ?_
      exact zz_zretR (v := nI 0) hx hb hr hlocks (by decide) (by rw [hs]; rfl) dX_isPredicateOrAny_17
    · -- not taken
      have c9 : ¬ ((inr_ 8 x).toNat = 0) := fun h => c9 ((nI_eq (a := (inr_ 8 x).toNat) (b := 0) (by omega) (by omega)).mpr h)
      have hs : (decide (x = -1) || inr_ 8 x) = true := by rw [decide_eq_false c2, bt1 c9]; rfl
      refine lv_iconst (v := nI 1) hx hb dX_isPredicateOrAny_12 (by decide) ?_
      refine lv_goto (tgt := 17) hx hb dX_isPredicateOrAny_13 (by decide) ?_
      exact zz_zretR (v := nI 1) hx hb hr hlocks (by decide) (by rw [hs]; rfl) dX_isPredicateOrAny_17

abbrev rm_X_isTriple : Room := { frames := 1, cells := 0, slots := 0, locals := 20 }
set_option maxHeartbeats 4000000 in
set_option maxRecDepth 100000 in
theorem c_X_isTriple (l : Launch) (s1 p1 o1 : Int32) : Met l yX_isTriple wX_isTriple rm_X_isTriple (zz_N [.int s1, .int p1, .int o1]) (vp_Si (fun r : Int32 => r = nI (inr_ 256 s1 && inr_ 8 p1 && inr_ 256 o1).toNat)) 0 0 (fun _ => False) := by
  refine Met.ofW (cc := cX_isTriple) (maxL := 3) (ret := (some .boolean)) (by decide) rfl ?_
  intro pg ev s mt args below meth kd s₁ B hml hv
  have hv : args = _ := hv
  subst hv
  have hx := B.exec
  have hb := B.bytes
  have hr := B.returns
  have ht : ∀ w ∈ W0, w.before _ s = true := fun w h => atoms_spec (ws := wX_isTriple) B.pre w (List.mem_cons_of_mem _ h)
  have hown : s.vm.findClass "StatRows" = some mt.cls := findClass_of_methodNamed B.named
  have hlocks := B.notSynchronized
  have hl := lv_entry ([.int s1, .int p1, .int o1]) (n := 3) (Nat.le_of_ble_eq_true rfl)
  rw [lg_entry_eq]
  generalize (lg_sl ([.int s1, .int p1, .int o1]) ++ List.replicate (3 - (lg_sl ([.int s1, .int p1, .int o1])).length) Slot.unset).toArray = ls at hl ⊢
  have hl : lv_has ls 3 [(0, .int s1), (1, .int p1), (2, .int o1)] := hl
  have b1 := btl (inr_ 256 s1)
  have b2 := btl (inr_ 8 p1)
  have b3 := btl (inr_ 256 o1)
  refine lv_iload_n hx hb dX_isTriple_0 rfl (lv_at hl 0 rfl) ?_
  refine zz_ci (v := nI ((inr_ 256 s1).toNat)) (W.runS (As := [.int s1]) (rest := []) ⟨hx, hb, hml, hown, ht⟩ (c_X_isNumber l s1) (va_cwS 1 ht (gd_S wd100 wd101 wd1 wd102) rfl rfl rfl (by decide +kernel) ⟨Nat.le_of_ble_eq_true rfl, Nat.le_of_ble_eq_true rfl⟩) zz_N_S rfl rfl hl.1 rfl (lv_room (Nat.le_of_ble_eq_true rfl)) dX_isTriple_1 ⟨Nat.le_of_ble_eq_true rfl, Nat.le_of_ble_eq_true rfl⟩) ?_
  refine lv_if_eq (tgt := 25) hx hb dX_isTriple_4 (by decide) (fun c4 => ?_) (fun c4 => ?_)
  · -- taken
    have c4 : (inr_ 256 s1).toNat = 0 := (nI_eq (a := (inr_ 256 s1).toNat) (b := 0) (by omega) (by omega)).mp c4
    have hs : (inr_ 256 s1 && inr_ 8 p1 && inr_ 256 o1) = false := by rw [bt0 c4]; rfl
    refine lv_iconst (v := nI 0) hx hb dX_isTriple_25 (by decide) ?_
    exact zz_zretR (v := nI 0) hx hb hr hlocks (by decide) (by rw [hs]; rfl) dX_isTriple_26
  · -- not taken
    have c4 : ¬ ((inr_ 256 s1).toNat = 0) := fun h => c4 ((nI_eq (a := (inr_ 256 s1).toNat) (b := 0) (by omega) (by omega)).mpr h)
    have e1 := bt1 c4
    refine lv_iload_n hx hb dX_isTriple_7 rfl (lv_at hl 1 rfl) ?_
    refine zz_ci (v := nI ((inr_ 8 p1).toNat)) (W.runS (As := [.int p1]) (rest := []) ⟨hx, hb, hml, hown, ht⟩ (c_X_isPredicate l p1) (va_cwS 1 ht (gd_S wd103 wd104 wd1 wd105) rfl rfl rfl (by decide +kernel) ⟨Nat.le_of_ble_eq_true rfl, Nat.le_of_ble_eq_true rfl⟩) zz_N_S rfl rfl hl.1 rfl (lv_room (Nat.le_of_ble_eq_true rfl)) dX_isTriple_8 ⟨Nat.le_of_ble_eq_true rfl, Nat.le_of_ble_eq_true rfl⟩) ?_
    refine lv_if_eq (tgt := 25) hx hb dX_isTriple_11 (by decide) (fun c11 => ?_) (fun c11 => ?_)
    · -- taken
      have c11 : (inr_ 8 p1).toNat = 0 := (nI_eq (a := (inr_ 8 p1).toNat) (b := 0) (by omega) (by omega)).mp c11
      have hs : (inr_ 256 s1 && inr_ 8 p1 && inr_ 256 o1) = false := by rw [e1, bt0 c11]; rfl
      refine lv_iconst (v := nI 0) hx hb dX_isTriple_25 (by decide) ?_
      exact zz_zretR (v := nI 0) hx hb hr hlocks (by decide) (by rw [hs]; rfl) dX_isTriple_26
    · -- not taken
      have c11 : ¬ ((inr_ 8 p1).toNat = 0) := fun h => c11 ((nI_eq (a := (inr_ 8 p1).toNat) (b := 0) (by omega) (by omega)).mpr h)
      have e2 := bt1 c11
      refine lv_iload_n hx hb dX_isTriple_14 rfl (lv_at hl 2 rfl) ?_
      refine zz_ci (v := nI ((inr_ 256 o1).toNat)) (W.runS (As := [.int o1]) (rest := []) ⟨hx, hb, hml, hown, ht⟩ (c_X_isNumber l o1) (va_cwS 1 ht (gd_S wd100 wd101 wd1 wd102) rfl rfl rfl (by decide +kernel) ⟨Nat.le_of_ble_eq_true rfl, Nat.le_of_ble_eq_true rfl⟩) zz_N_S rfl rfl hl.1 rfl (lv_room (Nat.le_of_ble_eq_true rfl)) dX_isTriple_15 ⟨Nat.le_of_ble_eq_true rfl, Nat.le_of_ble_eq_true rfl⟩) ?_
      refine lv_if_eq (tgt := 25) hx hb dX_isTriple_18 (by decide) (fun c18 => ?_) (fun c18 => ?_)
      · -- taken
        have c18 : (inr_ 256 o1).toNat = 0 := (nI_eq (a := (inr_ 256 o1).toNat) (b := 0) (by omega) (by omega)).mp c18
        have hs : (inr_ 256 s1 && inr_ 8 p1 && inr_ 256 o1) = false := by rw [e1, e2, bt0 c18]; rfl
        refine lv_iconst (v := nI 0) hx hb dX_isTriple_25 (by decide) ?_
        exact zz_zretR (v := nI 0) hx hb hr hlocks (by decide) (by rw [hs]; rfl) dX_isTriple_26
      · -- not taken
        have c18 : ¬ ((inr_ 256 o1).toNat = 0) := fun h => c18 ((nI_eq (a := (inr_ 256 o1).toNat) (b := 0) (by omega) (by omega)).mpr h)
        have hs : (inr_ 256 s1 && inr_ 8 p1 && inr_ 256 o1) = true := by rw [e1, e2, bt1 c18]; rfl
        refine lv_iconst (v := nI 1) hx hb dX_isTriple_21 (by decide) ?_
        refine lv_goto (tgt := 26) hx hb dX_isTriple_22 (by decide) ?_
        exact zz_zretR (v := nI 1) hx hb hr hlocks (by decide) (by rw [hs]; rfl) dX_isTriple_26

abbrev rm_X_pair : Room := { frames := 0, cells := 0, slots := 0, locals := 0 }
set_option maxHeartbeats 4000000 in
set_option maxRecDepth 100000 in
theorem c_X_pair (l : Launch) (a b : Nat) : Met l yX_pair wX_pair rm_X_pair (zz_N [.int (nI a), .int (nI b)]) (vp_Si (fun r : Int32 => r = nI (256 * a + b))) 0 0 (fun _ => False) := by
  refine Met.ofW (cc := cX_pair) (maxL := 2) (ret := (some .int)) (by decide) rfl ?_
  intro pg ev s mt args below meth kd s₁ B hml hv
  have hv : args = _ := hv
  subst hv
  have hx := B.exec
  have hb := B.bytes
  have hr := B.returns
  have ht : ∀ w ∈ W0, w.before _ s = true := fun w h => atoms_spec (ws := wX_pair) B.pre w (List.mem_cons_of_mem _ h)
  have hown : s.vm.findClass "StatRows" = some mt.cls := findClass_of_methodNamed B.named
  have hlocks := B.notSynchronized
  have hl := lv_entry ([.int (nI a), .int (nI b)]) (n := 2) (Nat.le_of_ble_eq_true rfl)
  rw [lg_entry_eq]
  generalize (lg_sl ([.int (nI a), .int (nI b)]) ++ List.replicate (2 - (lg_sl ([.int (nI a), .int (nI b)])).length) Slot.unset).toArray = ls at hl ⊢
  have hl : lv_has ls 2 [(0, .int (nI a)), (1, .int (nI b))] := hl
  refine lv_sipush (v := nI 256) hx hb dX_pair_0 (by decide) ?_
  refine lv_iload_n hx hb dX_pair_3 rfl (lv_at hl 0 rfl) ?_
  refine lv_imul hx hb dX_pair_4 ?_
  refine zz_top (y := nI (256 * a)) (pk_mul 256 a) ?_
  refine lv_iload_n hx hb dX_pair_5 rfl (lv_at hl 1 rfl) ?_
  refine lv_iadd hx hb dX_pair_6 ?_
  refine zz_top (y := nI ((256 * a) + b)) (nI_add (256 * a) b) ?_
  exact zz_iretR (v := nI ((256 * a) + b)) hx hb hr hlocks (rfl) dX_pair_7

abbrev rm_X_shared : Room := { frames := 1, cells := 0, slots := 0, locals := 32 }
set_option maxHeartbeats 4000000 in
set_option maxRecDepth 100000 in
theorem c_X_shared (l : Launch) (a : Nat) (ha : a ≤ 224) (fr to : Int32) : Met l yX_shared wX_shared rm_X_shared (zz_N [.int (nI a), .int (nI (a + 31)), .int fr, .int to]) (vp_Si (fun r : Int32 => r = nI (many a fr to))) 0 0 (fun _ => False) := by
  refine Met.ofW (cc := cX_shared) (maxL := 6) (ret := (some .int)) (by decide) rfl ?_
  intro pg ev s mt args below meth kd s₁ B hml hv
  have hv : args = _ := hv
  subst hv
  have hx := B.exec
  have hb := B.bytes
  have hr := B.returns
  have ht : ∀ w ∈ W0, w.before _ s = true := fun w h => atoms_spec (ws := wX_shared) B.pre w (List.mem_cons_of_mem _ h)
  have hown : s.vm.findClass "StatRows" = some mt.cls := findClass_of_methodNamed B.named
  have hlocks := B.notSynchronized
  have hl := lv_entry ([.int (nI a), .int (nI (a + 31)), .int fr, .int to]) (n := 6) (Nat.le_of_ble_eq_true rfl)
  rw [lg_entry_eq]
  generalize (lg_sl ([.int (nI a), .int (nI (a + 31)), .int fr, .int to]) ++ List.replicate (6 - (lg_sl ([.int (nI a), .int (nI (a + 31)), .int fr, .int to])).length) Slot.unset).toArray = ls at hl ⊢
  have hl : lv_has ls 6 [(0, .int (nI a)), (1, .int (nI (a + 31))), (2, .int fr), (3, .int to)] := hl
  refine lv_iload_n hx hb dX_shared_0 rfl (lv_at hl 0 rfl) ?_
  refine lv_iload_n hx hb dX_shared_1 rfl (lv_at hl 2 rfl) ?_
  refine va_mmax (x := nI a) (y := fr) hx hb (hml.trans hl.1.symm) hown (ht _ wd278) (ht _ wd252) (ht _ wd9) (ht _ wd253) (Nat.le_of_ble_eq_true rfl) (Nat.le_of_ble_eq_true rfl) (Nat.le_of_ble_eq_true rfl) (Nat.le_of_ble_eq_true rfl) dX_shared_2 ?_
  refine lv_topi (fun lo elo => ?_)
  refine lv_istore (lv' := [(4, .int lo), (0, .int (nI a)), (1, .int (nI (a + 31))), (2, .int fr), (3, .int to)]) hx hb dX_shared_5 hl (by decide) rfl (fun ls hl => ?_)
  refine lv_iload_n hx hb dX_shared_7 rfl (lv_at hl 2 rfl) ?_
  refine lv_iload_n hx hb dX_shared_8 rfl (lv_at hl 4 rfl) ?_
  refine va_mmin (x := nI (a + 31)) (y := to) hx hb (hml.trans hl.1.symm) hown (ht _ wd291) (ht _ wd292) (ht _ wd9) (ht _ wd293) (Nat.le_of_ble_eq_true rfl) (Nat.le_of_ble_eq_true rfl) (Nat.le_of_ble_eq_true rfl) (Nat.le_of_ble_eq_true rfl) dX_shared_9 ?_
  refine lv_topi (fun hi ehi => ?_)
  refine lv_istore (lv' := [(5, .int hi), (4, .int lo), (0, .int (nI a)), (1, .int (nI (a + 31))), (2, .int fr), (3, .int to)]) hx hb dX_shared_12 hl (by decide) rfl (fun ls hl => ?_)
  refine lv_iload hx hb dX_shared_14 (lv_at hl 1 rfl) ?_
  refine lv_iload hx hb dX_shared_16 (lv_at hl 0 rfl) ?_
  refine lv_icmp_le (tgt := 25) hx hb dX_shared_18 (by decide) (fun c18 => ?_) (fun c18 => ?_)
  · -- taken
    refine lv_iload hx hb dX_shared_25 (lv_at hl 0 rfl) ?_
    refine lv_iload hx hb dX_shared_27 (lv_at hl 1 rfl) ?_
    refine lv_isub hx hb dX_shared_29 ?_
    refine lv_iconst (v := nI 1) hx hb dX_shared_30 (by decide) ?_
    refine lv_iadd hx hb dX_shared_31 ?_
    exact zz_iretR (v := (hi - lo) + (nI 1)) hx hb hr hlocks (shared1 ha elo ehi c18) dX_shared_32
  · -- not taken
    refine lv_iconst (v := nI 0) hx hb dX_shared_21 (by decide) ?_
    refine lv_goto (tgt := 32) hx hb dX_shared_22 (by decide) ?_
    exact zz_iretR (v := nI 0) hx hb hr hlocks (shared0 ha elo ehi c18) dX_shared_32

abbrev rm_X_clearTally : Room := { frames := 1, cells := 0, slots := 0, locals := 23 }
set_option maxHeartbeats 4000000 in
set_option maxRecDepth 100000 in
theorem c_X_clearTally (l : Launch) (D : va_G) (cI cB : ClassId) (sz : Nat) (x0 t0 t1 t2 p0 v0 g0 ta : Nat) (tl : Nat → Int32) : Met l yX_clearTally wX_clearTally rm_X_clearTally (zz_P D vwCl [(cI, .int), (cB, .boolean)] [.ref x0] [(x0, .inr (4, [.ref t0, .ref p0, .ref v0, .ref g0, .ref ta])), (ta, .inl (cI, 256, .inl tl))] sz) (va_Qv (fun u : (Nat → Int32) => ∀ j, j < 256 → u j = nI 0) (fun u : (Nat → Int32) => zz_B D vwCl [(cI, .int), (cB, .boolean)] (va_A [(x0, .inr (4, [.ref t0, .ref p0, .ref v0, .ref g0, .ref ta])), (ta, .inl (cI, 256, .inl tl))] sz) [(x0, .inr (4, [.ref t0, .ref p0, .ref v0, .ref g0, .ref ta])), (ta, .inl (cI, 256, .inl u))]) (va_A [(x0, .inr (4, [.ref t0, .ref p0, .ref v0, .ref g0, .ref ta])), (ta, .inl (cI, 256, .inl tl))] sz)) 0 0 (va_A [(x0, .inr (4, [.ref t0, .ref p0, .ref v0, .ref g0, .ref ta])), (ta, .inl (cI, 256, .inl tl))] sz) := by
  refine Met.ofW (cc := cX_clearTally) (maxL := 1) (ret := none) (by decide) rfl ?_
  intro pg ev s mt args below meth kd s₁ B hml hv
  obtain ⟨rfl, hsz, hP, hK, hD0, hN⟩ := hv
  have hx := B.exec
  have hb := B.bytes
  have hr := B.returns
  have ht : ∀ w ∈ W0, w.before _ s = true := fun w h => atoms_spec (ws := wX_clearTally) B.pre w (List.mem_cons_of_mem _ h)
  have hown : s.vm.findClass "StatRows" = some mt.cls := findClass_of_methodNamed B.named
  have hlocks := B.notSynchronized
  subst hsz
  have hD := hD0.self (sz := s.heap.size)
  generalize hAe : va_A [(x0, .inr (4, [.ref t0, .ref p0, .ref v0, .ref g0, .ref ta])), (ta, .inl (cI, 256, .inl tl))] s.heap.size = A at hD ⊢
  have hA : ∀ q : Nat, s.heap.size ≤ q → A q := fun q h => by rw [← hAe]; exact Or.inr h
  have hS : va_S A s.heap s.heap [] := va_S.rf
  have hP : va_P D vwCl [(x0, .inr (4, [.ref t0, .ref p0, .ref v0, .ref g0, .ref ta])), (ta, .inl (cI, 256, .inl tl))] s.heap := hP
  have hl := lv_entry ([.ref x0]) (n := 1) (Nat.le_of_ble_eq_true rfl)
  rw [lg_entry_eq]
  generalize (lg_sl ([.ref x0]) ++ List.replicate (1 - (lg_sl ([.ref x0])).length) Slot.unset).toArray = ls at hl ⊢
  have hl : lv_has ls 1 [(0, .ref x0)] := hl
  refine lv_aload_n hx hb dX_clearTally_0 rfl (lv_at hl 0 rfl) ?_
  refine va_get (D := D) (ci := 4) (v := .ref ta) (C := "StatRows") (T := TX) (N := 5) hx hb ht inX hown hK hP 0 rfl rfl 4 (by decide) (ht _ wd81) (fun _ h9 => h9) rfl dX_clearTally_1 ?_
  refine lv_iconst (v := nI 0) hx hb dX_clearTally_4 (by decide) ?_
  refine zz_wv (wc := [(ta, .inl (cI, 256, .inl tl))]) (wr := [(x0, .inr (4, [.ref t0, .ref p0, .ref v0, .ref g0, .ref ta]))]) (va_runS (As := [.ref ta, .int (nI 0)]) (rest := []) ⟨hx, hb, hml, hown, ht⟩ (c_JA_fill l D cI cB s.heap.size ta 256 tl (nI 0) (by decide)) (va_cwS 2 ht (gd_S wd164 wd165 wd8 wd166) rfl rfl rfl (by decide +kernel) ⟨Nat.le_of_ble_eq_true rfl, Nat.le_of_ble_eq_true rfl⟩) (zz_P_S hN hK (hP.sub (ws' := [(ta, .inl (cI, 256, .inl tl))]) [1] rfl) (hD.sub (ws' := [(ta, .inl (cI, 256, .inl tl))]) [1] (by decide) rfl)) rfl rfl hl.1 rfl (lv_room (Nat.le_of_ble_eq_true rfl)) dX_clearTally_5 ⟨Nat.le_of_ble_eq_true rfl, Nat.le_of_ble_eq_true rfl⟩) hP hD hS hA [1] [0] rfl rfl (by decide) (by decide) (fun u5 H locs hq5 hP hD hS => ?_)
  have hP := hP.sub (ws' := [(x0, .inr (4, [.ref t0, .ref p0, .ref v0, .ref g0, .ref ta])), (ta, .inl (cI, 256, .inl u5))]) [0, 1] rfl
  have hD := hD.sub (ws' := [(x0, .inr (4, [.ref t0, .ref p0, .ref v0, .ref g0, .ref ta])), (ta, .inl (cI, 256, .inl u5))]) [0, 1] (by decide) rfl
  exact zz_vretW (w1 := fun u : (Nat → Int32) => [(x0, .inr (4, [.ref t0, .ref p0, .ref v0, .ref g0, .ref ta])), (ta, .inl (cI, 256, .inl u))]) u5 hx hb hr hlocks (hq5) hP hK hD hS dX_clearTally_8

abbrev rm_X_tallySubjects : Room := { frames := 1, cells := 0, slots := 0, locals := 21 }
set_option maxHeartbeats 4000000 in
set_option maxRecDepth 100000 in
theorem c_X_tallySubjects (l : Launch) (D : va_G) (cI cB : ClassId) (sz : Nat) (x0 t0 t1 t2 p0 v0 g0 ta : Nat) (f g : Nat → Int32) (Ls : Nat → List Nat) (hT : RT Ls f g) (tl : Nat → Int32) (tv : Nat → Nat) (htv : ∀ v, v < 256 → tl v = nI (tv v)) (pp : Nat) (hp : pp < 8) : Met l yX_tallySubjects wX_tallySubjects rm_X_tallySubjects (zz_P D vwCl [(cI, .int), (cB, .boolean)] [.ref x0, .int (nI pp)] [(x0, .inr (4, [.ref t0, .ref p0, .ref v0, .ref g0, .ref ta])), (t0, .inr (0, [.ref t1, .ref t2])), (t1, .inl (cI, 400, .inl f)), (t2, .inl (cI, 9, .inl g)), (ta, .inl (cI, 256, .inl tl))] sz) (va_Qv (fun u : (Nat → Int32) => ∀ v, v < 256 → u v = nI (tv v + (Ls pp).countP (fun c => sub_ c == v))) (fun u : (Nat → Int32) => zz_B D vwCl [(cI, .int), (cB, .boolean)] (va_A [(x0, .inr (4, [.ref t0, .ref p0, .ref v0, .ref g0, .ref ta])), (t0, .inr (0, [.ref t1, .ref t2])), (t1, .inl (cI, 400, .inl f)), (t2, .inl (cI, 9, .inl g)), (ta, .inl (cI, 256, .inl tl))] sz) [(x0, .inr (4, [.ref t0, .ref p0, .ref v0, .ref g0, .ref ta])), (t0, .inr (0, [.ref t1, .ref t2])), (t1, .inl (cI, 400, .inl f)), (t2, .inl (cI, 9, .inl g)), (ta, .inl (cI, 256, .inl u))]) (va_A [(x0, .inr (4, [.ref t0, .ref p0, .ref v0, .ref g0, .ref ta])), (t0, .inr (0, [.ref t1, .ref t2])), (t1, .inl (cI, 400, .inl f)), (t2, .inl (cI, 9, .inl g)), (ta, .inl (cI, 256, .inl tl))] sz)) 0 0 (va_A [(x0, .inr (4, [.ref t0, .ref p0, .ref v0, .ref g0, .ref ta])), (t0, .inr (0, [.ref t1, .ref t2])), (t1, .inl (cI, 400, .inl f)), (t2, .inl (cI, 9, .inl g)), (ta, .inl (cI, 256, .inl tl))] sz) := by
  refine Met.ofW (cc := cX_tallySubjects) (maxL := 4) (ret := none) (by decide) rfl ?_
  intro pg ev s mt args below meth kd s₁ B hml hv
  obtain ⟨rfl, hsz, hP, hK, hD0, hN⟩ := hv
  have hx := B.exec
  have hb := B.bytes
  have hr := B.returns
  have ht : ∀ w ∈ W0, w.before _ s = true := fun w h => atoms_spec (ws := wX_tallySubjects) B.pre w (List.mem_cons_of_mem _ h)
  have hown : s.vm.findClass "StatRows" = some mt.cls := findClass_of_methodNamed B.named
  have hlocks := B.notSynchronized
  subst hsz
  have hD := hD0.self (sz := s.heap.size)
  generalize hAe : va_A [(x0, .inr (4, [.ref t0, .ref p0, .ref v0, .ref g0, .ref ta])), (t0, .inr (0, [.ref t1, .ref t2])), (t1, .inl (cI, 400, .inl f)), (t2, .inl (cI, 9, .inl g)), (ta, .inl (cI, 256, .inl tl))] s.heap.size = A at hD ⊢
  have hA : ∀ q : Nat, s.heap.size ≤ q → A q := fun q h => by rw [← hAe]; exact Or.inr h
  have hS : va_S A s.heap s.heap [] := va_S.rf
  have hP : va_P D vwCl [(x0, .inr (4, [.ref t0, .ref p0, .ref v0, .ref g0, .ref ta])), (t0, .inr (0, [.ref t1, .ref t2])), (t1, .inl (cI, 400, .inl f)), (t2, .inl (cI, 9, .inl g)), (ta, .inl (cI, 256, .inl tl))] s.heap := hP
  have hl := lv_entry ([.ref x0, .int (nI pp)]) (n := 4) (Nat.le_of_ble_eq_true rfl)
  rw [lg_entry_eq]
  generalize (lg_sl ([.ref x0, .int (nI pp)]) ++ List.replicate (4 - (lg_sl ([.ref x0, .int (nI pp)])).length) Slot.unset).toArray = ls at hl ⊢
  have hl : lv_has ls 4 [(0, .ref x0), (1, .int (nI pp))] := hl
  have htp := tr_top (Ls := Ls) hp
  have h400 := hT.2.2.1
  refine lv_aload_n hx hb dX_tallySubjects_0 rfl (lv_at hl 0 rfl) ?_
  refine va_get (D := D) (ci := 4) (v := .ref t0) (C := "StatRows") (T := TX) (N := 5) hx hb ht inX hown hK hP 0 rfl rfl 0 (by decide) (ht _ wd77) (fun _ h9 => h9) rfl dX_tallySubjects_1 ?_
  refine lv_iload_n hx hb dX_tallySubjects_4 rfl (lv_at hl 1 rfl) ?_
  refine zz_ci (v := nI (tr_off Ls pp + (Ls pp).length)) (W.runV (As := [.int (nI pp)]) (rest := []) ⟨hx, hb, hml, hown, ht⟩ (c_T_end l D cI cB t0 t1 t2 f g pp (tr_off Ls pp + (Ls pp).length) hp (hT.1 (pp + 1) (by omega))) (cwV 1 ht (gd_V wd171 wd118 wd119 wd2 wd120) rfl rfl rfl (by decide +kernel) ⟨Nat.le_of_ble_eq_true rfl, Nat.le_of_ble_eq_true rfl⟩) (zz_R_V hN hK (hP.sub (ws' := [(t0, .inr (0, [.ref t1, .ref t2])), (t1, .inl (cI, 400, .inl f)), (t2, .inl (cI, 9, .inl g))]) [1, 2, 3] rfl) 0 0 rfl rfl) rfl rfl hl.1 rfl (lv_room (Nat.le_of_ble_eq_true rfl)) dX_tallySubjects_5 ⟨Nat.le_of_ble_eq_true rfl, Nat.le_of_ble_eq_true rfl⟩) ?_
  refine lv_istore_n (lv' := [(2, .int (nI (tr_off Ls pp + (Ls pp).length))), (0, .ref x0), (1, .int (nI pp))]) hx hb dX_tallySubjects_8 rfl hl (by decide) rfl (fun ls hl => ?_)
  refine lv_aload_n hx hb dX_tallySubjects_9 rfl (lv_at hl 1 rfl) ?_
  refine va_get (D := D) (ci := 4) (v := .ref t0) (C := "StatRows") (T := TX) (N := 5) hx hb ht inX hown hK hP 0 rfl rfl 0 (by decide) (ht _ wd77) (fun _ h9 => h9) rfl dX_tallySubjects_10 ?_
  refine lv_iload_n hx hb dX_tallySubjects_13 rfl (lv_at hl 2 rfl) ?_
  refine zz_ci (v := nI (tr_off Ls pp + 0)) (W.runV (As := [.int (nI pp)]) (rest := []) ⟨hx, hb, hml, hown, ht⟩ (c_T_start l D cI cB t0 t1 t2 f g pp (tr_off Ls pp) (by omega) (hT.1 pp (by omega))) (cwV 1 ht (gd_V wd172 wd122 wd123 wd2 wd124) rfl rfl rfl (by decide +kernel) ⟨Nat.le_of_ble_eq_true rfl, Nat.le_of_ble_eq_true rfl⟩) (zz_R_V hN hK (hP.sub (ws' := [(t0, .inr (0, [.ref t1, .ref t2])), (t1, .inl (cI, 400, .inl f)), (t2, .inl (cI, 9, .inl g))]) [1, 2, 3] rfl) 0 0 rfl rfl) rfl rfl hl.1 rfl (lv_room (Nat.le_of_ble_eq_true rfl)) dX_tallySubjects_14 ⟨Nat.le_of_ble_eq_true rfl, Nat.le_of_ble_eq_true rfl⟩) ?_
  refine lv_istore_n (lv' := [(3, .int (nI (tr_off Ls pp + 0))), (2, .int (nI (tr_off Ls pp + (Ls pp).length))), (0, .ref x0), (1, .int (nI pp))]) hx hb dX_tallySubjects_17 rfl hl (by decide) rfl (fun ls hl => ?_)
  have lp18 : ∀ (fu : Nat) (i : Nat) (tk : Nat → Int32) (hi : i ≤ (Ls pp).length) (hz : ∀ v, v < 256 → tk v = nI (tv v + ((Ls pp).take i).countP (fun c => sub_ c == v))) (hm : (Ls pp).length - i < fu) (H : Heap) (locs : List Loc) (hP : va_P D vwCl [(x0, .inr (4, [.ref t0, .ref p0, .ref v0, .ref g0, .ref ta])), (t0, .inr (0, [.ref t1, .ref t2])), (t1, .inl (cI, 400, .inl f)), (t2, .inl (cI, 9, .inl g)), (ta, .inl (cI, 256, .inl tk))] H) (hD : va_D A [(x0, .inr (4, [.ref t0, .ref p0, .ref v0, .ref g0, .ref ta])), (t0, .inr (0, [.ref t1, .ref t2])), (t1, .inl (cI, 400, .inl f)), (t2, .inl (cI, 9, .inl g)), (ta, .inl (cI, 256, .inl tk))]) (hS : va_S A s.heap H locs) (ls : Array Slot) (hl : lv_has ls 4 [(0, .ref x0), (1, .int (nI pp)), (2, .int (nI (tr_off Ls pp + (Ls pp).length))), (3, .int (nI (tr_off Ls pp + i)))]), W pg l ev (headSpec wX_tallySubjects rm_X_tallySubjects).room s mt (([.ref x0, .int (nI pp)] : List Value).toArray) below meth kd H locs 0 0 (MQ below (va_Qv (fun u : (Nat → Int32) => ∀ v, v < 256 → u v = nI (tv v + (Ls pp).countP (fun c => sub_ c == v))) (fun u : (Nat → Int32) => zz_B D vwCl [(cI, .int), (cB, .boolean)] A [(x0, .inr (4, [.ref t0, .ref p0, .ref v0, .ref g0, .ref ta])), (t0, .inr (0, [.ref t1, .ref t2])), (t1, .inl (cI, 400, .inl f)), (t2, .inl (cI, 9, .inl g)), (ta, .inl (cI, 256, .inl u))]) A) (([.ref x0, .int (nI pp)] : List Value).toArray) s 0 0 A) (F0 mt 18 ls []) := by
    intro fu
    induction fu with
    | zero => intro i tk hi hz hm; exact absurd hm (Nat.not_lt_zero _)
    | succ fu ih18 =>
      intro i tk hi hz hm H locs hP hD hS ls hl
      refine lv_iload_n hx hb dX_tallySubjects_18 rfl (lv_at hl 3 rfl) ?_
      refine lv_iload_n hx hb dX_tallySubjects_19 rfl (lv_at hl 2 rfl) ?_
      refine lv_icmp_ge (tgt := 46) hx hb dX_tallySubjects_20 (by decide) (fun c20 => ?_) (fun c20 => ?_)
      · -- taken
        have c20 : tr_off Ls pp + (Ls pp).length ≤ tr_off Ls pp + i := (nI_leI (a := tr_off Ls pp + (Ls pp).length) (b := tr_off Ls pp + i) (by omega) (by omega)).mp c20
        exact zz_vretW (w1 := fun u : (Nat → Int32) => [(x0, .inr (4, [.ref t0, .ref p0, .ref v0, .ref g0, .ref ta])), (t0, .inr (0, [.ref t1, .ref t2])), (t1, .inl (cI, 400, .inl f)), (t2, .inl (cI, 9, .inl g)), (ta, .inl (cI, 256, .inl u))]) tk hx hb hr hlocks (fun v hv => by
          have h := hz v hv
          rw [tkl _ i (by omega)] at h
          exact h) hP hK hD hS dX_tallySubjects_46
      · -- not taken
        have c20 : ¬ (tr_off Ls pp + (Ls pp).length ≤ tr_off Ls pp + i) := fun h => c20 ((nI_leI (a := tr_off Ls pp + (Ls pp).length) (b := tr_off Ls pp + i) (by omega) (by omega)).mpr h)
        have hci := hT.2.2.2.1 pp hp i (by omega)
        refine lv_aload_n hx hb dX_tallySubjects_23 rfl (lv_at hl 0 rfl) ?_
        refine va_get (D := D) (ci := 4) (v := .ref ta) (C := "StatRows") (T := TX) (N := 5) hx hb ht inX hown hK hP 0 rfl rfl 4 (by decide) (ht _ wd81) (fun _ h9 => h9) rfl dX_tallySubjects_24 ?_
        refine lv_aload_n hx hb dX_tallySubjects_27 rfl (lv_at hl 0 rfl) ?_
        refine va_get (D := D) (ci := 4) (v := .ref t0) (C := "StatRows") (T := TX) (N := 5) hx hb ht inX hown hK hP 0 rfl rfl 0 (by decide) (ht _ wd77) (fun _ h9 => h9) rfl dX_tallySubjects_28 ?_
        refine lv_iload_n hx hb dX_tallySubjects_31 rfl (lv_at hl 3 rfl) ?_
        refine zz_ci (v := nI ((Ls pp).getD i 0 / 256)) (W.runV (As := [.int (nI (tr_off Ls pp + i))]) (rest := [.ref ta]) ⟨hx, hb, hml, hown, ht⟩ (c_T_subjectAt l D cI cB t0 t1 t2 f g (tr_off Ls pp + i) ((Ls pp).getD i 0) (by omega) (hT.2.1 pp hp i (by omega)) (hT.2.2.2.1 pp hp i (by omega))) (cwV 1 ht (gd_V wd173 wd174 wd175 wd2 wd176) rfl rfl rfl (by decide +kernel) ⟨Nat.le_of_ble_eq_true rfl, Nat.le_of_ble_eq_true rfl⟩) (zz_R_V hN hK (hP.sub (ws' := [(t0, .inr (0, [.ref t1, .ref t2])), (t1, .inl (cI, 400, .inl f)), (t2, .inl (cI, 9, .inl g))]) [1, 2, 3] rfl) 0 0 rfl rfl) rfl rfl hl.1 rfl (lv_room (Nat.le_of_ble_eq_true rfl)) dX_tallySubjects_32 ⟨Nat.le_of_ble_eq_true rfl, Nat.le_of_ble_eq_true rfl⟩) ?_
        refine lv_dup2_11 hx hb dX_tallySubjects_35 rfl rfl ?_
        refine zz_iald (k := (Ls pp).getD i 0 / 256) hx hb hK hP 4 0 rfl rfl (by omega) (by decide) dX_tallySubjects_36 ?_
        refine zz_top (y := nI (tv ((Ls pp).getD i 0 / 256) + ((Ls pp).take i).countP (fun c => sub_ c == ((Ls pp).getD i 0 / 256)))) (hz _ (by omega)) ?_
        refine lv_iconst (v := nI 1) hx hb dX_tallySubjects_37 (by decide) ?_
        refine lv_iadd hx hb dX_tallySubjects_38 ?_
        refine zz_top (y := nI ((tv ((Ls pp).getD i 0 / 256) + ((Ls pp).take i).countP (fun c => sub_ c == ((Ls pp).getD i 0 / 256))) + 1)) (nI_add (tv ((Ls pp).getD i 0 / 256) + ((Ls pp).take i).countP (fun c => sub_ c == ((Ls pp).getD i 0 / 256))) 1) ?_
        refine zz_iast (k := (Ls pp).getD i 0 / 256) hx hb hK hP hD hS 4 0 rfl rfl (by omega) (by decide) dX_tallySubjects_39 (fun H locs hP hD hS => ?_)
        have hP : va_P D vwCl [(x0, .inr (4, [.ref t0, .ref p0, .ref v0, .ref g0, .ref ta])), (t0, .inr (0, [.ref t1, .ref t2])), (t1, .inl (cI, 400, .inl f)), (t2, .inl (cI, 9, .inl g)), (ta, .inl (cI, 256, .inl (upd tk ((Ls pp).getD i 0 / 256) (nI ((tv ((Ls pp).getD i 0 / 256) + ((Ls pp).take i).countP (fun c => sub_ c == ((Ls pp).getD i 0 / 256))) + 1)))))] H := hP
        have hD : va_D A [(x0, .inr (4, [.ref t0, .ref p0, .ref v0, .ref g0, .ref ta])), (t0, .inr (0, [.ref t1, .ref t2])), (t1, .inl (cI, 400, .inl f)), (t2, .inl (cI, 9, .inl g)), (ta, .inl (cI, 256, .inl (upd tk ((Ls pp).getD i 0 / 256) (nI ((tv ((Ls pp).getD i 0 / 256) + ((Ls pp).take i).countP (fun c => sub_ c == ((Ls pp).getD i 0 / 256))) + 1)))))] := hD
        refine lv_iinc (v := nI (tr_off Ls pp + i + 1)) (lv' := [(3, .int (nI (tr_off Ls pp + i + 1))), (0, .ref x0), (1, .int (nI pp)), (2, .int (nI (tr_off Ls pp + (Ls pp).length)))]) hx hb dX_tallySubjects_40 hl (k := 3) rfl (nI_1 (tr_off Ls pp + i)) (by decide) rfl (fun ls hl => ?_)
        refine lv_goto (tgt := 18) hx hb dX_tallySubjects_43 (by decide) ?_
        exact ih18 (i + 1) (upd tk ((Ls pp).getD i 0 / 256) (nI ((tv ((Ls pp).getD i 0 / 256) + ((Ls pp).take i).countP (fun c => sub_ c == ((Ls pp).getD i 0 / 256))) + 1))) (by omega) (tal_step (key := sub_) (by omega) (fun _ => true) hz rfl) (by omega) _ _ hP hD hS ls (lv_sub hl [1, 2, 3, 0] rfl)
  exact lp18 (((Ls pp).length - 0) + 1) 0 tl (Nat.zero_le _) (fun v hv => by rw [htv v hv]; simp) (Nat.lt_succ_self _) s.heap _ hP hD hS ls (lv_sub hl [2, 3, 1, 0] rfl)

abbrev rm_X_tallySubjectsOfAll : Room := { frames := 2, cells := 0, slots := 0, locals := 44 }
set_option maxHeartbeats 4000000 in
set_option maxRecDepth 100000 in
theorem c_X_tallySubjectsOfAll (l : Launch) (D : va_G) (cI cB : ClassId) (sz : Nat) (x0 t0 t1 t2 p0 v0 g0 ta : Nat) (f g : Nat → Int32) (Ls : Nat → List Nat) (hT : RT Ls f g) (tl : Nat → Int32) (b : Nat) (hb2 : b < 256) : Met l yX_tallySubjectsOfAll wX_tallySubjectsOfAll rm_X_tallySubjectsOfAll (zz_P D vwCl [(cI, .int), (cB, .boolean)] [.ref x0, .int (nI b)] [(x0, .inr (4, [.ref t0, .ref p0, .ref v0, .ref g0, .ref ta])), (t0, .inr (0, [.ref t1, .ref t2])), (t1, .inl (cI, 400, .inl f)), (t2, .inl (cI, 9, .inl g)), (ta, .inl (cI, 256, .inl tl))] sz) (va_Qv (fun u : (Nat → Int32) => ∀ v, v < 256 → u v = nI (tsm Ls b v 8)) (fun u : (Nat → Int32) => zz_B D vwCl [(cI, .int), (cB, .boolean)] (va_A [(x0, .inr (4, [.ref t0, .ref p0, .ref v0, .ref g0, .ref ta])), (t0, .inr (0, [.ref t1, .ref t2])), (t1, .inl (cI, 400, .inl f)), (t2, .inl (cI, 9, .inl g)), (ta, .inl (cI, 256, .inl tl))] sz) [(x0, .inr (4, [.ref t0, .ref p0, .ref v0, .ref g0, .ref ta])), (t0, .inr (0, [.ref t1, .ref t2])), (t1, .inl (cI, 400, .inl f)), (t2, .inl (cI, 9, .inl g)), (ta, .inl (cI, 256, .inl u))]) (va_A [(x0, .inr (4, [.ref t0, .ref p0, .ref v0, .ref g0, .ref ta])), (t0, .inr (0, [.ref t1, .ref t2])), (t1, .inl (cI, 400, .inl f)), (t2, .inl (cI, 9, .inl g)), (ta, .inl (cI, 256, .inl tl))] sz)) 0 0 (va_A [(x0, .inr (4, [.ref t0, .ref p0, .ref v0, .ref g0, .ref ta])), (t0, .inr (0, [.ref t1, .ref t2])), (t1, .inl (cI, 400, .inl f)), (t2, .inl (cI, 9, .inl g)), (ta, .inl (cI, 256, .inl tl))] sz) := by
  refine Met.ofW (cc := cX_tallySubjectsOfAll) (maxL := 3) (ret := none) (by decide) rfl ?_
  intro pg ev s mt args below meth kd s₁ B hml hv
  obtain ⟨rfl, hsz, hP, hK, hD0, hN⟩ := hv
  have hx := B.exec
  have hb := B.bytes
  have hr := B.returns
  have ht : ∀ w ∈ W0, w.before _ s = true := fun w h => atoms_spec (ws := wX_tallySubjectsOfAll) B.pre w (List.mem_cons_of_mem _ h)
  have hown : s.vm.findClass "StatRows" = some mt.cls := findClass_of_methodNamed B.named
  have hlocks := B.notSynchronized
  subst hsz
  have hD := hD0.self (sz := s.heap.size)
  generalize hAe : va_A [(x0, .inr (4, [.ref t0, .ref p0, .ref v0, .ref g0, .ref ta])), (t0, .inr (0, [.ref t1, .ref t2])), (t1, .inl (cI, 400, .inl f)), (t2, .inl (cI, 9, .inl g)), (ta, .inl (cI, 256, .inl tl))] s.heap.size = A at hD ⊢
  have hA : ∀ q : Nat, s.heap.size ≤ q → A q := fun q h => by rw [← hAe]; exact Or.inr h
  have hS : va_S A s.heap s.heap [] := va_S.rf
  have hP : va_P D vwCl [(x0, .inr (4, [.ref t0, .ref p0, .ref v0, .ref g0, .ref ta])), (t0, .inr (0, [.ref t1, .ref t2])), (t1, .inl (cI, 400, .inl f)), (t2, .inl (cI, 9, .inl g)), (ta, .inl (cI, 256, .inl tl))] s.heap := hP
  have hl := lv_entry ([.ref x0, .int (nI b)]) (n := 3) (Nat.le_of_ble_eq_true rfl)
  rw [lg_entry_eq]
  generalize (lg_sl ([.ref x0, .int (nI b)]) ++ List.replicate (3 - (lg_sl ([.ref x0, .int (nI b)])).length) Slot.unset).toArray = ls at hl ⊢
  have hl : lv_has ls 3 [(0, .ref x0), (1, .int (nI b))] := hl
  refine lv_aload_n hx hb dX_tallySubjectsOfAll_0 rfl (lv_at hl 0 rfl) ?_
  refine zz_wv (wc := [(x0, .inr (4, [.ref t0, .ref p0, .ref v0, .ref g0, .ref ta])), (ta, .inl (cI, 256, .inl tl))]) (wr := [(t0, .inr (0, [.ref t1, .ref t2])), (t1, .inl (cI, 400, .inl f)), (t2, .inl (cI, 9, .inl g))]) (va_runV (As := []) (rest := []) ⟨hx, hb, hml, hown, ht⟩ (c_X_clearTally l D cI cB s.heap.size x0 t0 t1 t2 p0 v0 g0 ta tl) (cwV 0 ht (gd_V wd160 wd162 wp4 wd1 wd163) rfl rfl rfl (by decide +kernel) ⟨Nat.le_of_ble_eq_true rfl, Nat.le_of_ble_eq_true rfl⟩) (zz_P_V hN hK (hP.sub (ws' := [(x0, .inr (4, [.ref t0, .ref p0, .ref v0, .ref g0, .ref ta])), (ta, .inl (cI, 256, .inl tl))]) [0, 4] rfl) (hD.sub (ws' := [(x0, .inr (4, [.ref t0, .ref p0, .ref v0, .ref g0, .ref ta])), (ta, .inl (cI, 256, .inl tl))]) [0, 4] (by decide) rfl) 4 0 rfl rfl) rfl rfl hl.1 rfl (lv_room (Nat.le_of_ble_eq_true rfl)) dX_tallySubjectsOfAll_1 ⟨Nat.le_of_ble_eq_true rfl, Nat.le_of_ble_eq_true rfl⟩) hP hD hS hA [0, 4] [1, 2, 3] rfl rfl (by decide) (by decide) (fun u1 H locs hq1 hP hD hS => ?_)
  have hP := hP.sub (ws' := [(x0, .inr (4, [.ref t0, .ref p0, .ref v0, .ref g0, .ref ta])), (t0, .inr (0, [.ref t1, .ref t2])), (t1, .inl (cI, 400, .inl f)), (t2, .inl (cI, 9, .inl g)), (ta, .inl (cI, 256, .inl u1))]) [3, 0, 1, 2, 4] rfl
  have hD := hD.sub (ws' := [(x0, .inr (4, [.ref t0, .ref p0, .ref v0, .ref g0, .ref ta])), (t0, .inr (0, [.ref t1, .ref t2])), (t1, .inl (cI, 400, .inl f)), (t2, .inl (cI, 9, .inl g)), (ta, .inl (cI, 256, .inl u1))]) [3, 0, 1, 2, 4] (by decide) rfl
  refine lv_iconst (v := nI 0) hx hb dX_tallySubjectsOfAll_4 (by decide) ?_
  refine lv_istore_n (lv' := [(2, .int (nI 0)), (0, .ref x0), (1, .int (nI b))]) hx hb dX_tallySubjectsOfAll_5 rfl hl (by decide) rfl (fun ls hl => ?_)
  have lp6 : ∀ (fu : Nat) (i : Nat) (tk : Nat → Int32) (hi : i ≤ 8) (hz : ∀ v, v < 256 → tk v = nI (tsm Ls b v i)) (hm : 8 - i < fu) (H : Heap) (locs : List Loc) (hP : va_P D vwCl [(x0, .inr (4, [.ref t0, .ref p0, .ref v0, .ref g0, .ref ta])), (t0, .inr (0, [.ref t1, .ref t2])), (t1, .inl (cI, 400, .inl f)), (t2, .inl (cI, 9, .inl g)), (ta, .inl (cI, 256, .inl tk))] H) (hD : va_D A [(x0, .inr (4, [.ref t0, .ref p0, .ref v0, .ref g0, .ref ta])), (t0, .inr (0, [.ref t1, .ref t2])), (t1, .inl (cI, 400, .inl f)), (t2, .inl (cI, 9, .inl g)), (ta, .inl (cI, 256, .inl tk))]) (hS : va_S A s.heap H locs) (ls : Array Slot) (hl : lv_has ls 3 [(0, .ref x0), (1, .int (nI b)), (2, .int (nI i))]), W pg l ev (headSpec wX_tallySubjectsOfAll rm_X_tallySubjectsOfAll).room s mt (([.ref x0, .int (nI b)] : List Value).toArray) below meth kd H locs 0 0 (MQ below (va_Qv (fun u : (Nat → Int32) => ∀ v, v < 256 → u v = nI (tsm Ls b v 8)) (fun u : (Nat → Int32) => zz_B D vwCl [(cI, .int), (cB, .boolean)] A [(x0, .inr (4, [.ref t0, .ref p0, .ref v0, .ref g0, .ref ta])), (t0, .inr (0, [.ref t1, .ref t2])), (t1, .inl (cI, 400, .inl f)), (t2, .inl (cI, 9, .inl g)), (ta, .inl (cI, 256, .inl u))]) A) (([.ref x0, .int (nI b)] : List Value).toArray) s 0 0 A) (F0 mt 6 ls []) := by
    intro fu
    induction fu with
    | zero => intro i tk hi hz hm; exact absurd hm (Nat.not_lt_zero _)
    | succ fu ih6 =>
      intro i tk hi hz hm H locs hP hD hS ls hl
      refine lv_iload_n hx hb dX_tallySubjectsOfAll_6 rfl (lv_at hl 2 rfl) ?_
      refine lv_bipush (v := nI 8) hx hb dX_tallySubjectsOfAll_7 (by decide) ?_
      refine lv_icmp_ge (tgt := 32) hx hb dX_tallySubjectsOfAll_9 (by decide) (fun c9 => ?_) (fun c9 => ?_)
      · -- taken
        have c9 : 8 ≤ i := (nI_leI (a := 8) (b := i) (by omega) (by omega)).mp c9
        exact zz_vretW (w1 := fun u : (Nat → Int32) => [(x0, .inr (4, [.ref t0, .ref p0, .ref v0, .ref g0, .ref ta])), (t0, .inr (0, [.ref t1, .ref t2])), (t1, .inl (cI, 400, .inl f)), (t2, .inl (cI, 9, .inl g)), (ta, .inl (cI, 256, .inl u))]) tk hx hb hr hlocks (fun v hv => by
          have h := hz v hv
          rw [show i = 8 by omega] at h
          exact h) hP hK hD hS dX_tallySubjectsOfAll_32
      · -- not taken
        have c9 : ¬ (8 ≤ i) := fun h => c9 ((nI_leI (a := 8) (b := i) (by omega) (by omega)).mpr h)
        have hdl := Nat.div_le_self b (2 ^ i)
        have hml2 : b / 2 ^ i % 2 < 2 := Nat.mod_lt _ (by decide)
        refine lv_iload_n hx hb dX_tallySubjectsOfAll_12 rfl (lv_at hl 1 rfl) ?_
        refine lv_iload_n hx hb dX_tallySubjectsOfAll_13 rfl (lv_at hl 2 rfl) ?_
        refine lv_ishr hx hb dX_tallySubjectsOfAll_14 ?_
        refine zz_top (y := nI (b / 2 ^ i)) (zz_shrV (n := b) (k := i) (by omega) (by omega)) ?_
        refine lv_iconst (v := nI 1) hx hb dX_tallySubjectsOfAll_15 (by decide) ?_
        refine lv_iand hx hb dX_tallySubjectsOfAll_16 ?_
        refine zz_top (y := nI ((b / 2 ^ i) % 2)) (pk_andN (n := b / 2 ^ i) (by omega) 1 (by decide)) ?_
        refine lv_iconst (v := nI 1) hx hb dX_tallySubjectsOfAll_17 (by decide) ?_
        refine lv_icmp_ne (tgt := 26) hx hb dX_tallySubjectsOfAll_18 (by decide) (fun c18 => ?_) (fun c18 => ?_)
        · -- taken
          have c18 : ¬ ((b / 2 ^ i) % 2 = 1) := fun h => c18 ((nI_eq (a := (b / 2 ^ i) % 2) (b := 1) (by omega) (by omega)).mpr h)
          have hbt : ¬ bit_ b i = true := by unfold bit_; simpa using c18
          refine lv_iinc (v := nI (i + 1)) (lv' := [(2, .int (nI (i + 1))), (0, .ref x0), (1, .int (nI b))]) hx hb dX_tallySubjectsOfAll_26 hl (k := 2) rfl (nI_1 i) (by decide) rfl (fun ls hl => ?_)
          refine lv_goto (tgt := 6) hx hb dX_tallySubjectsOfAll_29 (by decide) ?_
          exact ih6 (i + 1) tk (by omega) (fun v hv => by rw [hz v hv, tsm_s, if_neg hbt]; rfl) (by omega) _ _ hP hD hS ls (lv_sub hl [1, 2, 0] rfl)
        · -- not taken
          have c18 : (b / 2 ^ i) % 2 = 1 := (nI_eq (a := (b / 2 ^ i) % 2) (b := 1) (by omega) (by omega)).mp c18
          have hbt : bit_ b i = true := by unfold bit_; simpa using c18
          refine lv_aload_n hx hb dX_tallySubjectsOfAll_21 rfl (lv_at hl 0 rfl) ?_
          refine lv_iload_n hx hb dX_tallySubjectsOfAll_22 rfl (lv_at hl 2 rfl) ?_
          refine zz_wv (wc := [(x0, .inr (4, [.ref t0, .ref p0, .ref v0, .ref g0, .ref ta])), (t0, .inr (0, [.ref t1, .ref t2])), (t1, .inl (cI, 400, .inl f)), (t2, .inl (cI, 9, .inl g)), (ta, .inl (cI, 256, .inl tk))]) (wr := []) (va_runV (As := [.int (nI i)]) (rest := []) ⟨hx, hb, hml, hown, ht⟩ (c_X_tallySubjects l D cI cB H.size x0 t0 t1 t2 p0 v0 g0 ta f g Ls hT tk (fun v => tsm Ls b v i) hz i (by omega)) (cwV 1 ht (gd_V wd167 wd169 wp5 wd1 wd170) rfl rfl rfl (by decide +kernel) ⟨Nat.le_of_ble_eq_true rfl, Nat.le_of_ble_eq_true rfl⟩) (zz_P_V hN hK (hP.sub (ws' := [(x0, .inr (4, [.ref t0, .ref p0, .ref v0, .ref g0, .ref ta])), (t0, .inr (0, [.ref t1, .ref t2])), (t1, .inl (cI, 400, .inl f)), (t2, .inl (cI, 9, .inl g)), (ta, .inl (cI, 256, .inl tk))]) [0, 1, 2, 3, 4] rfl) (hD.sub (ws' := [(x0, .inr (4, [.ref t0, .ref p0, .ref v0, .ref g0, .ref ta])), (t0, .inr (0, [.ref t1, .ref t2])), (t1, .inl (cI, 400, .inl f)), (t2, .inl (cI, 9, .inl g)), (ta, .inl (cI, 256, .inl tk))]) [0, 1, 2, 3, 4] (by decide) rfl) 4 0 rfl rfl) rfl rfl hl.1 rfl (lv_room (Nat.le_of_ble_eq_true rfl)) dX_tallySubjectsOfAll_23 ⟨Nat.le_of_ble_eq_true rfl, Nat.le_of_ble_eq_true rfl⟩) hP hD hS hA [0, 1, 2, 3, 4] [] rfl rfl (by decide) (by decide) (fun u23 H locs hq23 hP hD hS => ?_)
          have hP := hP.sub (ws' := [(x0, .inr (4, [.ref t0, .ref p0, .ref v0, .ref g0, .ref ta])), (t0, .inr (0, [.ref t1, .ref t2])), (t1, .inl (cI, 400, .inl f)), (t2, .inl (cI, 9, .inl g)), (ta, .inl (cI, 256, .inl u23))]) [0, 1, 2, 3, 4] rfl
          have hD := hD.sub (ws' := [(x0, .inr (4, [.ref t0, .ref p0, .ref v0, .ref g0, .ref ta])), (t0, .inr (0, [.ref t1, .ref t2])), (t1, .inl (cI, 400, .inl f)), (t2, .inl (cI, 9, .inl g)), (ta, .inl (cI, 256, .inl u23))]) [0, 1, 2, 3, 4] (by decide) rfl
          refine lv_iinc (v := nI (i + 1)) (lv' := [(2, .int (nI (i + 1))), (0, .ref x0), (1, .int (nI b))]) hx hb dX_tallySubjectsOfAll_26 hl (k := 2) rfl (nI_1 i) (by decide) rfl (fun ls hl => ?_)
          refine lv_goto (tgt := 6) hx hb dX_tallySubjectsOfAll_29 (by decide) ?_
          exact ih6 (i + 1) u23 (by omega) (fun v hv => by rw [hq23 v hv, tsm_s, if_pos hbt]) (by omega) _ _ hP hD hS ls (lv_sub hl [1, 2, 0] rfl)
  exact lp6 ((8 - 0) + 1) 0 u1 (Nat.zero_le _) hq1 (Nat.lt_succ_self _) _ _ hP hD hS ls (lv_sub hl [1, 2, 0] rfl)

abbrev rm_X_tallyObjects : Room := { frames := 2, cells := 0, slots := 0, locals := 43 }
set_option maxHeartbeats 4000000 in
set_option maxRecDepth 100000 in
theorem c_X_tallyObjects (l : Launch) (D : va_G) (cI cB : ClassId) (sz : Nat) (x0 t0 t1 t2 p0 v0 g0 ta : Nat) (f g : Nat → Int32) (Ls : Nat → List Nat) (hT : RT Ls f g) (tl : Nat → Int32) (pp : Nat) (hp : pp < 8) (fl : Bool) : Met l yX_tallyObjects wX_tallyObjects rm_X_tallyObjects (zz_P D vwCl [(cI, .int), (cB, .boolean)] [.ref x0, .int (nI pp), .int (nI fl.toNat)] [(x0, .inr (4, [.ref t0, .ref p0, .ref v0, .ref g0, .ref ta])), (t0, .inr (0, [.ref t1, .ref t2])), (t1, .inl (cI, 400, .inl f)), (t2, .inl (cI, 9, .inl g)), (ta, .inl (cI, 256, .inl tl))] sz) (va_Qv (fun u : (Nat → Int32) => ∀ v, v < 256 → u v = nI (0 + (Ls pp).countP (fun c => okf fl c && obj_ c == v))) (fun u : (Nat → Int32) => zz_B D vwCl [(cI, .int), (cB, .boolean)] (va_A [(x0, .inr (4, [.ref t0, .ref p0, .ref v0, .ref g0, .ref ta])), (t0, .inr (0, [.ref t1, .ref t2])), (t1, .inl (cI, 400, .inl f)), (t2, .inl (cI, 9, .inl g)), (ta, .inl (cI, 256, .inl tl))] sz) [(x0, .inr (4, [.ref t0, .ref p0, .ref v0, .ref g0, .ref ta])), (t0, .inr (0, [.ref t1, .ref t2])), (t1, .inl (cI, 400, .inl f)), (t2, .inl (cI, 9, .inl g)), (ta, .inl (cI, 256, .inl u))]) (va_A [(x0, .inr (4, [.ref t0, .ref p0, .ref v0, .ref g0, .ref ta])), (t0, .inr (0, [.ref t1, .ref t2])), (t1, .inl (cI, 400, .inl f)), (t2, .inl (cI, 9, .inl g)), (ta, .inl (cI, 256, .inl tl))] sz)) 0 0 (va_A [(x0, .inr (4, [.ref t0, .ref p0, .ref v0, .ref g0, .ref ta])), (t0, .inr (0, [.ref t1, .ref t2])), (t1, .inl (cI, 400, .inl f)), (t2, .inl (cI, 9, .inl g)), (ta, .inl (cI, 256, .inl tl))] sz) := by
  refine Met.ofW (cc := cX_tallyObjects) (maxL := 5) (ret := none) (by decide) rfl ?_
  intro pg ev s mt args below meth kd s₁ B hml hv
  obtain ⟨rfl, hsz, hP, hK, hD0, hN⟩ := hv
  have hx := B.exec
  have hb := B.bytes
  have hr := B.returns
  have ht : ∀ w ∈ W0, w.before _ s = true := fun w h => atoms_spec (ws := wX_tallyObjects) B.pre w (List.mem_cons_of_mem _ h)
  have hown : s.vm.findClass "StatRows" = some mt.cls := findClass_of_methodNamed B.named
  have hlocks := B.notSynchronized
  subst hsz
  have hD := hD0.self (sz := s.heap.size)
  generalize hAe : va_A [(x0, .inr (4, [.ref t0, .ref p0, .ref v0, .ref g0, .ref ta])), (t0, .inr (0, [.ref t1, .ref t2])), (t1, .inl (cI, 400, .inl f)), (t2, .inl (cI, 9, .inl g)), (ta, .inl (cI, 256, .inl tl))] s.heap.size = A at hD ⊢
  have hA : ∀ q : Nat, s.heap.size ≤ q → A q := fun q h => by rw [← hAe]; exact Or.inr h
  have hS : va_S A s.heap s.heap [] := va_S.rf
  have hP : va_P D vwCl [(x0, .inr (4, [.ref t0, .ref p0, .ref v0, .ref g0, .ref ta])), (t0, .inr (0, [.ref t1, .ref t2])), (t1, .inl (cI, 400, .inl f)), (t2, .inl (cI, 9, .inl g)), (ta, .inl (cI, 256, .inl tl))] s.heap := hP
  have hl := lv_entry ([.ref x0, .int (nI pp), .int (nI fl.toNat)]) (n := 5) (Nat.le_of_ble_eq_true rfl)
  rw [lg_entry_eq]
  generalize (lg_sl ([.ref x0, .int (nI pp), .int (nI fl.toNat)]) ++ List.replicate (5 - (lg_sl ([.ref x0, .int (nI pp), .int (nI fl.toNat)])).length) Slot.unset).toArray = ls at hl ⊢
  have hl : lv_has ls 5 [(0, .ref x0), (1, .int (nI pp)), (2, .int (nI fl.toNat))] := hl
  have htp := tr_top (Ls := Ls) hp
  have h400 := hT.2.2.1
  have hfl := btl fl
  refine lv_aload_n hx hb dX_tallyObjects_0 rfl (lv_at hl 0 rfl) ?_
  refine zz_wv (wc := [(x0, .inr (4, [.ref t0, .ref p0, .ref v0, .ref g0, .ref ta])), (ta, .inl (cI, 256, .inl tl))]) (wr := [(t0, .inr (0, [.ref t1, .ref t2])), (t1, .inl (cI, 400, .inl f)), (t2, .inl (cI, 9, .inl g))]) (va_runV (As := []) (rest := []) ⟨hx, hb, hml, hown, ht⟩ (c_X_clearTally l D cI cB s.heap.size x0 t0 t1 t2 p0 v0 g0 ta tl) (cwV 0 ht (gd_V wd160 wd162 wp4 wd1 wd163) rfl rfl rfl (by decide +kernel) ⟨Nat.le_of_ble_eq_true rfl, Nat.le_of_ble_eq_true rfl⟩) (zz_P_V hN hK (hP.sub (ws' := [(x0, .inr (4, [.ref t0, .ref p0, .ref v0, .ref g0, .ref ta])), (ta, .inl (cI, 256, .inl tl))]) [0, 4] rfl) (hD.sub (ws' := [(x0, .inr (4, [.ref t0, .ref p0, .ref v0, .ref g0, .ref ta])), (ta, .inl (cI, 256, .inl tl))]) [0, 4] (by decide) rfl) 4 0 rfl rfl) rfl rfl hl.1 rfl (lv_room (Nat.le_of_ble_eq_true rfl)) dX_tallyObjects_1 ⟨Nat.le_of_ble_eq_true rfl, Nat.le_of_ble_eq_true rfl⟩) hP hD hS hA [0, 4] [1, 2, 3] rfl rfl (by decide) (by decide) (fun u1 H locs hq1 hP hD hS => ?_)
  have hP := hP.sub (ws' := [(x0, .inr (4, [.ref t0, .ref p0, .ref v0, .ref g0, .ref ta])), (t0, .inr (0, [.ref t1, .ref t2])), (t1, .inl (cI, 400, .inl f)), (t2, .inl (cI, 9, .inl g)), (ta, .inl (cI, 256, .inl u1))]) [3, 0, 1, 2, 4] rfl
  have hD := hD.sub (ws' := [(x0, .inr (4, [.ref t0, .ref p0, .ref v0, .ref g0, .ref ta])), (t0, .inr (0, [.ref t1, .ref t2])), (t1, .inl (cI, 400, .inl f)), (t2, .inl (cI, 9, .inl g)), (ta, .inl (cI, 256, .inl u1))]) [3, 0, 1, 2, 4] (by decide) rfl
  refine lv_aload_n hx hb dX_tallyObjects_4 rfl (lv_at hl 0 rfl) ?_
  refine va_get (D := D) (ci := 4) (v := .ref t0) (C := "StatRows") (T := TX) (N := 5) hx hb ht inX hown hK hP 0 rfl rfl 0 (by decide) (ht _ wd77) (fun _ h9 => h9) rfl dX_tallyObjects_5 ?_
  refine lv_iload_n hx hb dX_tallyObjects_8 rfl (lv_at hl 1 rfl) ?_
  refine zz_ci (v := nI (tr_off Ls pp + (Ls pp).length)) (W.runV (As := [.int (nI pp)]) (rest := []) ⟨hx, hb, hml, hown, ht⟩ (c_T_end l D cI cB t0 t1 t2 f g pp (tr_off Ls pp + (Ls pp).length) hp (hT.1 (pp + 1) (by omega))) (cwV 1 ht (gd_V wd171 wd118 wd119 wd2 wd120) rfl rfl rfl (by decide +kernel) ⟨Nat.le_of_ble_eq_true rfl, Nat.le_of_ble_eq_true rfl⟩) (zz_R_V hN hK (hP.sub (ws' := [(t0, .inr (0, [.ref t1, .ref t2])), (t1, .inl (cI, 400, .inl f)), (t2, .inl (cI, 9, .inl g))]) [1, 2, 3] rfl) 0 0 rfl rfl) rfl rfl hl.1 rfl (lv_room (Nat.le_of_ble_eq_true rfl)) dX_tallyObjects_9 ⟨Nat.le_of_ble_eq_true rfl, Nat.le_of_ble_eq_true rfl⟩) ?_
  refine lv_istore_n (lv' := [(3, .int (nI (tr_off Ls pp + (Ls pp).length))), (0, .ref x0), (1, .int (nI pp)), (2, .int (nI fl.toNat))]) hx hb dX_tallyObjects_12 rfl hl (by decide) rfl (fun ls hl => ?_)
  refine lv_aload_n hx hb dX_tallyObjects_13 rfl (lv_at hl 1 rfl) ?_
  refine va_get (D := D) (ci := 4) (v := .ref t0) (C := "StatRows") (T := TX) (N := 5) hx hb ht inX hown hK hP 0 rfl rfl 0 (by decide) (ht _ wd77) (fun _ h9 => h9) rfl dX_tallyObjects_14 ?_
  refine lv_iload_n hx hb dX_tallyObjects_17 rfl (lv_at hl 2 rfl) ?_
  refine zz_ci (v := nI (tr_off Ls pp + 0)) (W.runV (As := [.int (nI pp)]) (rest := []) ⟨hx, hb, hml, hown, ht⟩ (c_T_start l D cI cB t0 t1 t2 f g pp (tr_off Ls pp) (by omega) (hT.1 pp (by omega))) (cwV 1 ht (gd_V wd172 wd122 wd123 wd2 wd124) rfl rfl rfl (by decide +kernel) ⟨Nat.le_of_ble_eq_true rfl, Nat.le_of_ble_eq_true rfl⟩) (zz_R_V hN hK (hP.sub (ws' := [(t0, .inr (0, [.ref t1, .ref t2])), (t1, .inl (cI, 400, .inl f)), (t2, .inl (cI, 9, .inl g))]) [1, 2, 3] rfl) 0 0 rfl rfl) rfl rfl hl.1 rfl (lv_room (Nat.le_of_ble_eq_true rfl)) dX_tallyObjects_18 ⟨Nat.le_of_ble_eq_true rfl, Nat.le_of_ble_eq_true rfl⟩) ?_
  refine lv_istore (lv' := [(4, .int (nI (tr_off Ls pp + 0))), (3, .int (nI (tr_off Ls pp + (Ls pp).length))), (0, .ref x0), (1, .int (nI pp)), (2, .int (nI fl.toNat))]) hx hb dX_tallyObjects_21 hl (by decide) rfl (fun ls hl => ?_)
  have lp23 : ∀ (fu : Nat) (i : Nat) (tk : Nat → Int32) (hi : i ≤ (Ls pp).length) (hz : ∀ v, v < 256 → tk v = nI (0 + ((Ls pp).take i).countP (fun c => okf fl c && obj_ c == v))) (hm : (Ls pp).length - i < fu) (H : Heap) (locs : List Loc) (hP : va_P D vwCl [(x0, .inr (4, [.ref t0, .ref p0, .ref v0, .ref g0, .ref ta])), (t0, .inr (0, [.ref t1, .ref t2])), (t1, .inl (cI, 400, .inl f)), (t2, .inl (cI, 9, .inl g)), (ta, .inl (cI, 256, .inl tk))] H) (hD : va_D A [(x0, .inr (4, [.ref t0, .ref p0, .ref v0, .ref g0, .ref ta])), (t0, .inr (0, [.ref t1, .ref t2])), (t1, .inl (cI, 400, .inl f)), (t2, .inl (cI, 9, .inl g)), (ta, .inl (cI, 256, .inl tk))]) (hS : va_S A s.heap H locs) (ls : Array Slot) (hl : lv_has ls 5 [(0, .ref x0), (1, .int (nI pp)), (2, .int (nI fl.toNat)), (3, .int (nI (tr_off Ls pp + (Ls pp).length))), (4, .int (nI (tr_off Ls pp + i)))]), W pg l ev (headSpec wX_tallyObjects rm_X_tallyObjects).room s mt (([.ref x0, .int (nI pp), .int (nI fl.toNat)] : List Value).toArray) below meth kd H locs 0 0 (MQ below (va_Qv (fun u : (Nat → Int32) => ∀ v, v < 256 → u v = nI (0 + (Ls pp).countP (fun c => okf fl c && obj_ c == v))) (fun u : (Nat → Int32) => zz_B D vwCl [(cI, .int), (cB, .boolean)] A [(x0, .inr (4, [.ref t0, .ref p0, .ref v0, .ref g0, .ref ta])), (t0, .inr (0, [.ref t1, .ref t2])), (t1, .inl (cI, 400, .inl f)), (t2, .inl (cI, 9, .inl g)), (ta, .inl (cI, 256, .inl u))]) A) (([.ref x0, .int (nI pp), .int (nI fl.toNat)] : List Value).toArray) s 0 0 A) (F0 mt 23 ls []) := by
    intro fu
    induction fu with
    | zero => intro i tk hi hz hm; exact absurd hm (Nat.not_lt_zero _)
    | succ fu ih23 =>
      intro i tk hi hz hm H locs hP hD hS ls hl
      refine lv_iload hx hb dX_tallyObjects_23 (lv_at hl 4 rfl) ?_
      refine lv_iload_n hx hb dX_tallyObjects_25 rfl (lv_at hl 3 rfl) ?_
      refine lv_icmp_ge (tgt := 69) hx hb dX_tallyObjects_26 (by decide) (fun c26 => ?_) (fun c26 => ?_)
      · -- taken
        have c26 : tr_off Ls pp + (Ls pp).length ≤ tr_off Ls pp + i := (nI_leI (a := tr_off Ls pp + (Ls pp).length) (b := tr_off Ls pp + i) (by omega) (by omega)).mp c26
        exact zz_vretW (w1 := fun u : (Nat → Int32) => [(x0, .inr (4, [.ref t0, .ref p0, .ref v0, .ref g0, .ref ta])), (t0, .inr (0, [.ref t1, .ref t2])), (t1, .inl (cI, 400, .inl f)), (t2, .inl (cI, 9, .inl g)), (ta, .inl (cI, 256, .inl u))]) tk hx hb hr hlocks (fun v hv => by
          have h := hz v hv
          rw [tkl _ i (by omega)] at h
          exact h) hP hK hD hS dX_tallyObjects_69
      · -- not taken
        have c26 : ¬ (tr_off Ls pp + (Ls pp).length ≤ tr_off Ls pp + i) := fun h => c26 ((nI_leI (a := tr_off Ls pp + (Ls pp).length) (b := tr_off Ls pp + i) (by omega) (by omega)).mpr h)
        have hci := hT.2.2.2.1 pp hp i (by omega)
        have hsb := btl (smp ((Ls pp).getD i 0))
        refine lv_iload_n hx hb dX_tallyObjects_29 rfl (lv_at hl 2 rfl) ?_
        refine lv_if_eq (tgt := 45) hx hb dX_tallyObjects_30 (by decide) (fun c30 => ?_) (fun c30 => ?_)
        · -- taken
          have c30 : fl.toNat = 0 := (nI_eq (a := fl.toNat) (b := 0) (by omega) (by omega)).mp c30
          have hok : okf fl ((Ls pp).getD i 0) = true := by unfold okf; rw [bt0 c30]; rfl
          refine lv_aload_n hx hb dX_tallyObjects_45 rfl (lv_at hl 0 rfl) ?_
          refine va_get (D := D) (ci := 4) (v := .ref ta) (C := "StatRows") (T := TX) (N := 5) hx hb ht inX hown hK hP 0 rfl rfl 4 (by decide) (ht _ wd81) (fun _ h9 => h9) rfl dX_tallyObjects_46 ?_
          refine lv_aload_n hx hb dX_tallyObjects_49 rfl (lv_at hl 0 rfl) ?_
          refine va_get (D := D) (ci := 4) (v := .ref t0) (C := "StatRows") (T := TX) (N := 5) hx hb ht inX hown hK hP 0 rfl rfl 0 (by decide) (ht _ wd77) (fun _ h9 => h9) rfl dX_tallyObjects_50 ?_
          refine lv_iload hx hb dX_tallyObjects_53 (lv_at hl 4 rfl) ?_
          refine zz_ci (v := nI ((Ls pp).getD i 0 % 256)) (W.runV (As := [.int (nI (tr_off Ls pp + i))]) (rest := [.ref ta]) ⟨hx, hb, hml, hown, ht⟩ (c_T_objectAt l D cI cB t0 t1 t2 f g (tr_off Ls pp + i) ((Ls pp).getD i 0) (by omega) (hT.2.1 pp hp i (by omega)) (hT.2.2.2.1 pp hp i (by omega))) (cwV 1 ht (gd_V wd198 wd199 wd200 wd2 wd201) rfl rfl rfl (by decide +kernel) ⟨Nat.le_of_ble_eq_true rfl, Nat.le_of_ble_eq_true rfl⟩) (zz_R_V hN hK (hP.sub (ws' := [(t0, .inr (0, [.ref t1, .ref t2])), (t1, .inl (cI, 400, .inl f)), (t2, .inl (cI, 9, .inl g))]) [1, 2, 3] rfl) 0 0 rfl rfl) rfl rfl hl.1 rfl (lv_room (Nat.le_of_ble_eq_true rfl)) dX_tallyObjects_55 ⟨Nat.le_of_ble_eq_true rfl, Nat.le_of_ble_eq_true rfl⟩) ?_
          refine lv_dup2_11 hx hb dX_tallyObjects_58 rfl rfl ?_
          refine zz_iald (k := (Ls pp).getD i 0 % 256) hx hb hK hP 4 0 rfl rfl (by omega) (by decide) dX_tallyObjects_59 ?_
          refine zz_top (y := nI (0 + ((Ls pp).take i).countP (fun c => okf fl c && obj_ c == ((Ls pp).getD i 0 % 256)))) (hz _ (by omega)) ?_
          refine lv_iconst (v := nI 1) hx hb dX_tallyObjects_60 (by decide) ?_
          refine lv_iadd hx hb dX_tallyObjects_61 ?_
          refine zz_top (y := nI ((0 + ((Ls pp).take i).countP (fun c => okf fl c && obj_ c == ((Ls pp).getD i 0 % 256))) + 1)) (nI_add (0 + ((Ls pp).take i).countP (fun c => okf fl c && obj_ c == ((Ls pp).getD i 0 % 256))) 1) ?_
          refine zz_iast (k := (Ls pp).getD i 0 % 256) hx hb hK hP hD hS 4 0 rfl rfl (by omega) (by decide) dX_tallyObjects_62 (fun H locs hP hD hS => ?_)
          have hP : va_P D vwCl [(x0, .inr (4, [.ref t0, .ref p0, .ref v0, .ref g0, .ref ta])), (t0, .inr (0, [.ref t1, .ref t2])), (t1, .inl (cI, 400, .inl f)), (t2, .inl (cI, 9, .inl g)), (ta, .inl (cI, 256, .inl (upd tk ((Ls pp).getD i 0 % 256) (nI ((0 + ((Ls pp).take i).countP (fun c => okf fl c && obj_ c == ((Ls pp).getD i 0 % 256))) + 1)))))] H := hP
          have hD : va_D A [(x0, .inr (4, [.ref t0, .ref p0, .ref v0, .ref g0, .ref ta])), (t0, .inr (0, [.ref t1, .ref t2])), (t1, .inl (cI, 400, .inl f)), (t2, .inl (cI, 9, .inl g)), (ta, .inl (cI, 256, .inl (upd tk ((Ls pp).getD i 0 % 256) (nI ((0 + ((Ls pp).take i).countP (fun c => okf fl c && obj_ c == ((Ls pp).getD i 0 % 256))) + 1)))))] := hD
          refine lv_iinc (v := nI (tr_off Ls pp + i + 1)) (lv' := [(4, .int (nI (tr_off Ls pp + i + 1))), (0, .ref x0), (1, .int (nI pp)), (2, .int (nI fl.toNat)), (3, .int (nI (tr_off Ls pp + (Ls pp).length)))]) hx hb dX_tallyObjects_63 hl (k := 4) rfl (nI_1 (tr_off Ls pp + i)) (by decide) rfl (fun ls hl => ?_)
          refine lv_goto (tgt := 23) hx hb dX_tallyObjects_66 (by decide) ?_
          exact ih23 (i + 1) (upd tk ((Ls pp).getD i 0 % 256) (nI ((0 + ((Ls pp).take i).countP (fun c => okf fl c && obj_ c == ((Ls pp).getD i 0 % 256))) + 1))) (by omega) (tal_step (key := obj_) (tv := fun _ => 0) (by omega) (okf fl) hz hok) (by omega) _ _ hP hD hS ls (lv_sub hl [1, 2, 3, 4, 0] rfl)
        · -- not taken
          have c30 : ¬ (fl.toNat = 0) := fun h => c30 ((nI_eq (a := fl.toNat) (b := 0) (by omega) (by omega)).mpr h)
          refine lv_aload_n hx hb dX_tallyObjects_33 rfl (lv_at hl 0 rfl) ?_
          refine va_get (D := D) (ci := 4) (v := .ref t0) (C := "StatRows") (T := TX) (N := 5) hx hb ht inX hown hK hP 0 rfl rfl 0 (by decide) (ht _ wd77) (fun _ h9 => h9) rfl dX_tallyObjects_34 ?_
          refine lv_iload hx hb dX_tallyObjects_37 (lv_at hl 4 rfl) ?_
          refine zz_ci (v := nI ((smp ((Ls pp).getD i 0)).toNat)) (W.runV (As := [.int (nI (tr_off Ls pp + i))]) (rest := []) ⟨hx, hb, hml, hown, ht⟩ (c_T_isSampled l D cI cB t0 t1 t2 f g (tr_off Ls pp + i) ((Ls pp).getD i 0) (by omega) (hT.2.1 pp hp i (by omega))) (cwV 1 ht (gd_V wd189 wd190 wd191 wd2 wd192) rfl rfl rfl (by decide +kernel) ⟨Nat.le_of_ble_eq_true rfl, Nat.le_of_ble_eq_true rfl⟩) (zz_R_V hN hK (hP.sub (ws' := [(t0, .inr (0, [.ref t1, .ref t2])), (t1, .inl (cI, 400, .inl f)), (t2, .inl (cI, 9, .inl g))]) [1, 2, 3] rfl) 0 0 rfl rfl) rfl rfl hl.1 rfl (lv_room (Nat.le_of_ble_eq_true rfl)) dX_tallyObjects_39 ⟨Nat.le_of_ble_eq_true rfl, Nat.le_of_ble_eq_true rfl⟩) ?_
          refine lv_if_eq (tgt := 63) hx hb dX_tallyObjects_42 (by decide) (fun c42 => ?_) (fun c42 => ?_)
          · -- taken
            have c42 : (smp ((Ls pp).getD i 0)).toNat = 0 := (nI_eq (a := (smp ((Ls pp).getD i 0)).toNat) (b := 0) (by omega) (by omega)).mp c42
            have hok : okf fl ((Ls pp).getD i 0) = false := by unfold okf; rw [bt1 c30, bt0 c42]; rfl
            refine lv_iinc (v := nI (tr_off Ls pp + i + 1)) (lv' := [(4, .int (nI (tr_off Ls pp + i + 1))), (0, .ref x0), (1, .int (nI pp)), (2, .int (nI fl.toNat)), (3, .int (nI (tr_off Ls pp + (Ls pp).length)))]) hx hb dX_tallyObjects_63 hl (k := 4) rfl (nI_1 (tr_off Ls pp + i)) (by decide) rfl (fun ls hl => ?_)
            refine lv_goto (tgt := 23) hx hb dX_tallyObjects_66 (by decide) ?_
            exact ih23 (i + 1) tk (by omega) (tal_skip (key := obj_) (tv := fun _ => 0) (by omega) (okf fl) hz hok) (by omega) _ _ hP hD hS ls (lv_sub hl [1, 2, 3, 4, 0] rfl)
          · -- not taken
            have c42 : ¬ ((smp ((Ls pp).getD i 0)).toNat = 0) := fun h => c42 ((nI_eq (a := (smp ((Ls pp).getD i 0)).toNat) (b := 0) (by omega) (by omega)).mpr h)
            have hok : okf fl ((Ls pp).getD i 0) = true := by unfold okf; rw [bt1 c42]; simp
            refine lv_aload_n hx hb dX_tallyObjects_45 rfl (lv_at hl 0 rfl) ?_
            refine va_get (D := D) (ci := 4) (v := .ref ta) (C := "StatRows") (T := TX) (N := 5) hx hb ht inX hown hK hP 0 rfl rfl 4 (by decide) (ht _ wd81) (fun _ h9 => h9) rfl dX_tallyObjects_46 ?_
            refine lv_aload_n hx hb dX_tallyObjects_49 rfl (lv_at hl 0 rfl) ?_
            refine va_get (D := D) (ci := 4) (v := .ref t0) (C := "StatRows") (T := TX) (N := 5) hx hb ht inX hown hK hP 0 rfl rfl 0 (by decide) (ht _ wd77) (fun _ h9 => h9) rfl dX_tallyObjects_50 ?_
            refine lv_iload hx hb dX_tallyObjects_53 (lv_at hl 4 rfl) ?_
            refine zz_ci (v := nI ((Ls pp).getD i 0 % 256)) (W.runV (As := [.int (nI (tr_off Ls pp + i))]) (rest := [.ref ta]) ⟨hx, hb, hml, hown, ht⟩ (c_T_objectAt l D cI cB t0 t1 t2 f g (tr_off Ls pp + i) ((Ls pp).getD i 0) (by omega) (hT.2.1 pp hp i (by omega)) (hT.2.2.2.1 pp hp i (by omega))) (cwV 1 ht (gd_V wd198 wd199 wd200 wd2 wd201) rfl rfl rfl (by decide +kernel) ⟨Nat.le_of_ble_eq_true rfl, Nat.le_of_ble_eq_true rfl⟩) (zz_R_V hN hK (hP.sub (ws' := [(t0, .inr (0, [.ref t1, .ref t2])), (t1, .inl (cI, 400, .inl f)), (t2, .inl (cI, 9, .inl g))]) [1, 2, 3] rfl) 0 0 rfl rfl) rfl rfl hl.1 rfl (lv_room (Nat.le_of_ble_eq_true rfl)) dX_tallyObjects_55 ⟨Nat.le_of_ble_eq_true rfl, Nat.le_of_ble_eq_true rfl⟩) ?_
            refine lv_dup2_11 hx hb dX_tallyObjects_58 rfl rfl ?_
            refine zz_iald (k := (Ls pp).getD i 0 % 256) hx hb hK hP 4 0 rfl rfl (by omega) (by decide) dX_tallyObjects_59 ?_
            refine zz_top (y := nI (0 + ((Ls pp).take i).countP (fun c => okf fl c && obj_ c == ((Ls pp).getD i 0 % 256)))) (hz _ (by omega)) ?_
            refine lv_iconst (v := nI 1) hx hb dX_tallyObjects_60 (by decide) ?_
            refine lv_iadd hx hb dX_tallyObjects_61 ?_
            refine zz_top (y := nI ((0 + ((Ls pp).take i).countP (fun c => okf fl c && obj_ c == ((Ls pp).getD i 0 % 256))) + 1)) (nI_add (0 + ((Ls pp).take i).countP (fun c => okf fl c && obj_ c == ((Ls pp).getD i 0 % 256))) 1) ?_
            refine zz_iast (k := (Ls pp).getD i 0 % 256) hx hb hK hP hD hS 4 0 rfl rfl (by omega) (by decide) dX_tallyObjects_62 (fun H locs hP hD hS => ?_)
            have hP : va_P D vwCl [(x0, .inr (4, [.ref t0, .ref p0, .ref v0, .ref g0, .ref ta])), (t0, .inr (0, [.ref t1, .ref t2])), (t1, .inl (cI, 400, .inl f)), (t2, .inl (cI, 9, .inl g)), (ta, .inl (cI, 256, .inl (upd tk ((Ls pp).getD i 0 % 256) (nI ((0 + ((Ls pp).take i).countP (fun c => okf fl c && obj_ c == ((Ls pp).getD i 0 % 256))) + 1)))))] H := hP
            have hD : va_D A [(x0, .inr (4, [.ref t0, .ref p0, .ref v0, .ref g0, .ref ta])), (t0, .inr (0, [.ref t1, .ref t2])), (t1, .inl (cI, 400, .inl f)), (t2, .inl (cI, 9, .inl g)), (ta, .inl (cI, 256, .inl (upd tk ((Ls pp).getD i 0 % 256) (nI ((0 + ((Ls pp).take i).countP (fun c => okf fl c && obj_ c == ((Ls pp).getD i 0 % 256))) + 1)))))] := hD
            refine lv_iinc (v := nI (tr_off Ls pp + i + 1)) (lv' := [(4, .int (nI (tr_off Ls pp + i + 1))), (0, .ref x0), (1, .int (nI pp)), (2, .int (nI fl.toNat)), (3, .int (nI (tr_off Ls pp + (Ls pp).length)))]) hx hb dX_tallyObjects_63 hl (k := 4) rfl (nI_1 (tr_off Ls pp + i)) (by decide) rfl (fun ls hl => ?_)
            refine lv_goto (tgt := 23) hx hb dX_tallyObjects_66 (by decide) ?_
            exact ih23 (i + 1) (upd tk ((Ls pp).getD i 0 % 256) (nI ((0 + ((Ls pp).take i).countP (fun c => okf fl c && obj_ c == ((Ls pp).getD i 0 % 256))) + 1))) (by omega) (tal_step (key := obj_) (tv := fun _ => 0) (by omega) (okf fl) hz hok) (by omega) _ _ hP hD hS ls (lv_sub hl [1, 2, 3, 4, 0] rfl)
  exact lp23 (((Ls pp).length - 0) + 1) 0 u1 (Nat.zero_le _) (fun v hv => by rw [hq1 v hv]; simp) (Nat.lt_succ_self _) _ _ hP hD hS ls (lv_sub hl [2, 3, 4, 1, 0] rfl)

abbrev rm_X_differentInTally : Room := { frames := 0, cells := 0, slots := 0, locals := 0 }
set_option maxHeartbeats 4000000 in
set_option maxRecDepth 100000 in
theorem c_X_differentInTally (l : Launch) (D : va_G) (cI cB : ClassId) (x0 t0 t1 t2 p0 v0 g0 ta : Nat) (tl : Nat → Int32) (tv : Nat → Nat) (htv : ∀ v, v < 256 → tl v = nI (tv v)) (htb : ∀ v, v < 256 → tv v < 1000) : Met l yX_differentInTally wX_differentInTally rm_X_differentInTally (zz_R D vwCl [(cI, .int), (cB, .boolean)] [.ref x0] [(x0, .inr (4, [.ref t0, .ref p0, .ref v0, .ref g0, .ref ta])), (ta, .inl (cI, 256, .inl tl))]) (vp_Si (fun r : Int32 => r = nI (cnt (fun v => decide (0 < tv v)) 256))) 0 0 (fun _ => False) := by
  refine Met.ofW (cc := cX_differentInTally) (maxL := 3) (ret := (some .int)) (by decide) rfl ?_
  intro pg ev s mt args below meth kd s₁ B hml hv
  obtain ⟨rfl, hP, hK, hN⟩ := hv
  have hx := B.exec
  have hb := B.bytes
  have hr := B.returns
  have ht : ∀ w ∈ W0, w.before _ s = true := fun w h => atoms_spec (ws := wX_differentInTally) B.pre w (List.mem_cons_of_mem _ h)
  have hown : s.vm.findClass "StatRows" = some mt.cls := findClass_of_methodNamed B.named
  have hlocks := B.notSynchronized
  have hl := lv_entry ([.ref x0]) (n := 3) (Nat.le_of_ble_eq_true rfl)
  rw [lg_entry_eq]
  generalize (lg_sl ([.ref x0]) ++ List.replicate (3 - (lg_sl ([.ref x0])).length) Slot.unset).toArray = ls at hl ⊢
  have hl : lv_has ls 3 [(0, .ref x0)] := hl
  refine lv_iconst (v := nI 0) hx hb dX_differentInTally_0 (by decide) ?_
  refine lv_istore_n (lv' := [(1, .int (nI 0)), (0, .ref x0)]) hx hb dX_differentInTally_1 rfl hl (by decide) rfl (fun ls hl => ?_)
  refine lv_iconst (v := nI 0) hx hb dX_differentInTally_2 (by decide) ?_
  refine lv_istore_n (lv' := [(2, .int (nI 0)), (1, .int (nI 0)), (0, .ref x0)]) hx hb dX_differentInTally_3 rfl hl (by decide) rfl (fun ls hl => ?_)
  have lp4 : ∀ (fu : Nat) (i : Nat) (hi : i ≤ 256) (hm : 256 - i < fu) (ls : Array Slot) (hl : lv_has ls 3 [(0, .ref x0), (1, .int (nI (cnt (fun v => decide (0 < tv v)) i))), (2, .int (nI i))]), W pg l ev (headSpec wX_differentInTally rm_X_differentInTally).room s mt (([.ref x0] : List Value).toArray) below meth kd s.heap [] 0 0 (MQ below (vp_Si (fun r : Int32 => r = nI (cnt (fun v => decide (0 < tv v)) 256))) (([.ref x0] : List Value).toArray) s 0 0 (fun _ => False)) (F0 mt 4 ls []) := by
    intro fu
    induction fu with
    | zero => intro i hi hm; exact absurd hm (Nat.not_lt_zero _)
    | succ fu ih4 =>
      intro i hi hm ls hl
      refine lv_iload_n hx hb dX_differentInTally_4 rfl (lv_at hl 2 rfl) ?_
      refine lv_sipush (v := nI 256) hx hb dX_differentInTally_5 (by decide) ?_
      refine lv_icmp_ge (tgt := 29) hx hb dX_differentInTally_8 (by decide) (fun c8 => ?_) (fun c8 => ?_)
      · -- taken
        have c8 : 256 ≤ i := (nI_leI (a := 256) (b := i) (by omega) (by omega)).mp c8
        refine lv_iload_n hx hb dX_differentInTally_29 rfl (lv_at hl 1 rfl) ?_
        exact zz_iretR (v := nI (cnt (fun v => decide (0 < tv v)) i)) hx hb hr hlocks (by rw [show i = 256 by omega]) dX_differentInTally_30
      · -- not taken
        have c8 : ¬ (256 ≤ i) := fun h => c8 ((nI_leI (a := 256) (b := i) (by omega) (by omega)).mpr h)
        refine lv_aload_n hx hb dX_differentInTally_11 rfl (lv_at hl 0 rfl) ?_
        refine va_get (D := D) (ci := 4) (v := .ref ta) (C := "StatRows") (T := TX) (N := 5) hx hb ht inX hown hK hP 0 rfl rfl 4 (by decide) (ht _ wd81) (fun _ h9 => h9) rfl dX_differentInTally_12 ?_
        refine lv_iload_n hx hb dX_differentInTally_15 rfl (lv_at hl 2 rfl) ?_
        refine zz_iald (k := i) hx hb hK hP 1 0 rfl rfl (by omega) (by decide) dX_differentInTally_16 ?_
        refine zz_top (y := nI (tv i)) (htv i (by omega)) ?_
        have htb1 := htb i (by omega)
        refine lv_if_le (tgt := 23) hx hb dX_differentInTally_17 (by decide) (fun c17 => ?_) (fun c17 => ?_)
        · -- taken
          have c17 : tv i ≤ 0 := (nI_leI (a := tv i) (b := 0) (by omega) (by omega)).mp c17
          have ez : cnt (fun v => decide (0 < tv v)) i = cnt (fun v => decide (0 < tv v)) (i + 1) := by rw [cnt_s, decide_eq_false (by omega)]; rfl
          rw [ez] at hl
          refine lv_iinc (v := nI (i + 1)) (lv' := [(2, .int (nI (i + 1))), (0, .ref x0), (1, .int (nI (cnt (fun v => decide (0 < tv v)) (i + 1))))]) hx hb dX_differentInTally_23 hl (k := 2) rfl (nI_1 i) (by decide) rfl (fun ls hl => ?_)
          refine lv_goto (tgt := 4) hx hb dX_differentInTally_26 (by decide) ?_
          exact ih4 (i + 1) (by omega) (by omega) ls (lv_sub hl [1, 2, 0] rfl)
        · -- not taken
          have c17 : ¬ (tv i ≤ 0) := fun h => c17 ((nI_leI (a := tv i) (b := 0) (by omega) (by omega)).mpr h)
          refine lv_iinc (v := nI (cnt (fun v => decide (0 < tv v)) i + 1)) (lv' := [(1, .int (nI (cnt (fun v => decide (0 < tv v)) i + 1))), (0, .ref x0), (2, .int (nI i))]) hx hb dX_differentInTally_20 hl (k := 1) rfl (nI_1 (cnt (fun v => decide (0 < tv v)) i)) (by decide) rfl (fun ls hl => ?_)
          have ez : cnt (fun v => decide (0 < tv v)) i + 1 = cnt (fun v => decide (0 < tv v)) (i + 1) := by rw [cnt_s, decide_eq_true (by omega)]; rfl
          rw [ez] at hl
          refine lv_iinc (v := nI (i + 1)) (lv' := [(2, .int (nI (i + 1))), (1, .int (nI (cnt (fun v => decide (0 < tv v)) (i + 1)))), (0, .ref x0)]) hx hb dX_differentInTally_23 hl (k := 2) rfl (nI_1 i) (by decide) rfl (fun ls hl => ?_)
          refine lv_goto (tgt := 4) hx hb dX_differentInTally_26 (by decide) ?_
          exact ih4 (i + 1) (by omega) (by omega) ls (lv_sub hl [2, 1, 0] rfl)
  exact lp4 ((256 - 0) + 1) 0 (Nat.zero_le _) (Nat.lt_succ_self _) ls (lv_sub hl [2, 1, 0] rfl)

abbrev rm_X_sumAtSubjects : Room := { frames := 2, cells := 0, slots := 0, locals := 42 }
set_option maxHeartbeats 4000000 in
set_option maxRecDepth 100000 in
theorem c_X_sumAtSubjects (l : Launch) (D : va_G) (cI cB : ClassId) (x0 t0 t1 t2 p0 v0 g0 ta : Nat) (f g : Nat → Int32) (Ls : Nat → List Nat) (hT : RT Ls f g) (tl : Nat → Int32) (tv : Nat → Nat) (htv : ∀ v, v < 256 → tl v = nI (tv v)) (htb : ∀ v, v < 256 → tv v < 1000) (pp : Nat) (hp : pp < 8) (fl : Bool) : Met l yX_sumAtSubjects wX_sumAtSubjects rm_X_sumAtSubjects (zz_R D vwCl [(cI, .int), (cB, .boolean)] [.ref x0, .int (nI pp), .int (nI fl.toNat)] [(x0, .inr (4, [.ref t0, .ref p0, .ref v0, .ref g0, .ref ta])), (t0, .inr (0, [.ref t1, .ref t2])), (t1, .inl (cI, 400, .inl f)), (t2, .inl (cI, 9, .inl g)), (ta, .inl (cI, 256, .inl tl))]) (vp_Sl (fun r : Int64 => r = lN (sumf (fun c => if okf fl c = true then tv (sub_ c) else 0) (Ls pp)))) 0 0 (fun _ => False) := by
  refine Met.ofW (cc := cX_sumAtSubjects) (maxL := 7) (ret := (some .long)) (by decide) rfl ?_
  intro pg ev s mt args below meth kd s₁ B hml hv
  obtain ⟨rfl, hP, hK, hN⟩ := hv
  have hx := B.exec
  have hb := B.bytes
  have hr := B.returns
  have ht : ∀ w ∈ W0, w.before _ s = true := fun w h => atoms_spec (ws := wX_sumAtSubjects) B.pre w (List.mem_cons_of_mem _ h)
  have hown : s.vm.findClass "StatRows" = some mt.cls := findClass_of_methodNamed B.named
  have hlocks := B.notSynchronized
  have hl := lv_entry ([.ref x0, .int (nI pp), .int (nI fl.toNat)]) (n := 7) (Nat.le_of_ble_eq_true rfl)
  rw [lg_entry_eq]
  generalize (lg_sl ([.ref x0, .int (nI pp), .int (nI fl.toNat)]) ++ List.replicate (7 - (lg_sl ([.ref x0, .int (nI pp), .int (nI fl.toNat)])).length) Slot.unset).toArray = ls at hl ⊢
  have hl : lv_has ls 7 [(0, .ref x0), (1, .int (nI pp)), (2, .int (nI fl.toNat))] := hl
  have htp := tr_top (Ls := Ls) hp
  have h400 := hT.2.2.1
  have hfl := btl fl
  refine lv_lconst (v := lN 0) hx hb dX_sumAtSubjects_0 rfl ?_
  refine lv_lstore_n (lv' := [(3, .long (lN 0)), (0, .ref x0), (1, .int (nI pp)), (2, .int (nI fl.toNat))]) hx hb dX_sumAtSubjects_1 rfl hl (by decide) rfl (fun ls hl => ?_)
  refine lv_aload_n hx hb dX_sumAtSubjects_2 rfl (lv_at hl 1 rfl) ?_
  refine va_get (D := D) (ci := 4) (v := .ref t0) (C := "StatRows") (T := TX) (N := 5) hx hb ht inX hown hK hP 0 rfl rfl 0 (by decide) (ht _ wd77) (fun _ h9 => h9) rfl dX_sumAtSubjects_3 ?_
  refine lv_iload_n hx hb dX_sumAtSubjects_6 rfl (lv_at hl 2 rfl) ?_
  refine zz_ci (v := nI (tr_off Ls pp + (Ls pp).length)) (W.runV (As := [.int (nI pp)]) (rest := []) ⟨hx, hb, hml, hown, ht⟩ (c_T_end l D cI cB t0 t1 t2 f g pp (tr_off Ls pp + (Ls pp).length) hp (hT.1 (pp + 1) (by omega))) (cwV 1 ht (gd_V wd171 wd118 wd119 wd2 wd120) rfl rfl rfl (by decide +kernel) ⟨Nat.le_of_ble_eq_true rfl, Nat.le_of_ble_eq_true rfl⟩) (zz_R_V hN hK (hP.sub (ws' := [(t0, .inr (0, [.ref t1, .ref t2])), (t1, .inl (cI, 400, .inl f)), (t2, .inl (cI, 9, .inl g))]) [1, 2, 3] rfl) 0 0 rfl rfl) rfl rfl hl.1 rfl (lv_room (Nat.le_of_ble_eq_true rfl)) dX_sumAtSubjects_7 ⟨Nat.le_of_ble_eq_true rfl, Nat.le_of_ble_eq_true rfl⟩) ?_
  refine lv_istore (lv' := [(5, .int (nI (tr_off Ls pp + (Ls pp).length))), (3, .long (lN 0)), (0, .ref x0), (1, .int (nI pp)), (2, .int (nI fl.toNat))]) hx hb dX_sumAtSubjects_10 hl (by decide) rfl (fun ls hl => ?_)
  refine lv_aload_n hx hb dX_sumAtSubjects_12 rfl (lv_at hl 2 rfl) ?_
  refine va_get (D := D) (ci := 4) (v := .ref t0) (C := "StatRows") (T := TX) (N := 5) hx hb ht inX hown hK hP 0 rfl rfl 0 (by decide) (ht _ wd77) (fun _ h9 => h9) rfl dX_sumAtSubjects_13 ?_
  refine lv_iload_n hx hb dX_sumAtSubjects_16 rfl (lv_at hl 3 rfl) ?_
  refine zz_ci (v := nI (tr_off Ls pp + 0)) (W.runV (As := [.int (nI pp)]) (rest := []) ⟨hx, hb, hml, hown, ht⟩ (c_T_start l D cI cB t0 t1 t2 f g pp (tr_off Ls pp) (by omega) (hT.1 pp (by omega))) (cwV 1 ht (gd_V wd172 wd122 wd123 wd2 wd124) rfl rfl rfl (by decide +kernel) ⟨Nat.le_of_ble_eq_true rfl, Nat.le_of_ble_eq_true rfl⟩) (zz_R_V hN hK (hP.sub (ws' := [(t0, .inr (0, [.ref t1, .ref t2])), (t1, .inl (cI, 400, .inl f)), (t2, .inl (cI, 9, .inl g))]) [1, 2, 3] rfl) 0 0 rfl rfl) rfl rfl hl.1 rfl (lv_room (Nat.le_of_ble_eq_true rfl)) dX_sumAtSubjects_17 ⟨Nat.le_of_ble_eq_true rfl, Nat.le_of_ble_eq_true rfl⟩) ?_
  refine lv_istore (lv' := [(6, .int (nI (tr_off Ls pp + 0))), (5, .int (nI (tr_off Ls pp + (Ls pp).length))), (3, .long (lN 0)), (0, .ref x0), (1, .int (nI pp)), (2, .int (nI fl.toNat))]) hx hb dX_sumAtSubjects_20 hl (by decide) rfl (fun ls hl => ?_)
  have lp22 : ∀ (fu : Nat) (i : Nat) (hi : i ≤ (Ls pp).length) (hm : (Ls pp).length - i < fu) (ls : Array Slot) (hl : lv_has ls 7 [(0, .ref x0), (1, .int (nI pp)), (2, .int (nI fl.toNat)), (3, .long (lN (sumf (fun c => if okf fl c = true then tv (sub_ c) else 0) ((Ls pp).take i)))), (5, .int (nI (tr_off Ls pp + (Ls pp).length))), (6, .int (nI (tr_off Ls pp + i)))]), W pg l ev (headSpec wX_sumAtSubjects rm_X_sumAtSubjects).room s mt (([.ref x0, .int (nI pp), .int (nI fl.toNat)] : List Value).toArray) below meth kd s.heap [] 0 0 (MQ below (vp_Sl (fun r : Int64 => r = lN (sumf (fun c => if okf fl c = true then tv (sub_ c) else 0) (Ls pp)))) (([.ref x0, .int (nI pp), .int (nI fl.toNat)] : List Value).toArray) s 0 0 (fun _ => False)) (F0 mt 22 ls []) := by
    intro fu
    induction fu with
    | zero => intro i hi hm; exact absurd hm (Nat.not_lt_zero _)
    | succ fu ih22 =>
      intro i hi hm ls hl
      refine lv_iload hx hb dX_sumAtSubjects_22 (lv_at hl 5 rfl) ?_
      refine lv_iload hx hb dX_sumAtSubjects_24 (lv_at hl 4 rfl) ?_
      refine lv_icmp_ge (tgt := 69) hx hb dX_sumAtSubjects_26 (by decide) (fun c26 => ?_) (fun c26 => ?_)
      · -- taken
        have c26 : tr_off Ls pp + (Ls pp).length ≤ tr_off Ls pp + i := (nI_leI (a := tr_off Ls pp + (Ls pp).length) (b := tr_off Ls pp + i) (by omega) (by omega)).mp c26
        refine lv_lload_n hx hb dX_sumAtSubjects_69 rfl (lv_at hl 3 rfl) ?_
        exact zz_lretR (v := lN (sumf (fun c => if okf fl c = true then tv (sub_ c) else 0) ((Ls pp).take i))) hx hb hr hlocks (by rw [tkl _ i (by omega)]) dX_sumAtSubjects_70
      · -- not taken
        have c26 : ¬ (tr_off Ls pp + (Ls pp).length ≤ tr_off Ls pp + i) := fun h => c26 ((nI_leI (a := tr_off Ls pp + (Ls pp).length) (b := tr_off Ls pp + i) (by omega) (by omega)).mpr h)
        have hci := hT.2.2.2.1 pp hp i (by omega)
        have hsb := btl (smp ((Ls pp).getD i 0))
        have htb1 := htb ((Ls pp).getD i 0 / 256) (by omega)
        refine lv_iload_n hx hb dX_sumAtSubjects_29 rfl (lv_at hl 2 rfl) ?_
        refine lv_if_eq (tgt := 45) hx hb dX_sumAtSubjects_30 (by decide) (fun c30 => ?_) (fun c30 => ?_)
        · -- taken
          have c30 : fl.toNat = 0 := (nI_eq (a := fl.toNat) (b := 0) (by omega) (by omega)).mp c30
          have hok : okf fl ((Ls pp).getD i 0) = true := by unfold okf; rw [bt0 c30]; rfl
          refine lv_lload_n hx hb dX_sumAtSubjects_45 rfl (lv_at hl 3 rfl) ?_
          refine lv_aload_n hx hb dX_sumAtSubjects_46 rfl (lv_at hl 0 rfl) ?_
          refine va_get (D := D) (ci := 4) (v := .ref ta) (C := "StatRows") (T := TX) (N := 5) hx hb ht inX hown hK hP 0 rfl rfl 4 (by decide) (ht _ wd81) (fun _ h9 => h9) rfl dX_sumAtSubjects_47 ?_
          refine lv_aload_n hx hb dX_sumAtSubjects_50 rfl (lv_at hl 0 rfl) ?_
          refine va_get (D := D) (ci := 4) (v := .ref t0) (C := "StatRows") (T := TX) (N := 5) hx hb ht inX hown hK hP 0 rfl rfl 0 (by decide) (ht _ wd77) (fun _ h9 => h9) rfl dX_sumAtSubjects_51 ?_
          refine lv_iload hx hb dX_sumAtSubjects_54 (lv_at hl 5 rfl) ?_
          refine zz_ci (v := nI ((Ls pp).getD i 0 / 256)) (W.runV (As := [.int (nI (tr_off Ls pp + i))]) (rest := [.ref ta, .long (lN (sumf (fun c => if okf fl c = true then tv (sub_ c) else 0) ((Ls pp).take i)))]) ⟨hx, hb, hml, hown, ht⟩ (c_T_subjectAt l D cI cB t0 t1 t2 f g (tr_off Ls pp + i) ((Ls pp).getD i 0) (by omega) (hT.2.1 pp hp i (by omega)) (hT.2.2.2.1 pp hp i (by omega))) (cwV 1 ht (gd_V wd173 wd174 wd175 wd2 wd176) rfl rfl rfl (by decide +kernel) ⟨Nat.le_of_ble_eq_true rfl, Nat.le_of_ble_eq_true rfl⟩) (zz_R_V hN hK (hP.sub (ws' := [(t0, .inr (0, [.ref t1, .ref t2])), (t1, .inl (cI, 400, .inl f)), (t2, .inl (cI, 9, .inl g))]) [1, 2, 3] rfl) 0 0 rfl rfl) rfl rfl hl.1 rfl (lv_room (Nat.le_of_ble_eq_true rfl)) dX_sumAtSubjects_56 ⟨Nat.le_of_ble_eq_true rfl, Nat.le_of_ble_eq_true rfl⟩) ?_
          refine zz_iald (k := (Ls pp).getD i 0 / 256) hx hb hK hP 4 0 rfl rfl (by omega) (by decide) dX_sumAtSubjects_59 ?_
          refine zz_top (y := nI (tv ((Ls pp).getD i 0 / 256))) (htv _ (by omega)) ?_
          refine lv_i2l (v := lN (tv ((Ls pp).getD i 0 / 256))) hx hb dX_sumAtSubjects_60 (nI_l (n := tv ((Ls pp).getD i 0 / 256)) (by omega)) ?_
          refine lv_ladd hx hb dX_sumAtSubjects_61 ?_
          refine zz_topl (y := lN ((sumf (fun c => if okf fl c = true then tv (sub_ c) else 0) ((Ls pp).take i)) + (tv ((Ls pp).getD i 0 / 256)))) (lN_add (sumf (fun c => if okf fl c = true then tv (sub_ c) else 0) ((Ls pp).take i)) (tv ((Ls pp).getD i 0 / 256))) ?_
          refine zz_topl (y := lN (sumf (fun c => if okf fl c = true then tv (sub_ c) else 0) ((Ls pp).take (i + 1)))) (by rw [tk1 _ i 0 (by omega), sumf1, hok]; rfl) ?_
          refine lv_lstore_n (lv' := [(3, .long (lN (sumf (fun c => if okf fl c = true then tv (sub_ c) else 0) ((Ls pp).take (i + 1))))), (0, .ref x0), (1, .int (nI pp)), (2, .int (nI fl.toNat)), (5, .int (nI (tr_off Ls pp + (Ls pp).length))), (6, .int (nI (tr_off Ls pp + i)))]) hx hb dX_sumAtSubjects_62 rfl hl (by decide) rfl (fun ls hl => ?_)
          refine lv_iinc (v := nI (tr_off Ls pp + i + 1)) (lv' := [(6, .int (nI (tr_off Ls pp + i + 1))), (3, .long (lN (sumf (fun c => if okf fl c = true then tv (sub_ c) else 0) ((Ls pp).take (i + 1))))), (0, .ref x0), (1, .int (nI pp)), (2, .int (nI fl.toNat)), (5, .int (nI (tr_off Ls pp + (Ls pp).length)))]) hx hb dX_sumAtSubjects_63 hl (k := 5) rfl (nI_1 (tr_off Ls pp + i)) (by decide) rfl (fun ls hl => ?_)
          refine lv_goto (tgt := 22) hx hb dX_sumAtSubjects_66 (by decide) ?_
          exact ih22 (i + 1) (by omega) (by omega) ls (lv_sub hl [2, 3, 4, 1, 5, 0] rfl)
        · -- not taken
          have c30 : ¬ (fl.toNat = 0) := fun h => c30 ((nI_eq (a := fl.toNat) (b := 0) (by omega) (by omega)).mpr h)
          refine lv_aload_n hx hb dX_sumAtSubjects_33 rfl (lv_at hl 0 rfl) ?_
          refine va_get (D := D) (ci := 4) (v := .ref t0) (C := "StatRows") (T := TX) (N := 5) hx hb ht inX hown hK hP 0 rfl rfl 0 (by decide) (ht _ wd77) (fun _ h9 => h9) rfl dX_sumAtSubjects_34 ?_
          refine lv_iload hx hb dX_sumAtSubjects_37 (lv_at hl 5 rfl) ?_
          refine zz_ci (v := nI ((smp ((Ls pp).getD i 0)).toNat)) (W.runV (As := [.int (nI (tr_off Ls pp + i))]) (rest := []) ⟨hx, hb, hml, hown, ht⟩ (c_T_isSampled l D cI cB t0 t1 t2 f g (tr_off Ls pp + i) ((Ls pp).getD i 0) (by omega) (hT.2.1 pp hp i (by omega))) (cwV 1 ht (gd_V wd189 wd190 wd191 wd2 wd192) rfl rfl rfl (by decide +kernel) ⟨Nat.le_of_ble_eq_true rfl, Nat.le_of_ble_eq_true rfl⟩) (zz_R_V hN hK (hP.sub (ws' := [(t0, .inr (0, [.ref t1, .ref t2])), (t1, .inl (cI, 400, .inl f)), (t2, .inl (cI, 9, .inl g))]) [1, 2, 3] rfl) 0 0 rfl rfl) rfl rfl hl.1 rfl (lv_room (Nat.le_of_ble_eq_true rfl)) dX_sumAtSubjects_39 ⟨Nat.le_of_ble_eq_true rfl, Nat.le_of_ble_eq_true rfl⟩) ?_
          refine lv_if_eq (tgt := 63) hx hb dX_sumAtSubjects_42 (by decide) (fun c42 => ?_) (fun c42 => ?_)
          · -- taken
            have c42 : (smp ((Ls pp).getD i 0)).toNat = 0 := (nI_eq (a := (smp ((Ls pp).getD i 0)).toNat) (b := 0) (by omega) (by omega)).mp c42
            have hok : okf fl ((Ls pp).getD i 0) = false := by unfold okf; rw [bt1 c30, bt0 c42]; rfl
            have ez : sumf (fun c => if okf fl c = true then tv (sub_ c) else 0) ((Ls pp).take i) = sumf (fun c => if okf fl c = true then tv (sub_ c) else 0) ((Ls pp).take (i + 1)) := by rw [tk1 _ i 0 (by omega), sumf1, hok]; rfl
            rw [ez] at hl
            refine lv_iinc (v := nI (tr_off Ls pp + i + 1)) (lv' := [(6, .int (nI (tr_off Ls pp + i + 1))), (0, .ref x0), (1, .int (nI pp)), (2, .int (nI fl.toNat)), (3, .long (lN (sumf (fun c => if okf fl c = true then tv (sub_ c) else 0) ((Ls pp).take (i + 1))))), (5, .int (nI (tr_off Ls pp + (Ls pp).length)))]) hx hb dX_sumAtSubjects_63 hl (k := 5) rfl (nI_1 (tr_off Ls pp + i)) (by decide) rfl (fun ls hl => ?_)
            refine lv_goto (tgt := 22) hx hb dX_sumAtSubjects_66 (by decide) ?_
            exact ih22 (i + 1) (by omega) (by omega) ls (lv_sub hl [1, 2, 3, 4, 5, 0] rfl)
          · -- not taken
            have c42 : ¬ ((smp ((Ls pp).getD i 0)).toNat = 0) := fun h => c42 ((nI_eq (a := (smp ((Ls pp).getD i 0)).toNat) (b := 0) (by omega) (by omega)).mpr h)
            have hok : okf fl ((Ls pp).getD i 0) = true := by unfold okf; rw [bt1 c42]; simp
            refine lv_lload_n hx hb dX_sumAtSubjects_45 rfl (lv_at hl 3 rfl) ?_
            refine lv_aload_n hx hb dX_sumAtSubjects_46 rfl (lv_at hl 0 rfl) ?_
            refine va_get (D := D) (ci := 4) (v := .ref ta) (C := "StatRows") (T := TX) (N := 5) hx hb ht inX hown hK hP 0 rfl rfl 4 (by decide) (ht _ wd81) (fun _ h9 => h9) rfl dX_sumAtSubjects_47 ?_
            refine lv_aload_n hx hb dX_sumAtSubjects_50 rfl (lv_at hl 0 rfl) ?_
            refine va_get (D := D) (ci := 4) (v := .ref t0) (C := "StatRows") (T := TX) (N := 5) hx hb ht inX hown hK hP 0 rfl rfl 0 (by decide) (ht _ wd77) (fun _ h9 => h9) rfl dX_sumAtSubjects_51 ?_
            refine lv_iload hx hb dX_sumAtSubjects_54 (lv_at hl 5 rfl) ?_
            refine zz_ci (v := nI ((Ls pp).getD i 0 / 256)) (W.runV (As := [.int (nI (tr_off Ls pp + i))]) (rest := [.ref ta, .long (lN (sumf (fun c => if okf fl c = true then tv (sub_ c) else 0) ((Ls pp).take i)))]) ⟨hx, hb, hml, hown, ht⟩ (c_T_subjectAt l D cI cB t0 t1 t2 f g (tr_off Ls pp + i) ((Ls pp).getD i 0) (by omega) (hT.2.1 pp hp i (by omega)) (hT.2.2.2.1 pp hp i (by omega))) (cwV 1 ht (gd_V wd173 wd174 wd175 wd2 wd176) rfl rfl rfl (by decide +kernel) ⟨Nat.le_of_ble_eq_true rfl, Nat.le_of_ble_eq_true rfl⟩) (zz_R_V hN hK (hP.sub (ws' := [(t0, .inr (0, [.ref t1, .ref t2])), (t1, .inl (cI, 400, .inl f)), (t2, .inl (cI, 9, .inl g))]) [1, 2, 3] rfl) 0 0 rfl rfl) rfl rfl hl.1 rfl (lv_room (Nat.le_of_ble_eq_true rfl)) dX_sumAtSubjects_56 ⟨Nat.le_of_ble_eq_true rfl, Nat.le_of_ble_eq_true rfl⟩) ?_
            refine zz_iald (k := (Ls pp).getD i 0 / 256) hx hb hK hP 4 0 rfl rfl (by omega) (by decide) dX_sumAtSubjects_59 ?_
            refine zz_top (y := nI (tv ((Ls pp).getD i 0 / 256))) (htv _ (by omega)) ?_
            refine lv_i2l (v := lN (tv ((Ls pp).getD i 0 / 256))) hx hb dX_sumAtSubjects_60 (nI_l (n := tv ((Ls pp).getD i 0 / 256)) (by omega)) ?_
            refine lv_ladd hx hb dX_sumAtSubjects_61 ?_
            refine zz_topl (y := lN ((sumf (fun c => if okf fl c = true then tv (sub_ c) else 0) ((Ls pp).take i)) + (tv ((Ls pp).getD i 0 / 256)))) (lN_add (sumf (fun c => if okf fl c = true then tv (sub_ c) else 0) ((Ls pp).take i)) (tv ((Ls pp).getD i 0 / 256))) ?_
            refine zz_topl (y := lN (sumf (fun c => if okf fl c = true then tv (sub_ c) else 0) ((Ls pp).take (i + 1)))) (by rw [tk1 _ i 0 (by omega), sumf1, hok]; rfl) ?_
            refine lv_lstore_n (lv' := [(3, .long (lN (sumf (fun c => if okf fl c = true then tv (sub_ c) else 0) ((Ls pp).take (i + 1))))), (0, .ref x0), (1, .int (nI pp)), (2, .int (nI fl.toNat)), (5, .int (nI (tr_off Ls pp + (Ls pp).length))), (6, .int (nI (tr_off Ls pp + i)))]) hx hb dX_sumAtSubjects_62 rfl hl (by decide) rfl (fun ls hl => ?_)
            refine lv_iinc (v := nI (tr_off Ls pp + i + 1)) (lv' := [(6, .int (nI (tr_off Ls pp + i + 1))), (3, .long (lN (sumf (fun c => if okf fl c = true then tv (sub_ c) else 0) ((Ls pp).take (i + 1))))), (0, .ref x0), (1, .int (nI pp)), (2, .int (nI fl.toNat)), (5, .int (nI (tr_off Ls pp + (Ls pp).length)))]) hx hb dX_sumAtSubjects_63 hl (k := 5) rfl (nI_1 (tr_off Ls pp + i)) (by decide) rfl (fun ls hl => ?_)
            refine lv_goto (tgt := 22) hx hb dX_sumAtSubjects_66 (by decide) ?_
            exact ih22 (i + 1) (by omega) (by omega) ls (lv_sub hl [2, 3, 4, 1, 5, 0] rfl)
  exact lp22 (((Ls pp).length - 0) + 1) 0 (Nat.zero_le _) (Nat.lt_succ_self _) ls (lv_sub hl [3, 4, 5, 2, 1, 0] rfl)

abbrev rm_X_withObjectBetween : Room := { frames := 1, cells := 0, slots := 0, locals := 21 }
set_option maxHeartbeats 4000000 in
set_option maxRecDepth 100000 in
theorem c_X_withObjectBetween (l : Launch) (D : va_G) (cI cB : ClassId) (x0 t0 t1 t2 p0 v0 g0 ta : Nat) (f g : Nat → Int32) (Ls : Nat → List Nat) (hT : RT Ls f g) (pp : Nat) (hp : pp < 8) (fr to : Int32) : Met l yX_withObjectBetween wX_withObjectBetween rm_X_withObjectBetween (zz_R D vwCl [(cI, .int), (cB, .boolean)] [.ref x0, .int (nI pp), .int fr, .int to] [(x0, .inr (4, [.ref t0, .ref p0, .ref v0, .ref g0, .ref ta])), (t0, .inr (0, [.ref t1, .ref t2])), (t1, .inl (cI, 400, .inl f)), (t2, .inl (cI, 9, .inl g))]) (vp_Si (fun r : Int32 => r = nI ((Ls pp).countP (fun c => btw fr to (obj_ c))))) 0 0 (fun _ => False) := by
  refine Met.ofW (cc := cX_withObjectBetween) (maxL := 8) (ret := (some .int)) (by decide) rfl ?_
  intro pg ev s mt args below meth kd s₁ B hml hv
  obtain ⟨rfl, hP, hK, hN⟩ := hv
  have hx := B.exec
  have hb := B.bytes
  have hr := B.returns
  have ht : ∀ w ∈ W0, w.before _ s = true := fun w h => atoms_spec (ws := wX_withObjectBetween) B.pre w (List.mem_cons_of_mem _ h)
  have hown : s.vm.findClass "StatRows" = some mt.cls := findClass_of_methodNamed B.named
  have hlocks := B.notSynchronized
  have hl := lv_entry ([.ref x0, .int (nI pp), .int fr, .int to]) (n := 8) (Nat.le_of_ble_eq_true rfl)
  rw [lg_entry_eq]
  generalize (lg_sl ([.ref x0, .int (nI pp), .int fr, .int to]) ++ List.replicate (8 - (lg_sl ([.ref x0, .int (nI pp), .int fr, .int to])).length) Slot.unset).toArray = ls at hl ⊢
  have hl : lv_has ls 8 [(0, .ref x0), (1, .int (nI pp)), (2, .int fr), (3, .int to)] := hl
  have htp := tr_top (Ls := Ls) hp
  have h400 := hT.2.2.1
  refine lv_iconst (v := nI 0) hx hb dX_withObjectBetween_0 (by decide) ?_
  refine lv_istore (lv' := [(4, .int (nI 0)), (0, .ref x0), (1, .int (nI pp)), (2, .int fr), (3, .int to)]) hx hb dX_withObjectBetween_1 hl (by decide) rfl (fun ls hl => ?_)
  refine lv_aload_n hx hb dX_withObjectBetween_3 rfl (lv_at hl 1 rfl) ?_
  refine va_get (D := D) (ci := 4) (v := .ref t0) (C := "StatRows") (T := TX) (N := 5) hx hb ht inX hown hK hP 0 rfl rfl 0 (by decide) (ht _ wd77) (fun _ h9 => h9) rfl dX_withObjectBetween_4 ?_
  refine lv_iload_n hx hb dX_withObjectBetween_7 rfl (lv_at hl 2 rfl) ?_
  refine zz_ci (v := nI (tr_off Ls pp + (Ls pp).length)) (W.runV (As := [.int (nI pp)]) (rest := []) ⟨hx, hb, hml, hown, ht⟩ (c_T_end l D cI cB t0 t1 t2 f g pp (tr_off Ls pp + (Ls pp).length) hp (hT.1 (pp + 1) (by omega))) (cwV 1 ht (gd_V wd171 wd118 wd119 wd2 wd120) rfl rfl rfl (by decide +kernel) ⟨Nat.le_of_ble_eq_true rfl, Nat.le_of_ble_eq_true rfl⟩) (zz_R_V hN hK (hP.sub (ws' := [(t0, .inr (0, [.ref t1, .ref t2])), (t1, .inl (cI, 400, .inl f)), (t2, .inl (cI, 9, .inl g))]) [1, 2, 3] rfl) 0 0 rfl rfl) rfl rfl hl.1 rfl (lv_room (Nat.le_of_ble_eq_true rfl)) dX_withObjectBetween_8 ⟨Nat.le_of_ble_eq_true rfl, Nat.le_of_ble_eq_true rfl⟩) ?_
  refine lv_istore (lv' := [(5, .int (nI (tr_off Ls pp + (Ls pp).length))), (4, .int (nI 0)), (0, .ref x0), (1, .int (nI pp)), (2, .int fr), (3, .int to)]) hx hb dX_withObjectBetween_11 hl (by decide) rfl (fun ls hl => ?_)
  refine lv_aload_n hx hb dX_withObjectBetween_13 rfl (lv_at hl 2 rfl) ?_
  refine va_get (D := D) (ci := 4) (v := .ref t0) (C := "StatRows") (T := TX) (N := 5) hx hb ht inX hown hK hP 0 rfl rfl 0 (by decide) (ht _ wd77) (fun _ h9 => h9) rfl dX_withObjectBetween_14 ?_
  refine lv_iload_n hx hb dX_withObjectBetween_17 rfl (lv_at hl 3 rfl) ?_
  refine zz_ci (v := nI (tr_off Ls pp + 0)) (W.runV (As := [.int (nI pp)]) (rest := []) ⟨hx, hb, hml, hown, ht⟩ (c_T_start l D cI cB t0 t1 t2 f g pp (tr_off Ls pp) (by omega) (hT.1 pp (by omega))) (cwV 1 ht (gd_V wd172 wd122 wd123 wd2 wd124) rfl rfl rfl (by decide +kernel) ⟨Nat.le_of_ble_eq_true rfl, Nat.le_of_ble_eq_true rfl⟩) (zz_R_V hN hK (hP.sub (ws' := [(t0, .inr (0, [.ref t1, .ref t2])), (t1, .inl (cI, 400, .inl f)), (t2, .inl (cI, 9, .inl g))]) [1, 2, 3] rfl) 0 0 rfl rfl) rfl rfl hl.1 rfl (lv_room (Nat.le_of_ble_eq_true rfl)) dX_withObjectBetween_18 ⟨Nat.le_of_ble_eq_true rfl, Nat.le_of_ble_eq_true rfl⟩) ?_
  refine lv_istore (lv' := [(6, .int (nI (tr_off Ls pp + 0))), (5, .int (nI (tr_off Ls pp + (Ls pp).length))), (4, .int (nI 0)), (0, .ref x0), (1, .int (nI pp)), (2, .int fr), (3, .int to)]) hx hb dX_withObjectBetween_21 hl (by decide) rfl (fun ls hl => ?_)
  have lp23 : ∀ (fu : Nat) (i : Nat) (hi : i ≤ (Ls pp).length) (hm : (Ls pp).length - i < fu) (ls : Array Slot) (hl : lv_has ls 8 [(0, .ref x0), (1, .int (nI pp)), (2, .int fr), (3, .int to), (4, .int (nI (((Ls pp).take i).countP (fun c => btw fr to (obj_ c))))), (5, .int (nI (tr_off Ls pp + (Ls pp).length))), (6, .int (nI (tr_off Ls pp + i)))]), W pg l ev (headSpec wX_withObjectBetween rm_X_withObjectBetween).room s mt (([.ref x0, .int (nI pp), .int fr, .int to] : List Value).toArray) below meth kd s.heap [] 0 0 (MQ below (vp_Si (fun r : Int32 => r = nI ((Ls pp).countP (fun c => btw fr to (obj_ c))))) (([.ref x0, .int (nI pp), .int fr, .int to] : List Value).toArray) s 0 0 (fun _ => False)) (F0 mt 23 ls []) := by
    intro fu
    induction fu with
    | zero => intro i hi hm; exact absurd hm (Nat.not_lt_zero _)
    | succ fu ih23 =>
      intro i hi hm ls hl
      refine lv_iload hx hb dX_withObjectBetween_23 (lv_at hl 6 rfl) ?_
      refine lv_iload hx hb dX_withObjectBetween_25 (lv_at hl 5 rfl) ?_
      refine lv_icmp_ge (tgt := 62) hx hb dX_withObjectBetween_27 (by decide) (fun c27 => ?_) (fun c27 => ?_)
      · -- taken
        have c27 : tr_off Ls pp + (Ls pp).length ≤ tr_off Ls pp + i := (nI_leI (a := tr_off Ls pp + (Ls pp).length) (b := tr_off Ls pp + i) (by omega) (by omega)).mp c27
        refine lv_iload hx hb dX_withObjectBetween_62 (lv_at hl 4 rfl) ?_
        exact zz_iretR (v := nI (((Ls pp).take i).countP (fun c => btw fr to (obj_ c)))) hx hb hr hlocks (by rw [tkl _ i (by omega)]) dX_withObjectBetween_64
      · -- not taken
        have c27 : ¬ (tr_off Ls pp + (Ls pp).length ≤ tr_off Ls pp + i) := fun h => c27 ((nI_leI (a := tr_off Ls pp + (Ls pp).length) (b := tr_off Ls pp + i) (by omega) (by omega)).mpr h)
        have hci := hT.2.2.2.1 pp hp i (by omega)
        refine lv_aload_n hx hb dX_withObjectBetween_30 rfl (lv_at hl 0 rfl) ?_
        refine va_get (D := D) (ci := 4) (v := .ref t0) (C := "StatRows") (T := TX) (N := 5) hx hb ht inX hown hK hP 0 rfl rfl 0 (by decide) (ht _ wd77) (fun _ h9 => h9) rfl dX_withObjectBetween_31 ?_
        refine lv_iload hx hb dX_withObjectBetween_34 (lv_at hl 6 rfl) ?_
        refine zz_ci (v := nI ((Ls pp).getD i 0 % 256)) (W.runV (As := [.int (nI (tr_off Ls pp + i))]) (rest := []) ⟨hx, hb, hml, hown, ht⟩ (c_T_objectAt l D cI cB t0 t1 t2 f g (tr_off Ls pp + i) ((Ls pp).getD i 0) (by omega) (hT.2.1 pp hp i (by omega)) (hT.2.2.2.1 pp hp i (by omega))) (cwV 1 ht (gd_V wd198 wd199 wd200 wd2 wd201) rfl rfl rfl (by decide +kernel) ⟨Nat.le_of_ble_eq_true rfl, Nat.le_of_ble_eq_true rfl⟩) (zz_R_V hN hK (hP.sub (ws' := [(t0, .inr (0, [.ref t1, .ref t2])), (t1, .inl (cI, 400, .inl f)), (t2, .inl (cI, 9, .inl g))]) [1, 2, 3] rfl) 0 0 rfl rfl) rfl rfl hl.1 rfl (lv_room (Nat.le_of_ble_eq_true rfl)) dX_withObjectBetween_36 ⟨Nat.le_of_ble_eq_true rfl, Nat.le_of_ble_eq_true rfl⟩) ?_
        refine lv_istore (lv' := [(7, .int (nI ((Ls pp).getD i 0 % 256))), (0, .ref x0), (1, .int (nI pp)), (2, .int fr), (3, .int to), (4, .int (nI (((Ls pp).take i).countP (fun c => btw fr to (obj_ c))))), (5, .int (nI (tr_off Ls pp + (Ls pp).length))), (6, .int (nI (tr_off Ls pp + i)))]) hx hb dX_withObjectBetween_39 hl (by decide) rfl (fun ls hl => ?_)
        refine lv_iload_n hx hb dX_withObjectBetween_41 rfl (lv_at hl 3 rfl) ?_
        refine lv_iload hx hb dX_withObjectBetween_42 (lv_at hl 0 rfl) ?_
        refine lv_icmp_gt (tgt := 56) hx hb dX_withObjectBetween_44 (by decide) (fun c44 => ?_) (fun c44 => ?_)
        · -- taken
          have ez : ((Ls pp).take i).countP (fun c => btw fr to (obj_ c)) = ((Ls pp).take (i + 1)).countP (fun c => btw fr to (obj_ c)) := by
            rw [tk1 _ i 0 (by omega), cp1]
            have : btw fr to (obj_ ((Ls pp).getD i 0)) = false := decide_eq_false (fun q => q.1 c44)
            rw [this]; rfl
          rw [ez] at hl
          refine lv_iinc (v := nI (tr_off Ls pp + i + 1)) (lv' := [(6, .int (nI (tr_off Ls pp + i + 1))), (7, .int (nI ((Ls pp).getD i 0 % 256))), (0, .ref x0), (1, .int (nI pp)), (2, .int fr), (3, .int to), (4, .int (nI (((Ls pp).take (i + 1)).countP (fun c => btw fr to (obj_ c))))), (5, .int (nI (tr_off Ls pp + (Ls pp).length)))]) hx hb dX_withObjectBetween_56 hl (k := 7) rfl (nI_1 (tr_off Ls pp + i)) (by decide) rfl (fun ls hl => ?_)
          refine lv_goto (tgt := 23) hx hb dX_withObjectBetween_59 (by decide) ?_
          exact ih23 (i + 1) (by omega) (by omega) ls (lv_sub hl [2, 3, 4, 5, 6, 7, 0] rfl)
        · -- not taken
          refine lv_iload hx hb dX_withObjectBetween_47 (lv_at hl 0 rfl) ?_
          refine lv_iload_n hx hb dX_withObjectBetween_49 rfl (lv_at hl 4 rfl) ?_
          refine lv_icmp_gt (tgt := 56) hx hb dX_withObjectBetween_50 (by decide) (fun c50 => ?_) (fun c50 => ?_)
          · -- taken
            have ez : ((Ls pp).take i).countP (fun c => btw fr to (obj_ c)) = ((Ls pp).take (i + 1)).countP (fun c => btw fr to (obj_ c)) := by
              rw [tk1 _ i 0 (by omega), cp1]
              have : btw fr to (obj_ ((Ls pp).getD i 0)) = false := decide_eq_false (fun q => q.2 c50)
              rw [this]; rfl
            rw [ez] at hl
            refine lv_iinc (v := nI (tr_off Ls pp + i + 1)) (lv' := [(6, .int (nI (tr_off Ls pp + i + 1))), (7, .int (nI ((Ls pp).getD i 0 % 256))), (0, .ref x0), (1, .int (nI pp)), (2, .int fr), (3, .int to), (4, .int (nI (((Ls pp).take (i + 1)).countP (fun c => btw fr to (obj_ c))))), (5, .int (nI (tr_off Ls pp + (Ls pp).length)))]) hx hb dX_withObjectBetween_56 hl (k := 7) rfl (nI_1 (tr_off Ls pp + i)) (by decide) rfl (fun ls hl => ?_)
            refine lv_goto (tgt := 23) hx hb dX_withObjectBetween_59 (by decide) ?_
            exact ih23 (i + 1) (by omega) (by omega) ls (lv_sub hl [2, 3, 4, 5, 6, 7, 0] rfl)
          · -- not taken
            refine lv_iinc (v := nI (((Ls pp).take i).countP (fun c => btw fr to (obj_ c)) + 1)) (lv' := [(4, .int (nI (((Ls pp).take i).countP (fun c => btw fr to (obj_ c)) + 1))), (7, .int (nI ((Ls pp).getD i 0 % 256))), (0, .ref x0), (1, .int (nI pp)), (2, .int fr), (3, .int to), (5, .int (nI (tr_off Ls pp + (Ls pp).length))), (6, .int (nI (tr_off Ls pp + i)))]) hx hb dX_withObjectBetween_53 hl (k := 5) rfl (nI_1 (((Ls pp).take i).countP (fun c => btw fr to (obj_ c)))) (by decide) rfl (fun ls hl => ?_)
            have ez : ((Ls pp).take i).countP (fun c => btw fr to (obj_ c)) + 1 = ((Ls pp).take (i + 1)).countP (fun c => btw fr to (obj_ c)) := by
              rw [tk1 _ i 0 (by omega), cp1]
              have : btw fr to (obj_ ((Ls pp).getD i 0)) = true := decide_eq_true ⟨c44, c50⟩
              rw [this]; rfl
            rw [ez] at hl
            refine lv_iinc (v := nI (tr_off Ls pp + i + 1)) (lv' := [(6, .int (nI (tr_off Ls pp + i + 1))), (4, .int (nI (((Ls pp).take (i + 1)).countP (fun c => btw fr to (obj_ c))))), (7, .int (nI ((Ls pp).getD i 0 % 256))), (0, .ref x0), (1, .int (nI pp)), (2, .int fr), (3, .int to), (5, .int (nI (tr_off Ls pp + (Ls pp).length)))]) hx hb dX_withObjectBetween_56 hl (k := 7) rfl (nI_1 (tr_off Ls pp + i)) (by decide) rfl (fun ls hl => ?_)
            refine lv_goto (tgt := 23) hx hb dX_withObjectBetween_59 (by decide) ?_
            exact ih23 (i + 1) (by omega) (by omega) ls (lv_sub hl [3, 4, 5, 6, 1, 7, 0] rfl)
  exact lp23 (((Ls pp).length - 0) + 1) 0 (Nat.zero_le _) (Nat.lt_succ_self _) ls (lv_sub hl [3, 4, 5, 6, 2, 1, 0] rfl)
