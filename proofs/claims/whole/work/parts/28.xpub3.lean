abbrev rm_X_pattern : Room := { frames := 2, cells := 0, slots := 0, locals := 40 }
set_option maxHeartbeats 4000000 in
set_option maxRecDepth 100000 in
theorem c_X_pattern (l : Launch) (D : va_G) (cI cB : ClassId) (sz : Nat) (x0 t0 t1 t2 p0 v0 g0 ta p1_ p2_ p3_ : Nat) (fs fp fo : Nat → Int32) (n : Nat) (hn : n ≤ 30) (s1 p1 o1 : Int32) : Met l yX_pattern wX_pattern rm_X_pattern (zz_P D vwCl [(cI, .int), (cB, .boolean)] [.ref x0, .int s1, .int p1, .int o1] [(x0, .inr (4, [.ref t0, .ref p0, .ref v0, .ref g0, .ref ta])), (p0, .inr (1, [.ref p1_, .ref p2_, .ref p3_, .int (nI n)])), (p1_, .inl (cI, 30, .inl fs)), (p2_, .inl (cI, 30, .inl fp)), (p3_, .inl (cI, 30, .inl fo))] sz) (va_Qi (fun (r : Int32) (u : ((Nat → Int32) × (Nat → Int32) × (Nat → Int32) × Nat)) => (((decide (s1 = -1) || inr_ 256 s1) && (decide (p1 = -1) || inr_ 8 p1) && (decide (o1 = -1) || inr_ 256 o1)) = false ∧ r = -1 ∧ u = (fs, fp, fo, n)) ∨ (((decide (s1 = -1) || inr_ 256 s1) && (decide (p1 = -1) || inr_ 8 p1) && (decide (o1 = -1) || inr_ 256 o1)) = true ∧ ((∃ j, j < n ∧ (fs j = s1 ∧ fp j = p1 ∧ fo j = o1) ∧ (∀ i, i < j → ¬ (fs i = s1 ∧ fp i = p1 ∧ fo i = o1)) ∧ r = nI j ∧ u = (fs, fp, fo, n)) ∨ ((∀ i, i < n → ¬ (fs i = s1 ∧ fp i = p1 ∧ fo i = o1)) ∧ ((n = 30 ∧ r = -3 ∧ u = (fs, fp, fo, n)) ∨ (n < 30 ∧ r = nI n ∧ u = (upd fs n s1, upd fp n p1, upd fo n o1, n + 1))))))) (fun u : ((Nat → Int32) × (Nat → Int32) × (Nat → Int32) × Nat) => zz_B D vwCl [(cI, .int), (cB, .boolean)] (va_A [(x0, .inr (4, [.ref t0, .ref p0, .ref v0, .ref g0, .ref ta])), (p0, .inr (1, [.ref p1_, .ref p2_, .ref p3_, .int (nI n)])), (p1_, .inl (cI, 30, .inl fs)), (p2_, .inl (cI, 30, .inl fp)), (p3_, .inl (cI, 30, .inl fo))] sz) [(x0, .inr (4, [.ref t0, .ref p0, .ref v0, .ref g0, .ref ta])), (p0, .inr (1, [.ref p1_, .ref p2_, .ref p3_, .int (nI u.2.2.2)])), (p1_, .inl (cI, 30, .inl u.1)), (p2_, .inl (cI, 30, .inl u.2.1)), (p3_, .inl (cI, 30, .inl u.2.2.1))]) (va_A [(x0, .inr (4, [.ref t0, .ref p0, .ref v0, .ref g0, .ref ta])), (p0, .inr (1, [.ref p1_, .ref p2_, .ref p3_, .int (nI n)])), (p1_, .inl (cI, 30, .inl fs)), (p2_, .inl (cI, 30, .inl fp)), (p3_, .inl (cI, 30, .inl fo))] sz)) 0 0 (va_A [(x0, .inr (4, [.ref t0, .ref p0, .ref v0, .ref g0, .ref ta])), (p0, .inr (1, [.ref p1_, .ref p2_, .ref p3_, .int (nI n)])), (p1_, .inl (cI, 30, .inl fs)), (p2_, .inl (cI, 30, .inl fp)), (p3_, .inl (cI, 30, .inl fo))] sz) := by
  refine Met.ofW (cc := cX_pattern) (maxL := 4) (ret := (some .int)) (by decide) rfl ?_
  intro pg ev s mt args below meth kd s₁ B hml hv
  obtain ⟨rfl, hsz, hP, hK, hD0, hN⟩ := hv
  have hx := B.exec
  have hb := B.bytes
  have hr := B.returns
  have ht : ∀ w ∈ W0, w.before _ s = true := fun w h => atoms_spec (ws := wX_pattern) B.pre w (List.mem_cons_of_mem _ h)
  have hown : s.vm.findClass "StatRows" = some mt.cls := findClass_of_methodNamed B.named
  have hlocks := B.notSynchronized
  subst hsz
  have hD := hD0.self (sz := s.heap.size)
  generalize hAe : va_A [(x0, .inr (4, [.ref t0, .ref p0, .ref v0, .ref g0, .ref ta])), (p0, .inr (1, [.ref p1_, .ref p2_, .ref p3_, .int (nI n)])), (p1_, .inl (cI, 30, .inl fs)), (p2_, .inl (cI, 30, .inl fp)), (p3_, .inl (cI, 30, .inl fo))] s.heap.size = A at hD ⊢
  have hA : ∀ q : Nat, s.heap.size ≤ q → A q := fun q h => by rw [← hAe]; exact Or.inr h
  have hS : va_S A s.heap s.heap [] := va_S.rf
  have hP : va_P D vwCl [(x0, .inr (4, [.ref t0, .ref p0, .ref v0, .ref g0, .ref ta])), (p0, .inr (1, [.ref p1_, .ref p2_, .ref p3_, .int (nI n)])), (p1_, .inl (cI, 30, .inl fs)), (p2_, .inl (cI, 30, .inl fp)), (p3_, .inl (cI, 30, .inl fo))] s.heap := hP
  have hl := lv_entry ([.ref x0, .int s1, .int p1, .int o1]) (n := 4) (Nat.le_of_ble_eq_true rfl)
  rw [lg_entry_eq]
  generalize (lg_sl ([.ref x0, .int s1, .int p1, .int o1]) ++ List.replicate (4 - (lg_sl ([.ref x0, .int s1, .int p1, .int o1])).length) Slot.unset).toArray = ls at hl ⊢
  have hl : lv_has ls 4 [(0, .ref x0), (1, .int s1), (2, .int p1), (3, .int o1)] := hl
  have bl0 := btl ((decide (s1 = -1) || inr_ 256 s1))
  have bl1 := btl ((decide (p1 = -1) || inr_ 8 p1))
  have bl2 := btl ((decide (o1 = -1) || inr_ 256 o1))
  refine lv_iload_n hx hb dX_pattern_0 rfl (lv_at hl 1 rfl) ?_
  refine zz_ci (v := nI ((decide (s1 = -1) || inr_ 256 s1).toNat)) (W.runS (As := [.int s1]) (rest := []) ⟨hx, hb, hml, hown, ht⟩ (c_X_isNumberOrAny l s1) (va_cwS 1 ht (gd_S wd306 wd307 wd1 wd308) rfl rfl rfl (by decide +kernel) ⟨Nat.le_of_ble_eq_true rfl, Nat.le_of_ble_eq_true rfl⟩) zz_N_S rfl rfl hl.1 rfl (lv_room (Nat.le_of_ble_eq_true rfl)) dX_pattern_1 ⟨Nat.le_of_ble_eq_true rfl, Nat.le_of_ble_eq_true rfl⟩) ?_
  refine lv_if_eq (tgt := 21) hx hb dX_pattern_4 (by decide) (fun c4 => ?_) (fun c4 => ?_)
  · -- taken
    have c4 : (decide (s1 = -1) || inr_ 256 s1).toNat = 0 := (nI_eq (a := (decide (s1 = -1) || inr_ 256 s1).toNat) (b := 0) (by omega) (by omega)).mp c4
    have hs : ((decide (s1 = -1) || inr_ 256 s1) && (decide (p1 = -1) || inr_ 8 p1) && (decide (o1 = -1) || inr_ 256 o1)) = false := by rw [bt0 c4]; rfl
    refine lv_iconst (v := (-1)) hx hb dX_pattern_21 (by decide) ?_
    exact zz_iretW (v := (-1)) (w1 := fun u : ((Nat → Int32) × (Nat → Int32) × (Nat → Int32) × Nat) => [(x0, .inr (4, [.ref t0, .ref p0, .ref v0, .ref g0, .ref ta])), (p0, .inr (1, [.ref p1_, .ref p2_, .ref p3_, .int (nI u.2.2.2)])), (p1_, .inl (cI, 30, .inl u.1)), (p2_, .inl (cI, 30, .inl u.2.1)), (p3_, .inl (cI, 30, .inl u.2.2.1))]) (fs, fp, fo, n) hx hb hr hlocks (Or.inl ⟨hs, rfl, rfl⟩) hP hK hD hS dX_pattern_22
  · -- not taken
    have c4 : ¬ ((decide (s1 = -1) || inr_ 256 s1).toNat = 0) := fun h => c4 ((nI_eq (a := (decide (s1 = -1) || inr_ 256 s1).toNat) (b := 0) (by omega) (by omega)).mpr h)
    have e1 := bt1 c4
    refine lv_iload_n hx hb dX_pattern_7 rfl (lv_at hl 2 rfl) ?_
    refine zz_ci (v := nI ((decide (p1 = -1) || inr_ 8 p1).toNat)) (W.runS (As := [.int p1]) (rest := []) ⟨hx, hb, hml, hown, ht⟩ (c_X_isPredicateOrAny l p1) (va_cwS 1 ht (gd_S wd309 wd310 wd1 wd311) rfl rfl rfl (by decide +kernel) ⟨Nat.le_of_ble_eq_true rfl, Nat.le_of_ble_eq_true rfl⟩) zz_N_S rfl rfl hl.1 rfl (lv_room (Nat.le_of_ble_eq_true rfl)) dX_pattern_8 ⟨Nat.le_of_ble_eq_true rfl, Nat.le_of_ble_eq_true rfl⟩) ?_
    refine lv_if_eq (tgt := 21) hx hb dX_pattern_11 (by decide) (fun c11 => ?_) (fun c11 => ?_)
    · -- taken
      have c11 : (decide (p1 = -1) || inr_ 8 p1).toNat = 0 := (nI_eq (a := (decide (p1 = -1) || inr_ 8 p1).toNat) (b := 0) (by omega) (by omega)).mp c11
      have hs : ((decide (s1 = -1) || inr_ 256 s1) && (decide (p1 = -1) || inr_ 8 p1) && (decide (o1 = -1) || inr_ 256 o1)) = false := by rw [e1, bt0 c11]; rfl
      refine lv_iconst (v := (-1)) hx hb dX_pattern_21 (by decide) ?_
      exact zz_iretW (v := (-1)) (w1 := fun u : ((Nat → Int32) × (Nat → Int32) × (Nat → Int32) × Nat) => [(x0, .inr (4, [.ref t0, .ref p0, .ref v0, .ref g0, .ref ta])), (p0, .inr (1, [.ref p1_, .ref p2_, .ref p3_, .int (nI u.2.2.2)])), (p1_, .inl (cI, 30, .inl u.1)), (p2_, .inl (cI, 30, .inl u.2.1)), (p3_, .inl (cI, 30, .inl u.2.2.1))]) (fs, fp, fo, n) hx hb hr hlocks (Or.inl ⟨hs, rfl, rfl⟩) hP hK hD hS dX_pattern_22
    · -- not taken
      have c11 : ¬ ((decide (p1 = -1) || inr_ 8 p1).toNat = 0) := fun h => c11 ((nI_eq (a := (decide (p1 = -1) || inr_ 8 p1).toNat) (b := 0) (by omega) (by omega)).mpr h)
      have e2 := bt1 c11
      refine lv_iload_n hx hb dX_pattern_14 rfl (lv_at hl 3 rfl) ?_
      refine zz_ci (v := nI ((decide (o1 = -1) || inr_ 256 o1).toNat)) (W.runS (As := [.int o1]) (rest := []) ⟨hx, hb, hml, hown, ht⟩ (c_X_isNumberOrAny l o1) (va_cwS 1 ht (gd_S wd306 wd307 wd1 wd308) rfl rfl rfl (by decide +kernel) ⟨Nat.le_of_ble_eq_true rfl, Nat.le_of_ble_eq_true rfl⟩) zz_N_S rfl rfl hl.1 rfl (lv_room (Nat.le_of_ble_eq_true rfl)) dX_pattern_15 ⟨Nat.le_of_ble_eq_true rfl, Nat.le_of_ble_eq_true rfl⟩) ?_
      refine lv_if_ne (tgt := 23) hx hb dX_pattern_18 (by decide) (fun c18 => ?_) (fun c18 => ?_)
      · -- taken
        have c18 : ¬ ((decide (o1 = -1) || inr_ 256 o1).toNat = 0) := fun h => c18 ((nI_eq (a := (decide (o1 = -1) || inr_ 256 o1).toNat) (b := 0) (by omega) (by omega)).mpr h)
        have hs : ((decide (s1 = -1) || inr_ 256 s1) && (decide (p1 = -1) || inr_ 8 p1) && (decide (o1 = -1) || inr_ 256 o1)) = true := by rw [e1, e2, bt1 c18]; rfl
        refine lv_aload_n hx hb dX_pattern_23 rfl (lv_at hl 0 rfl) ?_
        refine va_get (D := D) (ci := 4) (v := .ref p0) (C := "StatRows") (T := TX) (N := 5) hx hb ht inX hown hK hP 0 rfl rfl 1 (by decide) (ht _ wd78) (fun _ h9 => h9) rfl dX_pattern_24 ?_
        refine lv_iload_n hx hb dX_pattern_27 rfl (lv_at hl 1 rfl) ?_
        refine lv_iload_n hx hb dX_pattern_28 rfl (lv_at hl 2 rfl) ?_
        refine lv_iload_n hx hb dX_pattern_29 rfl (lv_at hl 3 rfl) ?_
        refine zz_wi (wc := [(p0, .inr (1, [.ref p1_, .ref p2_, .ref p3_, .int (nI n)])), (p1_, .inl (cI, 30, .inl fs)), (p2_, .inl (cI, 30, .inl fp)), (p3_, .inl (cI, 30, .inl fo))]) (wr := [(x0, .inr (4, [.ref t0, .ref p0, .ref v0, .ref g0, .ref ta]))]) (va_runV (As := [.int s1, .int p1, .int o1]) (rest := []) ⟨hx, hb, hml, hown, ht⟩ (c_P_rowOf l D cI cB s.heap.size p0 p1_ p2_ p3_ fs fp fo n hn s1 p1 o1) (cwV 3 ht (gd_V wd312 wd313 wd314 wd3 wd315) rfl rfl rfl (by decide +kernel) ⟨Nat.le_of_ble_eq_true rfl, Nat.le_of_ble_eq_true rfl⟩) (zz_P_V hN hK (hP.sub (ws' := [(p0, .inr (1, [.ref p1_, .ref p2_, .ref p3_, .int (nI n)])), (p1_, .inl (cI, 30, .inl fs)), (p2_, .inl (cI, 30, .inl fp)), (p3_, .inl (cI, 30, .inl fo))]) [1, 2, 3, 4] rfl) (hD.sub (ws' := [(p0, .inr (1, [.ref p1_, .ref p2_, .ref p3_, .int (nI n)])), (p1_, .inl (cI, 30, .inl fs)), (p2_, .inl (cI, 30, .inl fp)), (p3_, .inl (cI, 30, .inl fo))]) [1, 2, 3, 4] (by decide) rfl) 1 0 rfl rfl) rfl rfl hl.1 rfl (lv_room (Nat.le_of_ble_eq_true rfl)) dX_pattern_30 ⟨Nat.le_of_ble_eq_true rfl, Nat.le_of_ble_eq_true rfl⟩) hP hD hS hA [1, 2, 3, 4] [0] rfl rfl (by decide) (by decide) (fun r30 u30 H locs hq30 hP hD hS => ?_)
        have hP := hP.sub (ws' := [(x0, .inr (4, [.ref t0, .ref p0, .ref v0, .ref g0, .ref ta])), (p0, .inr (1, [.ref p1_, .ref p2_, .ref p3_, .int (nI u30.2.2.2)])), (p1_, .inl (cI, 30, .inl u30.1)), (p2_, .inl (cI, 30, .inl u30.2.1)), (p3_, .inl (cI, 30, .inl u30.2.2.1))]) [0, 1, 2, 3, 4] rfl
        have hD := hD.sub (ws' := [(x0, .inr (4, [.ref t0, .ref p0, .ref v0, .ref g0, .ref ta])), (p0, .inr (1, [.ref p1_, .ref p2_, .ref p3_, .int (nI u30.2.2.2)])), (p1_, .inl (cI, 30, .inl u30.1)), (p2_, .inl (cI, 30, .inl u30.2.1)), (p3_, .inl (cI, 30, .inl u30.2.2.1))]) [0, 1, 2, 3, 4] (by decide) rfl
        exact zz_iretW (v := r30) (w1 := fun u : ((Nat → Int32) × (Nat → Int32) × (Nat → Int32) × Nat) => [(x0, .inr (4, [.ref t0, .ref p0, .ref v0, .ref g0, .ref ta])), (p0, .inr (1, [.ref p1_, .ref p2_, .ref p3_, .int (nI u.2.2.2)])), (p1_, .inl (cI, 30, .inl u.1)), (p2_, .inl (cI, 30, .inl u.2.1)), (p3_, .inl (cI, 30, .inl u.2.2.1))]) u30 hx hb hr hlocks (Or.inr ⟨hs, hq30⟩) hP hK hD hS dX_pattern_33
      · -- not taken
        have c18 : (decide (o1 = -1) || inr_ 256 o1).toNat = 0 := (nI_eq (a := (decide (o1 = -1) || inr_ 256 o1).toNat) (b := 0) (by omega) (by omega)).mp c18
        have hs : ((decide (s1 = -1) || inr_ 256 s1) && (decide (p1 = -1) || inr_ 8 p1) && (decide (o1 = -1) || inr_ 256 o1)) = false := by rw [e1, e2, bt0 (b := (decide (o1 = -1) || inr_ 256 o1)) (by omega)]; rfl
        refine lv_iconst (v := (-1)) hx hb dX_pattern_21 (by decide) ?_
        exact zz_iretW (v := (-1)) (w1 := fun u : ((Nat → Int32) × (Nat → Int32) × (Nat → Int32) × Nat) => [(x0, .inr (4, [.ref t0, .ref p0, .ref v0, .ref g0, .ref ta])), (p0, .inr (1, [.ref p1_, .ref p2_, .ref p3_, .int (nI u.2.2.2)])), (p1_, .inl (cI, 30, .inl u.1)), (p2_, .inl (cI, 30, .inl u.2.1)), (p3_, .inl (cI, 30, .inl u.2.2.1))]) (fs, fp, fo, n) hx hb hr hlocks (Or.inl ⟨hs, rfl, rfl⟩) hP hK hD hS dX_pattern_22

abbrev rm_X_matches : Room := { frames := 2, cells := 0, slots := 0, locals := 45 }
set_option maxHeartbeats 4000000 in
set_option maxRecDepth 100000 in
theorem c_X_matches (l : Launch) (D : va_G) (cI cB : ClassId) (x0 t0 t1 t2 p0 v0 g0 ta p1_ p2_ p3_ : Nat) (f g : Nat → Int32) (Ls : Nat → List Nat) (hT : RT Ls f g) (fs fp fo : Nat → Int32) (n : Nat) (hn : n ≤ 30) (row : Int32) : Met l yX_matches wX_matches rm_X_matches (zz_R D vwCl [(cI, .int), (cB, .boolean)] [.ref x0, .int row] [(x0, .inr (4, [.ref t0, .ref p0, .ref v0, .ref g0, .ref ta])), (t0, .inr (0, [.ref t1, .ref t2])), (t1, .inl (cI, 400, .inl f)), (t2, .inl (cI, 9, .inl g)), (p0, .inr (1, [.ref p1_, .ref p2_, .ref p3_, .int (nI n)])), (p1_, .inl (cI, 30, .inl fs)), (p2_, .inl (cI, 30, .inl fp)), (p3_, .inl (cI, 30, .inl fo))]) (vp_Si (fun r : Int32 => (¬ (¬ row < 0 ∧ ¬ nI n ≤ row) ∧ r = -1) ∨ ∃ k, k < n ∧ row = nI k ∧ r = nI (mts Ls (gow (fs k) (fp k) (fo k)) 8))) 0 0 (fun _ => False) := by
  refine Met.ofW (cc := cX_matches) (maxL := 6) (ret := (some .int)) (by decide) rfl ?_
  intro pg ev s mt args below meth kd s₁ B hml hv
  obtain ⟨rfl, hP, hK, hN⟩ := hv
  have hx := B.exec
  have hb := B.bytes
  have hr := B.returns
  have ht : ∀ w ∈ W0, w.before _ s = true := fun w h => atoms_spec (ws := wX_matches) B.pre w (List.mem_cons_of_mem _ h)
  have hown : s.vm.findClass "StatRows" = some mt.cls := findClass_of_methodNamed B.named
  have hlocks := B.notSynchronized
  have hl := lv_entry ([.ref x0, .int row]) (n := 6) (Nat.le_of_ble_eq_true rfl)
  rw [lg_entry_eq]
  generalize (lg_sl ([.ref x0, .int row]) ++ List.replicate (6 - (lg_sl ([.ref x0, .int row])).length) Slot.unset).toArray = ls at hl ⊢
  have hl : lv_has ls 6 [(0, .ref x0), (1, .int row)] := hl
  have h400 := hT.2.2.1
  have bl0 := btl (decide (¬ row < 0 ∧ ¬ nI n ≤ row))
  refine lv_aload_n hx hb dX_matches_0 rfl (lv_at hl 0 rfl) ?_
  refine va_get (D := D) (ci := 4) (v := .ref p0) (C := "StatRows") (T := TX) (N := 5) hx hb ht inX hown hK hP 0 rfl rfl 1 (by decide) (ht _ wd78) (fun _ h9 => h9) rfl dX_matches_1 ?_
  refine lv_iload_n hx hb dX_matches_4 rfl (lv_at hl 1 rfl) ?_
  refine zz_ci (v := nI ((decide (¬ row < 0 ∧ ¬ nI n ≤ row)).toNat)) (W.runV (As := [.int row]) (rest := []) ⟨hx, hb, hml, hown, ht⟩ (c_P_has l D cI cB p0 p1_ p2_ p3_ fs fp fo n hn row) (cwV 1 ht (gd_V wd320 wd321 wd322 wd3 wd323) rfl rfl rfl (by decide +kernel) ⟨Nat.le_of_ble_eq_true rfl, Nat.le_of_ble_eq_true rfl⟩) (zz_R_V hN hK (hP.sub (ws' := [(p0, .inr (1, [.ref p1_, .ref p2_, .ref p3_, .int (nI n)])), (p1_, .inl (cI, 30, .inl fs)), (p2_, .inl (cI, 30, .inl fp)), (p3_, .inl (cI, 30, .inl fo))]) [4, 5, 6, 7] rfl) 1 0 rfl rfl) rfl rfl hl.1 rfl (lv_room (Nat.le_of_ble_eq_true rfl)) dX_matches_5 ⟨Nat.le_of_ble_eq_true rfl, Nat.le_of_ble_eq_true rfl⟩) ?_
  refine lv_if_ne (tgt := 13) hx hb dX_matches_8 (by decide) (fun c8 => ?_) (fun c8 => ?_)
  · -- taken
    have c8 : ¬ ((decide (¬ row < 0 ∧ ¬ nI n ≤ row)).toNat = 0) := fun h => c8 ((nI_eq (a := (decide (¬ row < 0 ∧ ¬ nI n ≤ row)).toNat) (b := 0) (by omega) (by omega)).mpr h)
    have hin := of_decide_eq_true (bt1 c8)
    obtain ⟨k, hk, ek⟩ := zz_in (n := n) (by omega) hin.1 hin.2
    rw [ek] at hl
    refine lv_iconst (v := nI 0) hx hb dX_matches_13 (by decide) ?_
    refine lv_istore_n (lv' := [(2, .int (nI 0)), (0, .ref x0), (1, .int (nI k))]) hx hb dX_matches_14 rfl hl (by decide) rfl (fun ls hl => ?_)
    refine lv_iconst (v := nI 0) hx hb dX_matches_15 (by decide) ?_
    refine lv_istore_n (lv' := [(3, .int (nI 0)), (2, .int (nI 0)), (0, .ref x0), (1, .int (nI k))]) hx hb dX_matches_16 rfl hl (by decide) rfl (fun ls hl => ?_)
    have lp17 : ∀ (fu : Nat) (pp : Nat) (hpp : pp ≤ 8) (hm : 8 - pp < fu) (ls : Array Slot) (hl : lv_has ls 6 [(0, .ref x0), (1, .int (nI k)), (2, .int (nI (mts Ls (gow (fs k) (fp k) (fo k)) pp))), (3, .int (nI pp))]), W pg l ev (headSpec wX_matches rm_X_matches).room s mt (([.ref x0, .int row] : List Value).toArray) below meth kd s.heap [] 0 0 (MQ below (vp_Si (fun r : Int32 => (¬ (¬ row < 0 ∧ ¬ nI n ≤ row) ∧ r = -1) ∨ ∃ k, k < n ∧ row = nI k ∧ r = nI (mts Ls (gow (fs k) (fp k) (fo k)) 8))) (([.ref x0, .int row] : List Value).toArray) s 0 0 (fun _ => False)) (F0 mt 17 ls []) := by
      intro fu
      induction fu with
      | zero => intro pp hpp hm; exact absurd hm (Nat.not_lt_zero _)
      | succ fu ih17 =>
        intro pp hpp hm ls hl
        refine lv_iload_n hx hb dX_matches_17 rfl (lv_at hl 3 rfl) ?_
        refine lv_bipush (v := nI 8) hx hb dX_matches_18 (by decide) ?_
        refine lv_icmp_ge (tgt := 95) hx hb dX_matches_20 (by decide) (fun c20 => ?_) (fun c20 => ?_)
        · -- taken
          have c20 : 8 ≤ pp := (nI_leI (a := 8) (b := pp) (by omega) (by omega)).mp c20
          refine lv_iload_n hx hb dX_matches_95 rfl (lv_at hl 2 rfl) ?_
          exact zz_iretR (v := nI (mts Ls (gow (fs k) (fp k) (fo k)) pp)) hx hb hr hlocks (Or.inr ⟨k, hk, ek, by rw [show pp = 8 by omega]⟩) dX_matches_96
        · -- not taken
          have c20 : ¬ (8 ≤ pp) := fun h => c20 ((nI_leI (a := 8) (b := pp) (by omega) (by omega)).mpr h)
          have hp : pp < 8 := by omega
          have htp := tr_top (Ls := Ls) hp
          refine lv_aload_n hx hb dX_matches_23 rfl (lv_at hl 0 rfl) ?_
          refine va_get (D := D) (ci := 4) (v := .ref t0) (C := "StatRows") (T := TX) (N := 5) hx hb ht inX hown hK hP 0 rfl rfl 0 (by decide) (ht _ wd77) (fun _ h9 => h9) rfl dX_matches_24 ?_
          refine lv_iload_n hx hb dX_matches_27 rfl (lv_at hl 3 rfl) ?_
          refine zz_ci (v := nI (tr_off Ls pp + (Ls pp).length)) (W.runV (As := [.int (nI pp)]) (rest := []) ⟨hx, hb, hml, hown, ht⟩ (c_T_end l D cI cB t0 t1 t2 f g pp (tr_off Ls pp + (Ls pp).length) hp (hT.1 (pp + 1) (by omega))) (cwV 1 ht (gd_V wd171 wd118 wd119 wd2 wd120) rfl rfl rfl (by decide +kernel) ⟨Nat.le_of_ble_eq_true rfl, Nat.le_of_ble_eq_true rfl⟩) (zz_R_V hN hK (hP.sub (ws' := [(t0, .inr (0, [.ref t1, .ref t2])), (t1, .inl (cI, 400, .inl f)), (t2, .inl (cI, 9, .inl g))]) [1, 2, 3] rfl) 0 0 rfl rfl) rfl rfl hl.1 rfl (lv_room (Nat.le_of_ble_eq_true rfl)) dX_matches_28 ⟨Nat.le_of_ble_eq_true rfl, Nat.le_of_ble_eq_true rfl⟩) ?_
          refine lv_istore (lv' := [(4, .int (nI (tr_off Ls pp + (Ls pp).length))), (0, .ref x0), (1, .int (nI k)), (2, .int (nI (mts Ls (gow (fs k) (fp k) (fo k)) pp))), (3, .int (nI pp))]) hx hb dX_matches_31 hl (by decide) rfl (fun ls hl => ?_)
          refine lv_aload_n hx hb dX_matches_33 rfl (lv_at hl 1 rfl) ?_
          refine va_get (D := D) (ci := 4) (v := .ref t0) (C := "StatRows") (T := TX) (N := 5) hx hb ht inX hown hK hP 0 rfl rfl 0 (by decide) (ht _ wd77) (fun _ h9 => h9) rfl dX_matches_34 ?_
          refine lv_iload_n hx hb dX_matches_37 rfl (lv_at hl 4 rfl) ?_
          refine zz_ci (v := nI (tr_off Ls pp + 0)) (W.runV (As := [.int (nI pp)]) (rest := []) ⟨hx, hb, hml, hown, ht⟩ (c_T_start l D cI cB t0 t1 t2 f g pp (tr_off Ls pp) (by omega) (hT.1 pp (by omega))) (cwV 1 ht (gd_V wd172 wd122 wd123 wd2 wd124) rfl rfl rfl (by decide +kernel) ⟨Nat.le_of_ble_eq_true rfl, Nat.le_of_ble_eq_true rfl⟩) (zz_R_V hN hK (hP.sub (ws' := [(t0, .inr (0, [.ref t1, .ref t2])), (t1, .inl (cI, 400, .inl f)), (t2, .inl (cI, 9, .inl g))]) [1, 2, 3] rfl) 0 0 rfl rfl) rfl rfl hl.1 rfl (lv_room (Nat.le_of_ble_eq_true rfl)) dX_matches_38 ⟨Nat.le_of_ble_eq_true rfl, Nat.le_of_ble_eq_true rfl⟩) ?_
          refine lv_istore (lv' := [(5, .int (nI (tr_off Ls pp + 0))), (4, .int (nI (tr_off Ls pp + (Ls pp).length))), (0, .ref x0), (1, .int (nI k)), (2, .int (nI (mts Ls (gow (fs k) (fp k) (fo k)) pp))), (3, .int (nI pp))]) hx hb dX_matches_41 hl (by decide) rfl (fun ls hl => ?_)
          have lp43 : ∀ (fu : Nat) (i : Nat) (hi : i ≤ (Ls pp).length) (hm : (Ls pp).length - i < fu) (ls : Array Slot) (hl : lv_has ls 6 [(0, .ref x0), (1, .int (nI k)), (2, .int (nI (mts Ls (gow (fs k) (fp k) (fo k)) pp + ((Ls pp).take i).countP ((gow (fs k) (fp k) (fo k)) pp)))), (3, .int (nI pp)), (4, .int (nI (tr_off Ls pp + (Ls pp).length))), (5, .int (nI (tr_off Ls pp + i)))]), W pg l ev (headSpec wX_matches rm_X_matches).room s mt (([.ref x0, .int row] : List Value).toArray) below meth kd s.heap [] 0 0 (MQ below (vp_Si (fun r : Int32 => (¬ (¬ row < 0 ∧ ¬ nI n ≤ row) ∧ r = -1) ∨ ∃ k, k < n ∧ row = nI k ∧ r = nI (mts Ls (gow (fs k) (fp k) (fo k)) 8))) (([.ref x0, .int row] : List Value).toArray) s 0 0 (fun _ => False)) (F0 mt 43 ls []) := by
            intro fu
            induction fu with
            | zero => intro i hi hm; exact absurd hm (Nat.not_lt_zero _)
            | succ fu ih43 =>
              intro i hi hm ls hl
              refine lv_iload hx hb dX_matches_43 (lv_at hl 5 rfl) ?_
              refine lv_iload hx hb dX_matches_45 (lv_at hl 4 rfl) ?_
              refine lv_icmp_ge (tgt := 89) hx hb dX_matches_47 (by decide) (fun c47 => ?_) (fun c47 => ?_)
              · -- taken
                have c47 : tr_off Ls pp + (Ls pp).length ≤ tr_off Ls pp + i := (nI_leI (a := tr_off Ls pp + (Ls pp).length) (b := tr_off Ls pp + i) (by omega) (by omega)).mp c47
                have ez : mts Ls (gow (fs k) (fp k) (fo k)) pp + ((Ls pp).take i).countP ((gow (fs k) (fp k) (fo k)) pp) = mts Ls (gow (fs k) (fp k) (fo k)) (pp + 1) := by rw [tkl _ i (by omega)]; rfl
                rw [ez] at hl
                refine lv_iinc (v := nI (pp + 1)) (lv' := [(3, .int (nI (pp + 1))), (0, .ref x0), (1, .int (nI k)), (2, .int (nI (mts Ls (gow (fs k) (fp k) (fo k)) (pp + 1)))), (4, .int (nI (tr_off Ls pp + (Ls pp).length))), (5, .int (nI (tr_off Ls pp + i)))]) hx hb dX_matches_89 hl (k := 3) rfl (nI_1 pp) (by decide) rfl (fun ls hl => ?_)
                refine lv_goto (tgt := 17) hx hb dX_matches_92 (by decide) ?_
                exact ih17 (pp + 1) (by omega) (by omega) ls (lv_sub hl [1, 2, 3, 0] rfl)
              · -- not taken
                have c47 : ¬ (tr_off Ls pp + (Ls pp).length ≤ tr_off Ls pp + i) := fun h => c47 ((nI_leI (a := tr_off Ls pp + (Ls pp).length) (b := tr_off Ls pp + i) (by omega) (by omega)).mpr h)
                have hci := hT.2.2.2.1 pp hp i (by omega)
                have hgb := btl (pal (fs k) (nI ((Ls pp).getD i 0 / 256)) && pal (fp k) (nI pp) && pal (fo k) (nI ((Ls pp).getD i 0 % 256)))
                refine lv_aload_n hx hb dX_matches_50 rfl (lv_at hl 0 rfl) ?_
                refine va_get (D := D) (ci := 4) (v := .ref p0) (C := "StatRows") (T := TX) (N := 5) hx hb ht inX hown hK hP 0 rfl rfl 1 (by decide) (ht _ wd78) (fun _ h9 => h9) rfl dX_matches_51 ?_
                refine lv_iload_n hx hb dX_matches_54 rfl (lv_at hl 1 rfl) ?_
                refine lv_aload_n hx hb dX_matches_55 rfl (lv_at hl 0 rfl) ?_
                refine va_get (D := D) (ci := 4) (v := .ref t0) (C := "StatRows") (T := TX) (N := 5) hx hb ht inX hown hK hP 0 rfl rfl 0 (by decide) (ht _ wd77) (fun _ h9 => h9) rfl dX_matches_56 ?_
                refine lv_iload hx hb dX_matches_59 (lv_at hl 5 rfl) ?_
                refine zz_ci (v := nI ((Ls pp).getD i 0 / 256)) (W.runV (As := [.int (nI (tr_off Ls pp + i))]) (rest := [.int (nI k), .ref p0]) ⟨hx, hb, hml, hown, ht⟩ (c_T_subjectAt l D cI cB t0 t1 t2 f g (tr_off Ls pp + i) ((Ls pp).getD i 0) (by omega) (hT.2.1 pp hp i (by omega)) (hT.2.2.2.1 pp hp i (by omega))) (cwV 1 ht (gd_V wd173 wd174 wd175 wd2 wd176) rfl rfl rfl (by decide +kernel) ⟨Nat.le_of_ble_eq_true rfl, Nat.le_of_ble_eq_true rfl⟩) (zz_R_V hN hK (hP.sub (ws' := [(t0, .inr (0, [.ref t1, .ref t2])), (t1, .inl (cI, 400, .inl f)), (t2, .inl (cI, 9, .inl g))]) [1, 2, 3] rfl) 0 0 rfl rfl) rfl rfl hl.1 rfl (lv_room (Nat.le_of_ble_eq_true rfl)) dX_matches_61 ⟨Nat.le_of_ble_eq_true rfl, Nat.le_of_ble_eq_true rfl⟩) ?_
                refine lv_iload_n hx hb dX_matches_64 rfl (lv_at hl 3 rfl) ?_
                refine lv_aload_n hx hb dX_matches_65 rfl (lv_at hl 0 rfl) ?_
                refine va_get (D := D) (ci := 4) (v := .ref t0) (C := "StatRows") (T := TX) (N := 5) hx hb ht inX hown hK hP 0 rfl rfl 0 (by decide) (ht _ wd77) (fun _ h9 => h9) rfl dX_matches_66 ?_
                refine lv_iload hx hb dX_matches_69 (lv_at hl 5 rfl) ?_
                refine zz_ci (v := nI ((Ls pp).getD i 0 % 256)) (W.runV (As := [.int (nI (tr_off Ls pp + i))]) (rest := [.int (nI pp), .int (nI ((Ls pp).getD i 0 / 256)), .int (nI k), .ref p0]) ⟨hx, hb, hml, hown, ht⟩ (c_T_objectAt l D cI cB t0 t1 t2 f g (tr_off Ls pp + i) ((Ls pp).getD i 0) (by omega) (hT.2.1 pp hp i (by omega)) (hT.2.2.2.1 pp hp i (by omega))) (cwV 1 ht (gd_V wd198 wd199 wd200 wd2 wd201) rfl rfl rfl (by decide +kernel) ⟨Nat.le_of_ble_eq_true rfl, Nat.le_of_ble_eq_true rfl⟩) (zz_R_V hN hK (hP.sub (ws' := [(t0, .inr (0, [.ref t1, .ref t2])), (t1, .inl (cI, 400, .inl f)), (t2, .inl (cI, 9, .inl g))]) [1, 2, 3] rfl) 0 0 rfl rfl) rfl rfl hl.1 rfl (lv_room (Nat.le_of_ble_eq_true rfl)) dX_matches_71 ⟨Nat.le_of_ble_eq_true rfl, Nat.le_of_ble_eq_true rfl⟩) ?_
                refine zz_ci (v := nI ((pal (fs k) (nI ((Ls pp).getD i 0 / 256)) && pal (fp k) (nI pp) && pal (fo k) (nI ((Ls pp).getD i 0 % 256))).toNat)) (W.runV (As := [.int (nI k), .int (nI ((Ls pp).getD i 0 / 256)), .int (nI pp), .int (nI ((Ls pp).getD i 0 % 256))]) (rest := []) ⟨hx, hb, hml, hown, ht⟩ (c_P_goesWith l D cI cB p0 p1_ p2_ p3_ fs fp fo n hn k (by omega) _ _ _) (cwV 4 ht (gd_V wd324 wd325 wd326 wd3 wd327) rfl rfl rfl (by decide +kernel) ⟨Nat.le_of_ble_eq_true rfl, Nat.le_of_ble_eq_true rfl⟩) (zz_R_V hN hK (hP.sub (ws' := [(p0, .inr (1, [.ref p1_, .ref p2_, .ref p3_, .int (nI n)])), (p1_, .inl (cI, 30, .inl fs)), (p2_, .inl (cI, 30, .inl fp)), (p3_, .inl (cI, 30, .inl fo))]) [4, 5, 6, 7] rfl) 1 0 rfl rfl) rfl rfl hl.1 rfl (lv_room (Nat.le_of_ble_eq_true rfl)) dX_matches_74 ⟨Nat.le_of_ble_eq_true rfl, Nat.le_of_ble_eq_true rfl⟩) ?_
                refine lv_if_eq (tgt := 83) hx hb dX_matches_77 (by decide) (fun c77 => ?_) (fun c77 => ?_)
                · -- taken
                  have c77 : (pal (fs k) (nI ((Ls pp).getD i 0 / 256)) && pal (fp k) (nI pp) && pal (fo k) (nI ((Ls pp).getD i 0 % 256))).toNat = 0 := (nI_eq (a := (pal (fs k) (nI ((Ls pp).getD i 0 / 256)) && pal (fp k) (nI pp) && pal (fo k) (nI ((Ls pp).getD i 0 % 256))).toNat) (b := 0) (by omega) (by omega)).mp c77
                  have ez : mts Ls (gow (fs k) (fp k) (fo k)) pp + ((Ls pp).take i).countP ((gow (fs k) (fp k) (fo k)) pp) = mts Ls (gow (fs k) (fp k) (fo k)) pp + ((Ls pp).take (i + 1)).countP ((gow (fs k) (fp k) (fo k)) pp) := by
                    rw [tk1 _ i 0 (by omega), cp1]
                    have : (gow (fs k) (fp k) (fo k)) pp ((Ls pp).getD i 0) = false := bt0 c77
                    rw [this]; rfl
                  rw [ez] at hl
                  refine lv_iinc (v := nI (tr_off Ls pp + i + 1)) (lv' := [(5, .int (nI (tr_off Ls pp + i + 1))), (0, .ref x0), (1, .int (nI k)), (2, .int (nI (mts Ls (gow (fs k) (fp k) (fo k)) pp + ((Ls pp).take (i + 1)).countP ((gow (fs k) (fp k) (fo k)) pp)))), (3, .int (nI pp)), (4, .int (nI (tr_off Ls pp + (Ls pp).length)))]) hx hb dX_matches_83 hl (k := 5) rfl (nI_1 (tr_off Ls pp + i)) (by decide) rfl (fun ls hl => ?_)
                  refine lv_goto (tgt := 43) hx hb dX_matches_86 (by decide) ?_
                  exact ih43 (i + 1) (by omega) (by omega) ls (lv_sub hl [1, 2, 3, 4, 5, 0] rfl)
                · -- not taken
                  have c77 : ¬ ((pal (fs k) (nI ((Ls pp).getD i 0 / 256)) && pal (fp k) (nI pp) && pal (fo k) (nI ((Ls pp).getD i 0 % 256))).toNat = 0) := fun h => c77 ((nI_eq (a := (pal (fs k) (nI ((Ls pp).getD i 0 / 256)) && pal (fp k) (nI pp) && pal (fo k) (nI ((Ls pp).getD i 0 % 256))).toNat) (b := 0) (by omega) (by omega)).mpr h)
                  refine lv_iinc (v := nI (mts Ls (gow (fs k) (fp k) (fo k)) pp + ((Ls pp).take i).countP ((gow (fs k) (fp k) (fo k)) pp) + 1)) (lv' := [(2, .int (nI (mts Ls (gow (fs k) (fp k) (fo k)) pp + ((Ls pp).take i).countP ((gow (fs k) (fp k) (fo k)) pp) + 1))), (0, .ref x0), (1, .int (nI k)), (3, .int (nI pp)), (4, .int (nI (tr_off Ls pp + (Ls pp).length))), (5, .int (nI (tr_off Ls pp + i)))]) hx hb dX_matches_80 hl (k := 2) rfl (nI_1 (mts Ls (gow (fs k) (fp k) (fo k)) pp + ((Ls pp).take i).countP ((gow (fs k) (fp k) (fo k)) pp))) (by decide) rfl (fun ls hl => ?_)
                  have ez : mts Ls (gow (fs k) (fp k) (fo k)) pp + ((Ls pp).take i).countP ((gow (fs k) (fp k) (fo k)) pp) + 1 = mts Ls (gow (fs k) (fp k) (fo k)) pp + ((Ls pp).take (i + 1)).countP ((gow (fs k) (fp k) (fo k)) pp) := by
                    rw [tk1 _ i 0 (by omega), cp1]
                    have : (gow (fs k) (fp k) (fo k)) pp ((Ls pp).getD i 0) = true := bt1 c77
                    rw [this]; rfl
                  rw [ez] at hl
                  refine lv_iinc (v := nI (tr_off Ls pp + i + 1)) (lv' := [(5, .int (nI (tr_off Ls pp + i + 1))), (2, .int (nI (mts Ls (gow (fs k) (fp k) (fo k)) pp + ((Ls pp).take (i + 1)).countP ((gow (fs k) (fp k) (fo k)) pp)))), (0, .ref x0), (1, .int (nI k)), (3, .int (nI pp)), (4, .int (nI (tr_off Ls pp + (Ls pp).length)))]) hx hb dX_matches_83 hl (k := 5) rfl (nI_1 (tr_off Ls pp + i)) (by decide) rfl (fun ls hl => ?_)
                  refine lv_goto (tgt := 43) hx hb dX_matches_86 (by decide) ?_
                  exact ih43 (i + 1) (by omega) (by omega) ls (lv_sub hl [2, 3, 1, 4, 5, 0] rfl)
          exact lp43 (((Ls pp).length - 0) + 1) 0 (Nat.zero_le _) (Nat.lt_succ_self _) ls (lv_sub hl [2, 3, 4, 5, 1, 0] rfl)
    exact lp17 ((8 - 0) + 1) 0 (Nat.zero_le _) (Nat.lt_succ_self _) ls (lv_sub hl [2, 3, 1, 0] rfl)
  · -- not taken
    have c8 : (decide (¬ row < 0 ∧ ¬ nI n ≤ row)).toNat = 0 := (nI_eq (a := (decide (¬ row < 0 ∧ ¬ nI n ≤ row)).toNat) (b := 0) (by omega) (by omega)).mp c8
    have hno := of_decide_eq_false (bt0 (b := decide (¬ row < 0 ∧ ¬ nI n ≤ row)) (by omega))
    refine lv_iconst (v := (-1)) hx hb dX_matches_11 (by decide) ?_
    exact zz_iretR (v := (-1)) hx hb hr hlocks (Or.inl ⟨hno, rfl⟩) dX_matches_12

abbrev rm_X_version : Room := { frames := 3, cells := 0, slots := 0, locals := 64 }
set_option maxHeartbeats 4000000 in
set_option maxRecDepth 100000 in
theorem c_X_version (l : Launch) (D : va_G) (cI cB : ClassId) (sz : Nat) (x0 t0 t1 t2 p0 v0 g0 ta v1 : Nat) (f g : Nat → Int32) (Ls : Nat → List Nat) (hT : RT Ls f g) (z : Nat → Int32) (k e : Nat) (hke : k ≤ e) (he : e < 1000) : Met l yX_version wX_version rm_X_version (zz_P D vwCl [(cI, .int), (cB, .boolean)] [.ref x0] [(x0, .inr (4, [.ref t0, .ref p0, .ref v0, .ref g0, .ref ta])), (v0, .inr (2, [.ref v1, .int (nI k), .int (nI e)])), (v1, .inl (cI, 320, .inl z)), (t0, .inr (0, [.ref t1, .ref t2])), (t1, .inl (cI, 400, .inl f)), (t2, .inl (cI, 9, .inl g))] sz) (va_Qi (fun (r : Int32) (u : ((Nat → Int32) × Nat)) => (40 ≤ e - k ∧ r = -3 ∧ u = (z, e)) ∨ (e - k < 40 ∧ r = nI e ∧ u.2 = e + 1 ∧ ∀ j, j < 320 → u.1 j = if e % 40 * 8 ≤ j ∧ j < e % 40 * 8 + 8 then nI (Ls (j - e % 40 * 8)).length else z j)) (fun u : ((Nat → Int32) × Nat) => zz_B D vwCl [(cI, .int), (cB, .boolean)] (va_A [(x0, .inr (4, [.ref t0, .ref p0, .ref v0, .ref g0, .ref ta])), (v0, .inr (2, [.ref v1, .int (nI k), .int (nI e)])), (v1, .inl (cI, 320, .inl z)), (t0, .inr (0, [.ref t1, .ref t2])), (t1, .inl (cI, 400, .inl f)), (t2, .inl (cI, 9, .inl g))] sz) [(x0, .inr (4, [.ref t0, .ref p0, .ref v0, .ref g0, .ref ta])), (v0, .inr (2, [.ref v1, .int (nI k), .int (nI u.2)])), (v1, .inl (cI, 320, .inl u.1)), (t0, .inr (0, [.ref t1, .ref t2])), (t1, .inl (cI, 400, .inl f)), (t2, .inl (cI, 9, .inl g))]) (va_A [(x0, .inr (4, [.ref t0, .ref p0, .ref v0, .ref g0, .ref ta])), (v0, .inr (2, [.ref v1, .int (nI k), .int (nI e)])), (v1, .inl (cI, 320, .inl z)), (t0, .inr (0, [.ref t1, .ref t2])), (t1, .inl (cI, 400, .inl f)), (t2, .inl (cI, 9, .inl g))] sz)) 0 0 (va_A [(x0, .inr (4, [.ref t0, .ref p0, .ref v0, .ref g0, .ref ta])), (v0, .inr (2, [.ref v1, .int (nI k), .int (nI e)])), (v1, .inl (cI, 320, .inl z)), (t0, .inr (0, [.ref t1, .ref t2])), (t1, .inl (cI, 400, .inl f)), (t2, .inl (cI, 9, .inl g))] sz) := by
  refine Met.ofW (cc := cX_version) (maxL := 1) (ret := (some .int)) (by decide) rfl ?_
  intro pg ev s mt args below meth kd s₁ B hml hv
  obtain ⟨rfl, hsz, hP, hK, hD0, hN⟩ := hv
  have hx := B.exec
  have hb := B.bytes
  have hr := B.returns
  have ht : ∀ w ∈ W0, w.before _ s = true := fun w h => atoms_spec (ws := wX_version) B.pre w (List.mem_cons_of_mem _ h)
  have hown : s.vm.findClass "StatRows" = some mt.cls := findClass_of_methodNamed B.named
  have hlocks := B.notSynchronized
  subst hsz
  have hD := hD0.self (sz := s.heap.size)
  generalize hAe : va_A [(x0, .inr (4, [.ref t0, .ref p0, .ref v0, .ref g0, .ref ta])), (v0, .inr (2, [.ref v1, .int (nI k), .int (nI e)])), (v1, .inl (cI, 320, .inl z)), (t0, .inr (0, [.ref t1, .ref t2])), (t1, .inl (cI, 400, .inl f)), (t2, .inl (cI, 9, .inl g))] s.heap.size = A at hD ⊢
  have hA : ∀ q : Nat, s.heap.size ≤ q → A q := fun q h => by rw [← hAe]; exact Or.inr h
  have hS : va_S A s.heap s.heap [] := va_S.rf
  have hP : va_P D vwCl [(x0, .inr (4, [.ref t0, .ref p0, .ref v0, .ref g0, .ref ta])), (v0, .inr (2, [.ref v1, .int (nI k), .int (nI e)])), (v1, .inl (cI, 320, .inl z)), (t0, .inr (0, [.ref t1, .ref t2])), (t1, .inl (cI, 400, .inl f)), (t2, .inl (cI, 9, .inl g))] s.heap := hP
  have hl := lv_entry ([.ref x0]) (n := 1) (Nat.le_of_ble_eq_true rfl)
  rw [lg_entry_eq]
  generalize (lg_sl ([.ref x0]) ++ List.replicate (1 - (lg_sl ([.ref x0])).length) Slot.unset).toArray = ls at hl ⊢
  have hl : lv_has ls 1 [(0, .ref x0)] := hl
  refine lv_aload_n hx hb dX_version_0 rfl (lv_at hl 0 rfl) ?_
  refine va_get (D := D) (ci := 4) (v := .ref v0) (C := "StatRows") (T := TX) (N := 5) hx hb ht inX hown hK hP 0 rfl rfl 2 (by decide) (ht _ wd79) (fun _ h9 => h9) rfl dX_version_1 ?_
  refine lv_aload_n hx hb dX_version_4 rfl (lv_at hl 0 rfl) ?_
  refine va_get (D := D) (ci := 4) (v := .ref t0) (C := "StatRows") (T := TX) (N := 5) hx hb ht inX hown hK hP 0 rfl rfl 0 (by decide) (ht _ wd77) (fun _ h9 => h9) rfl dX_version_5 ?_
  refine zz_wi (wc := [(v0, .inr (2, [.ref v1, .int (nI k), .int (nI e)])), (v1, .inl (cI, 320, .inl z)), (t0, .inr (0, [.ref t1, .ref t2])), (t1, .inl (cI, 400, .inl f)), (t2, .inl (cI, 9, .inl g))]) (wr := [(x0, .inr (4, [.ref t0, .ref p0, .ref v0, .ref g0, .ref ta]))]) (va_runV (As := [.ref t0]) (rest := []) ⟨hx, hb, hml, hown, ht⟩ (c_V_finish l D cI cB s.heap.size v0 v1 z k e hke he t0 t1 t2 f g Ls hT) (cwV 1 ht (gd_V wd335 wd336 wd337 wd4 wd338) rfl rfl rfl (by decide +kernel) ⟨Nat.le_of_ble_eq_true rfl, Nat.le_of_ble_eq_true rfl⟩) (zz_P_V hN hK (hP.sub (ws' := [(v0, .inr (2, [.ref v1, .int (nI k), .int (nI e)])), (v1, .inl (cI, 320, .inl z)), (t0, .inr (0, [.ref t1, .ref t2])), (t1, .inl (cI, 400, .inl f)), (t2, .inl (cI, 9, .inl g))]) [1, 2, 3, 4, 5] rfl) (hD.sub (ws' := [(v0, .inr (2, [.ref v1, .int (nI k), .int (nI e)])), (v1, .inl (cI, 320, .inl z)), (t0, .inr (0, [.ref t1, .ref t2])), (t1, .inl (cI, 400, .inl f)), (t2, .inl (cI, 9, .inl g))]) [1, 2, 3, 4, 5] (by decide) rfl) 2 0 rfl rfl) rfl rfl hl.1 rfl (lv_room (Nat.le_of_ble_eq_true rfl)) dX_version_8 ⟨Nat.le_of_ble_eq_true rfl, Nat.le_of_ble_eq_true rfl⟩) hP hD hS hA [1, 2, 3, 4, 5] [0] rfl rfl (by decide) (by decide) (fun r8 u8 H locs hq8 hP hD hS => ?_)
  have hP := hP.sub (ws' := [(x0, .inr (4, [.ref t0, .ref p0, .ref v0, .ref g0, .ref ta])), (v0, .inr (2, [.ref v1, .int (nI k), .int (nI u8.2)])), (v1, .inl (cI, 320, .inl u8.1)), (t0, .inr (0, [.ref t1, .ref t2])), (t1, .inl (cI, 400, .inl f)), (t2, .inl (cI, 9, .inl g))]) [0, 1, 2, 3, 4, 5] rfl
  have hD := hD.sub (ws' := [(x0, .inr (4, [.ref t0, .ref p0, .ref v0, .ref g0, .ref ta])), (v0, .inr (2, [.ref v1, .int (nI k), .int (nI u8.2)])), (v1, .inl (cI, 320, .inl u8.1)), (t0, .inr (0, [.ref t1, .ref t2])), (t1, .inl (cI, 400, .inl f)), (t2, .inl (cI, 9, .inl g))]) [0, 1, 2, 3, 4, 5] (by decide) rfl
  exact zz_iretW (v := r8) (w1 := fun u : ((Nat → Int32) × Nat) => [(x0, .inr (4, [.ref t0, .ref p0, .ref v0, .ref g0, .ref ta])), (v0, .inr (2, [.ref v1, .int (nI k), .int (nI u.2)])), (v1, .inl (cI, 320, .inl u.1)), (t0, .inr (0, [.ref t1, .ref t2])), (t1, .inl (cI, 400, .inl f)), (t2, .inl (cI, 9, .inl g))]) u8 hx hb hr hlocks (hq8) hP hK hD hS dX_version_11

abbrev rm_X_countAt : Room := { frames := 2, cells := 0, slots := 0, locals := 43 }
set_option maxHeartbeats 4000000 in
set_option maxRecDepth 100000 in
theorem c_X_countAt (l : Launch) (D : va_G) (cI cB : ClassId) (x0 t0 t1 t2 p0 v0 g0 ta v1 : Nat) (z : Nat → Int32) (k e : Nat) (hke : k ≤ e) (he : e < 1000) (p1 x : Int32) : Met l yX_countAt wX_countAt rm_X_countAt (zz_R D vwCl [(cI, .int), (cB, .boolean)] [.ref x0, .int p1, .int x] [(x0, .inr (4, [.ref t0, .ref p0, .ref v0, .ref g0, .ref ta])), (v0, .inr (2, [.ref v1, .int (nI k), .int (nI e)])), (v1, .inl (cI, 320, .inl z))]) (vp_Si (fun r : Int32 => (inr_ 8 p1 = false ∧ r = -1) ∨ ∃ pp, pp < 8 ∧ p1 = nI pp ∧ ((¬ (¬ x < 0 ∧ ¬ nI e ≤ x) ∧ r = -1) ∨ ∃ v, v < e ∧ x = nI v ∧ r = if v < k then -2 else z (v % 40 * 8 + pp)))) 0 0 (fun _ => False) := by
  refine Met.ofW (cc := cX_countAt) (maxL := 3) (ret := (some .int)) (by decide) rfl ?_
  intro pg ev s mt args below meth kd s₁ B hml hv
  obtain ⟨rfl, hP, hK, hN⟩ := hv
  have hx := B.exec
  have hb := B.bytes
  have hr := B.returns
  have ht : ∀ w ∈ W0, w.before _ s = true := fun w h => atoms_spec (ws := wX_countAt) B.pre w (List.mem_cons_of_mem _ h)
  have hown : s.vm.findClass "StatRows" = some mt.cls := findClass_of_methodNamed B.named
  have hlocks := B.notSynchronized
  have hl := lv_entry ([.ref x0, .int p1, .int x]) (n := 3) (Nat.le_of_ble_eq_true rfl)
  rw [lg_entry_eq]
  generalize (lg_sl ([.ref x0, .int p1, .int x]) ++ List.replicate (3 - (lg_sl ([.ref x0, .int p1, .int x])).length) Slot.unset).toArray = ls at hl ⊢
  have hl : lv_has ls 3 [(0, .ref x0), (1, .int p1), (2, .int x)] := hl
  have bl0 := btl (inr_ 8 p1)
  refine lv_iload_n hx hb dX_countAt_0 rfl (lv_at hl 1 rfl) ?_
  refine zz_ci (v := nI ((inr_ 8 p1).toNat)) (W.runS (As := [.int p1]) (rest := []) ⟨hx, hb, hml, hown, ht⟩ (c_X_isPredicate l p1) (va_cwS 1 ht (gd_S wd103 wd104 wd1 wd105) rfl rfl rfl (by decide +kernel) ⟨Nat.le_of_ble_eq_true rfl, Nat.le_of_ble_eq_true rfl⟩) zz_N_S rfl rfl hl.1 rfl (lv_room (Nat.le_of_ble_eq_true rfl)) dX_countAt_1 ⟨Nat.le_of_ble_eq_true rfl, Nat.le_of_ble_eq_true rfl⟩) ?_
  refine lv_if_ne (tgt := 9) hx hb dX_countAt_4 (by decide) (fun c4 => ?_) (fun c4 => ?_)
  · -- taken
    have c4 : ¬ ((inr_ 8 p1).toNat = 0) := fun h => c4 ((nI_eq (a := (inr_ 8 p1).toNat) (b := 0) (by omega) (by omega)).mpr h)
    have hb1 := bt1 c4
    obtain ⟨pp, hpp, epp⟩ := inr_t (by decide) hb1
    rw [epp] at hl
    refine lv_aload_n hx hb dX_countAt_9 rfl (lv_at hl 0 rfl) ?_
    refine va_get (D := D) (ci := 4) (v := .ref v0) (C := "StatRows") (T := TX) (N := 5) hx hb ht inX hown hK hP 0 rfl rfl 2 (by decide) (ht _ wd79) (fun _ h9 => h9) rfl dX_countAt_10 ?_
    refine lv_iload_n hx hb dX_countAt_13 rfl (lv_at hl 1 rfl) ?_
    refine lv_iload_n hx hb dX_countAt_14 rfl (lv_at hl 2 rfl) ?_
    refine vp_callSi (W.runV (As := [.int (nI pp), .int x]) (rest := []) ⟨hx, hb, hml, hown, ht⟩ (c_V_sizeAt l D cI cB v0 v1 z k e hke he pp hpp x) (cwV 2 ht (gd_V wd352 wd353 wd354 wd4 wd355) rfl rfl rfl (by decide +kernel) ⟨Nat.le_of_ble_eq_true rfl, Nat.le_of_ble_eq_true rfl⟩) (zz_R_V hN hK (hP.sub (ws' := [(v0, .inr (2, [.ref v1, .int (nI k), .int (nI e)])), (v1, .inl (cI, 320, .inl z))]) [1, 2] rfl) 2 0 rfl rfl) rfl rfl hl.1 rfl (lv_room (Nat.le_of_ble_eq_true rfl)) dX_countAt_15 ⟨Nat.le_of_ble_eq_true rfl, Nat.le_of_ble_eq_true rfl⟩) (fun r15 hr15 => ?_)
    exact zz_iretR (v := r15) hx hb hr hlocks (Or.inr ⟨pp, hpp, epp, hr15⟩) dX_countAt_18
  · -- not taken
    have c4 : (inr_ 8 p1).toNat = 0 := (nI_eq (a := (inr_ 8 p1).toNat) (b := 0) (by omega) (by omega)).mp c4
    have hb1 : inr_ 8 p1 = false := bt0 (by omega)
    refine lv_iconst (v := (-1)) hx hb dX_countAt_7 (by decide) ?_
    exact zz_iretR (v := (-1)) hx hb hr hlocks (Or.inl ⟨hb1, rfl⟩) dX_countAt_8

abbrev rm_X_forget : Room := { frames := 2, cells := 0, slots := 0, locals := 54 }
set_option maxHeartbeats 4000000 in
set_option maxRecDepth 100000 in
theorem c_X_forget (l : Launch) (D : va_G) (cI cB : ClassId) (sz : Nat) (x0 t0 t1 t2 p0 v0 g0 ta v1 : Nat) (z : Nat → Int32) (k e : Nat) (hke : k ≤ e) (he : e < 1000) (x : Int32) : Met l yX_forget wX_forget rm_X_forget (zz_P D vwCl [(cI, .int), (cB, .boolean)] [.ref x0, .int x] [(x0, .inr (4, [.ref t0, .ref p0, .ref v0, .ref g0, .ref ta])), (v0, .inr (2, [.ref v1, .int (nI k), .int (nI e)])), (v1, .inl (cI, 320, .inl z))] sz) (va_Qi (fun (r : Int32) (u : Nat) => (¬ (¬ x < 0 ∧ ¬ nI e ≤ x) ∧ r = -1 ∧ u = k) ∨ ∃ v, v < e ∧ x = nI v ∧ r = nI (v - k) ∧ u = k + (v - k)) (fun u : Nat => zz_B D vwCl [(cI, .int), (cB, .boolean)] (va_A [(x0, .inr (4, [.ref t0, .ref p0, .ref v0, .ref g0, .ref ta])), (v0, .inr (2, [.ref v1, .int (nI k), .int (nI e)])), (v1, .inl (cI, 320, .inl z))] sz) [(x0, .inr (4, [.ref t0, .ref p0, .ref v0, .ref g0, .ref ta])), (v0, .inr (2, [.ref v1, .int (nI u), .int (nI e)])), (v1, .inl (cI, 320, .inl z))]) (va_A [(x0, .inr (4, [.ref t0, .ref p0, .ref v0, .ref g0, .ref ta])), (v0, .inr (2, [.ref v1, .int (nI k), .int (nI e)])), (v1, .inl (cI, 320, .inl z))] sz)) 0 0 (va_A [(x0, .inr (4, [.ref t0, .ref p0, .ref v0, .ref g0, .ref ta])), (v0, .inr (2, [.ref v1, .int (nI k), .int (nI e)])), (v1, .inl (cI, 320, .inl z))] sz) := by
  refine Met.ofW (cc := cX_forget) (maxL := 2) (ret := (some .int)) (by decide) rfl ?_
  intro pg ev s mt args below meth kd s₁ B hml hv
  obtain ⟨rfl, hsz, hP, hK, hD0, hN⟩ := hv
  have hx := B.exec
  have hb := B.bytes
  have hr := B.returns
  have ht : ∀ w ∈ W0, w.before _ s = true := fun w h => atoms_spec (ws := wX_forget) B.pre w (List.mem_cons_of_mem _ h)
  have hown : s.vm.findClass "StatRows" = some mt.cls := findClass_of_methodNamed B.named
  have hlocks := B.notSynchronized
  subst hsz
  have hD := hD0.self (sz := s.heap.size)
  generalize hAe : va_A [(x0, .inr (4, [.ref t0, .ref p0, .ref v0, .ref g0, .ref ta])), (v0, .inr (2, [.ref v1, .int (nI k), .int (nI e)])), (v1, .inl (cI, 320, .inl z))] s.heap.size = A at hD ⊢
  have hA : ∀ q : Nat, s.heap.size ≤ q → A q := fun q h => by rw [← hAe]; exact Or.inr h
  have hS : va_S A s.heap s.heap [] := va_S.rf
  have hP : va_P D vwCl [(x0, .inr (4, [.ref t0, .ref p0, .ref v0, .ref g0, .ref ta])), (v0, .inr (2, [.ref v1, .int (nI k), .int (nI e)])), (v1, .inl (cI, 320, .inl z))] s.heap := hP
  have hl := lv_entry ([.ref x0, .int x]) (n := 2) (Nat.le_of_ble_eq_true rfl)
  rw [lg_entry_eq]
  generalize (lg_sl ([.ref x0, .int x]) ++ List.replicate (2 - (lg_sl ([.ref x0, .int x])).length) Slot.unset).toArray = ls at hl ⊢
  have hl : lv_has ls 2 [(0, .ref x0), (1, .int x)] := hl
  refine lv_aload_n hx hb dX_forget_0 rfl (lv_at hl 0 rfl) ?_
  refine va_get (D := D) (ci := 4) (v := .ref v0) (C := "StatRows") (T := TX) (N := 5) hx hb ht inX hown hK hP 0 rfl rfl 2 (by decide) (ht _ wd79) (fun _ h9 => h9) rfl dX_forget_1 ?_
  refine lv_iload_n hx hb dX_forget_4 rfl (lv_at hl 1 rfl) ?_
  refine zz_wi (wc := [(v0, .inr (2, [.ref v1, .int (nI k), .int (nI e)])), (v1, .inl (cI, 320, .inl z))]) (wr := [(x0, .inr (4, [.ref t0, .ref p0, .ref v0, .ref g0, .ref ta]))]) (va_runV (As := [.int x]) (rest := []) ⟨hx, hb, hml, hown, ht⟩ (c_V_forgetBelow l D cI cB s.heap.size v0 v1 z k e hke he x) (cwV 1 ht (gd_V wd364 wd365 wd366 wd4 wd367) rfl rfl rfl (by decide +kernel) ⟨Nat.le_of_ble_eq_true rfl, Nat.le_of_ble_eq_true rfl⟩) (zz_P_V hN hK (hP.sub (ws' := [(v0, .inr (2, [.ref v1, .int (nI k), .int (nI e)])), (v1, .inl (cI, 320, .inl z))]) [1, 2] rfl) (hD.sub (ws' := [(v0, .inr (2, [.ref v1, .int (nI k), .int (nI e)])), (v1, .inl (cI, 320, .inl z))]) [1, 2] (by decide) rfl) 2 0 rfl rfl) rfl rfl hl.1 rfl (lv_room (Nat.le_of_ble_eq_true rfl)) dX_forget_5 ⟨Nat.le_of_ble_eq_true rfl, Nat.le_of_ble_eq_true rfl⟩) hP hD hS hA [1, 2] [0] rfl rfl (by decide) (by decide) (fun r5 u5 H locs hq5 hP hD hS => ?_)
  have hP := hP.sub (ws' := [(x0, .inr (4, [.ref t0, .ref p0, .ref v0, .ref g0, .ref ta])), (v0, .inr (2, [.ref v1, .int (nI u5), .int (nI e)])), (v1, .inl (cI, 320, .inl z))]) [0, 1, 2] rfl
  have hD := hD.sub (ws' := [(x0, .inr (4, [.ref t0, .ref p0, .ref v0, .ref g0, .ref ta])), (v0, .inr (2, [.ref v1, .int (nI u5), .int (nI e)])), (v1, .inl (cI, 320, .inl z))]) [0, 1, 2] (by decide) rfl
  exact zz_iretW (v := r5) (w1 := fun u : Nat => [(x0, .inr (4, [.ref t0, .ref p0, .ref v0, .ref g0, .ref ta])), (v0, .inr (2, [.ref v1, .int (nI u), .int (nI e)])), (v1, .inl (cI, 320, .inl z))]) u5 hx hb hr hlocks (hq5) hP hK hD hS dX_forget_8

abbrev rm_X_told : Room := { frames := 1, cells := 0, slots := 0, locals := 20 }
set_option maxHeartbeats 4000000 in
set_option maxRecDepth 100000 in
theorem c_X_told (l : Launch) (D : va_G) (cI cB : ClassId) (x0 t0 t1 t2 p0 v0 g0 ta p1_ p2_ p3_ v1 : Nat) (f g : Nat → Int32) (Ls : Nat → List Nat) (hT : RT Ls f g) (fs fp fo : Nat → Int32) (n : Nat) (hn : n ≤ 30) (z : Nat → Int32) (k e : Nat) (hke : k ≤ e) (he : e < 1000) (wh : Int32) : Met l yX_told wX_told rm_X_told (zz_R D vwCl [(cI, .int), (cB, .boolean)] [.ref x0, .int wh] [(x0, .inr (4, [.ref t0, .ref p0, .ref v0, .ref g0, .ref ta])), (t0, .inr (0, [.ref t1, .ref t2])), (t1, .inl (cI, 400, .inl f)), (t2, .inl (cI, 9, .inl g)), (p0, .inr (1, [.ref p1_, .ref p2_, .ref p3_, .int (nI n)])), (p1_, .inl (cI, 30, .inl fs)), (p2_, .inl (cI, 30, .inl fp)), (p3_, .inl (cI, 30, .inl fo)), (v0, .inr (2, [.ref v1, .int (nI k), .int (nI e)])), (v1, .inl (cI, 320, .inl z))]) (vp_Si (fun r : Int32 => (wh = nI 0 ∧ r = nI (tr_off Ls 8)) ∨ (wh = nI 1 ∧ r = nI n) ∨ (wh = nI 2 ∧ r = nI e) ∨ (wh = nI 3 ∧ r = nI (e - k)) ∨ (wh ≠ nI 0 ∧ wh ≠ nI 1 ∧ wh ≠ nI 2 ∧ wh ≠ nI 3 ∧ r = -1))) 0 0 (fun _ => False) := by
  refine Met.ofW (cc := cX_told) (maxL := 2) (ret := (some .int)) (by decide) rfl ?_
  intro pg ev s mt args below meth kd s₁ B hml hv
  obtain ⟨rfl, hP, hK, hN⟩ := hv
  have hx := B.exec
  have hb := B.bytes
  have hr := B.returns
  have ht : ∀ w ∈ W0, w.before _ s = true := fun w h => atoms_spec (ws := wX_told) B.pre w (List.mem_cons_of_mem _ h)
  have hown : s.vm.findClass "StatRows" = some mt.cls := findClass_of_methodNamed B.named
  have hlocks := B.notSynchronized
  have hl := lv_entry ([.ref x0, .int wh]) (n := 2) (Nat.le_of_ble_eq_true rfl)
  rw [lg_entry_eq]
  generalize (lg_sl ([.ref x0, .int wh]) ++ List.replicate (2 - (lg_sl ([.ref x0, .int wh])).length) Slot.unset).toArray = ls at hl ⊢
  have hl : lv_has ls 2 [(0, .ref x0), (1, .int wh)] := hl
  refine lv_iload_n hx hb dX_told_0 rfl (lv_at hl 1 rfl) ?_
  by_cases t1_0 : wh = nI 0
  · refine zz_top t1_0 ?_
    refine lv_tableIn (tgt := 32) hx hb dX_told_1 (by decide) (by decide) (by first | rfl | decide) (by decide) ?_
    refine lv_aload_n hx hb dX_told_32 rfl (lv_at hl 0 rfl) ?_
    refine va_get (D := D) (ci := 4) (v := .ref t0) (C := "StatRows") (T := TX) (N := 5) hx hb ht inX hown hK hP 0 rfl rfl 0 (by decide) (ht _ wd77) (fun _ h9 => h9) rfl dX_told_33 ?_
    refine zz_ci (v := nI (tr_off Ls 8)) (W.runV (As := []) (rest := []) ⟨hx, hb, hml, hown, ht⟩ (c_T_size l D cI cB t0 t1 t2 f g (tr_off Ls 8) (hT.1 8 (by decide))) (cwV 0 ht (gd_V wd373 wd130 wd131 wd2 wd132) rfl rfl rfl (by decide +kernel) ⟨Nat.le_of_ble_eq_true rfl, Nat.le_of_ble_eq_true rfl⟩) (zz_R_V hN hK (hP.sub (ws' := [(t0, .inr (0, [.ref t1, .ref t2])), (t1, .inl (cI, 400, .inl f)), (t2, .inl (cI, 9, .inl g))]) [1, 2, 3] rfl) 0 0 rfl rfl) rfl rfl hl.1 rfl (lv_room (Nat.le_of_ble_eq_true rfl)) dX_told_36 ⟨Nat.le_of_ble_eq_true rfl, Nat.le_of_ble_eq_true rfl⟩) ?_
    exact zz_iretR (v := nI (tr_off Ls 8)) hx hb hr hlocks (Or.inl ⟨t1_0, rfl⟩) dX_told_39
  by_cases t1_1 : wh = nI 1
  · refine zz_top t1_1 ?_
    refine lv_tableIn (tgt := 40) hx hb dX_told_1 (by decide) (by decide) (by first | rfl | decide) (by decide) ?_
    refine lv_aload_n hx hb dX_told_40 rfl (lv_at hl 0 rfl) ?_
    refine va_get (D := D) (ci := 4) (v := .ref p0) (C := "StatRows") (T := TX) (N := 5) hx hb ht inX hown hK hP 0 rfl rfl 1 (by decide) (ht _ wd78) (fun _ h9 => h9) rfl dX_told_41 ?_
    refine zz_ci (v := nI n) (W.runV (As := []) (rest := []) ⟨hx, hb, hml, hown, ht⟩ (c_P_size l D cI cB p0 p1_ p2_ p3_ fs fp fo n hn) (cwV 0 ht (gd_V wd374 wd375 wd376 wd3 wd377) rfl rfl rfl (by decide +kernel) ⟨Nat.le_of_ble_eq_true rfl, Nat.le_of_ble_eq_true rfl⟩) (zz_R_V hN hK (hP.sub (ws' := [(p0, .inr (1, [.ref p1_, .ref p2_, .ref p3_, .int (nI n)])), (p1_, .inl (cI, 30, .inl fs)), (p2_, .inl (cI, 30, .inl fp)), (p3_, .inl (cI, 30, .inl fo))]) [4, 5, 6, 7] rfl) 1 0 rfl rfl) rfl rfl hl.1 rfl (lv_room (Nat.le_of_ble_eq_true rfl)) dX_told_44 ⟨Nat.le_of_ble_eq_true rfl, Nat.le_of_ble_eq_true rfl⟩) ?_
    exact zz_iretR (v := nI n) hx hb hr hlocks (Or.inr (Or.inl ⟨t1_1, rfl⟩)) dX_told_47
  by_cases t1_2 : wh = nI 2
  · refine zz_top t1_2 ?_
    refine lv_tableIn (tgt := 48) hx hb dX_told_1 (by decide) (by decide) (by first | rfl | decide) (by decide) ?_
    refine lv_aload_n hx hb dX_told_48 rfl (lv_at hl 0 rfl) ?_
    refine va_get (D := D) (ci := 4) (v := .ref v0) (C := "StatRows") (T := TX) (N := 5) hx hb ht inX hown hK hP 0 rfl rfl 2 (by decide) (ht _ wd79) (fun _ h9 => h9) rfl dX_told_49 ?_
    refine zz_ci (v := nI e) (W.runV (As := []) (rest := []) ⟨hx, hb, hml, hown, ht⟩ (c_V_ended l D cI cB v0 v1 z k e hke he) (cwV 0 ht (gd_V wd378 wd379 wd380 wd4 wd381) rfl rfl rfl (by decide +kernel) ⟨Nat.le_of_ble_eq_true rfl, Nat.le_of_ble_eq_true rfl⟩) (zz_R_V hN hK (hP.sub (ws' := [(v0, .inr (2, [.ref v1, .int (nI k), .int (nI e)])), (v1, .inl (cI, 320, .inl z))]) [8, 9] rfl) 2 0 rfl rfl) rfl rfl hl.1 rfl (lv_room (Nat.le_of_ble_eq_true rfl)) dX_told_52 ⟨Nat.le_of_ble_eq_true rfl, Nat.le_of_ble_eq_true rfl⟩) ?_
    exact zz_iretR (v := nI e) hx hb hr hlocks (Or.inr (Or.inr (Or.inl ⟨t1_2, rfl⟩))) dX_told_55
  by_cases t1_3 : wh = nI 3
  · refine zz_top t1_3 ?_
    refine lv_tableIn (tgt := 56) hx hb dX_told_1 (by decide) (by decide) (by first | rfl | decide) (by decide) ?_
    refine lv_aload_n hx hb dX_told_56 rfl (lv_at hl 0 rfl) ?_
    refine va_get (D := D) (ci := 4) (v := .ref v0) (C := "StatRows") (T := TX) (N := 5) hx hb ht inX hown hK hP 0 rfl rfl 2 (by decide) (ht _ wd79) (fun _ h9 => h9) rfl dX_told_57 ?_
    refine zz_ci (v := nI (e - k)) (W.runV (As := []) (rest := []) ⟨hx, hb, hml, hown, ht⟩ (c_V_kept l D cI cB v0 v1 z k e hke he) (cwV 0 ht (gd_V wd382 wd340 wd341 wd4 wd342) rfl rfl rfl (by decide +kernel) ⟨Nat.le_of_ble_eq_true rfl, Nat.le_of_ble_eq_true rfl⟩) (zz_R_V hN hK (hP.sub (ws' := [(v0, .inr (2, [.ref v1, .int (nI k), .int (nI e)])), (v1, .inl (cI, 320, .inl z))]) [8, 9] rfl) 2 0 rfl rfl) rfl rfl hl.1 rfl (lv_room (Nat.le_of_ble_eq_true rfl)) dX_told_60 ⟨Nat.le_of_ble_eq_true rfl, Nat.le_of_ble_eq_true rfl⟩) ?_
    exact zz_iretR (v := nI (e - k)) hx hb hr hlocks (Or.inr (Or.inr (Or.inr (Or.inl ⟨t1_3, rfl⟩)))) dX_told_63
  have hout1 : (wh).toInt < 0 ∨ 3 < (wh).toInt := zz_tout 0 3 (by decide) (fun k hk1 hk2 q => by
    rcases (show k = 0 ∨ k = 1 ∨ k = 2 ∨ k = 3 by omega) with rfl | rfl | rfl | rfl
    · exact t1_0 q
    · exact t1_1 q
    · exact t1_2 q
    · exact t1_3 q)
  refine lv_tableOut (tgt := 64) hx hb dX_told_1 hout1 (by decide) ?_
  refine lv_iconst (v := (-1)) hx hb dX_told_64 (by decide) ?_
  exact zz_iretR (v := (-1)) hx hb hr hlocks (Or.inr (Or.inr (Or.inr (Or.inr ⟨t1_0, t1_1, t1_2, t1_3, rfl⟩)))) dX_told_65
