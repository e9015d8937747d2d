abbrev rm_X_hash : Room := { frames := 0, cells := 0, slots := 0, locals := 0 }
set_option maxHeartbeats 4000000 in
set_option maxRecDepth 100000 in
theorem c_X_hash (l : Launch) (x : Int32) : Met l yX_hash wX_hash rm_X_hash (zz_N [.int x]) (vp_Si (fun r : Int32 => r = hsh x)) 0 0 (fun _ => False) := by
  refine Met.ofW (cc := cX_hash) (maxL := 2) (ret := (some .int)) (by decide) rfl ?_
  intro pg ev s mt args below meth kd s₁ B hml hv
  have hv : args = _ := hv
  subst hv
  have hx := B.exec
  have hb := B.bytes
  have hr := B.returns
  have ht : ∀ w ∈ W0, w.before _ s = true := fun w h => atoms_spec (ws := wX_hash) B.pre w (List.mem_cons_of_mem _ h)
  have hown : s.vm.findClass "StatRows" = some mt.cls := findClass_of_methodNamed B.named
  have hlocks := B.notSynchronized
  have hl := lv_entry ([.int x]) (n := 2) (Nat.le_of_ble_eq_true rfl)
  rw [lg_entry_eq]
  generalize (lg_sl ([.int x]) ++ List.replicate (2 - (lg_sl ([.int x])).length) Slot.unset).toArray = ls at hl ⊢
  have hl : lv_has ls 2 [(0, .int x)] := hl
  refine lv_iload_n hx hb dX_hash_0 rfl (lv_at hl 0 rfl) ?_
  refine lv_iconst (v := nI 1) hx hb dX_hash_1 (by decide) ?_
  refine lv_iadd hx hb dX_hash_2 ?_
  refine lv_ldc (v := (-1640531535)) hx hb hown (ht _ wd196) dX_hash_3 ?_
  refine lv_imul hx hb dX_hash_5 ?_
  refine lv_istore_n (lv' := [(1, .int ((x + (nI 1)) * (-1640531535))), (0, .int x)]) hx hb dX_hash_6 rfl hl (by decide) rfl (fun ls hl => ?_)
  refine lv_iload_n hx hb dX_hash_7 rfl (lv_at hl 0 rfl) ?_
  refine lv_iload_n hx hb dX_hash_8 rfl (lv_at hl 0 rfl) ?_
  refine lv_bipush (v := nI 15) hx hb dX_hash_9 (by decide) ?_
  refine lv_iushr (v := (((x + (nI 1)) * (-1640531535)).toUInt32 >>> ((nI 15).toUInt32 &&& Int32.toUInt32 31)).toInt32) hx hb dX_hash_11 (rfl) ?_
  refine lv_ixor hx hb dX_hash_12 ?_
  refine lv_istore_n (lv' := [(1, .int (((x + (nI 1)) * (-1640531535)) ^^^ ((((x + (nI 1)) * (-1640531535)).toUInt32 >>> ((nI 15).toUInt32 &&& Int32.toUInt32 31)).toInt32))), (0, .int x)]) hx hb dX_hash_13 rfl hl (by decide) rfl (fun ls hl => ?_)
  refine lv_iload_n hx hb dX_hash_14 rfl (lv_at hl 0 rfl) ?_
  refine lv_ldc (v := (-2048144777)) hx hb hown (ht _ wd197) dX_hash_15 ?_
  refine lv_imul hx hb dX_hash_17 ?_
  refine lv_istore_n (lv' := [(1, .int ((((x + (nI 1)) * (-1640531535)) ^^^ ((((x + (nI 1)) * (-1640531535)).toUInt32 >>> ((nI 15).toUInt32 &&& Int32.toUInt32 31)).toInt32)) * (-2048144777))), (0, .int x)]) hx hb dX_hash_18 rfl hl (by decide) rfl (fun ls hl => ?_)
  refine lv_iload_n hx hb dX_hash_19 rfl (lv_at hl 0 rfl) ?_
  refine lv_iload_n hx hb dX_hash_20 rfl (lv_at hl 0 rfl) ?_
  refine lv_bipush (v := nI 13) hx hb dX_hash_21 (by decide) ?_
  refine lv_iushr (v := (((((x + (nI 1)) * (-1640531535)) ^^^ ((((x + (nI 1)) * (-1640531535)).toUInt32 >>> ((nI 15).toUInt32 &&& Int32.toUInt32 31)).toInt32)) * (-2048144777)).toUInt32 >>> ((nI 13).toUInt32 &&& Int32.toUInt32 31)).toInt32) hx hb dX_hash_23 (rfl) ?_
  refine lv_ixor hx hb dX_hash_24 ?_
  exact zz_iretR (v := ((((x + (nI 1)) * (-1640531535)) ^^^ ((((x + (nI 1)) * (-1640531535)).toUInt32 >>> ((nI 15).toUInt32 &&& Int32.toUInt32 31)).toInt32)) * (-2048144777)) ^^^ ((((((x + (nI 1)) * (-1640531535)) ^^^ ((((x + (nI 1)) * (-1640531535)).toUInt32 >>> ((nI 15).toUInt32 &&& Int32.toUInt32 31)).toInt32)) * (-2048144777)).toUInt32 >>> ((nI 13).toUInt32 &&& Int32.toUInt32 31)).toInt32)) hx hb hr hlocks (rfl) dX_hash_25

abbrev rm_T_start : Room := { frames := 0, cells := 0, slots := 0, locals := 0 }
set_option maxHeartbeats 4000000 in
set_option maxRecDepth 100000 in
theorem c_T_start (l : Launch) (D : va_G) (cI cB : ClassId) (q0 q1 q2 : Nat) (f g : Nat → Int32) (pp a : Nat) (hp : pp < 9) (ha : g pp = nI a) : Met l yT_start wT_start rm_T_start (zz_R D vwCl [(cI, .int), (cB, .boolean)] [.ref q0, .int (nI pp)] [(q0, .inr (0, [.ref q1, .ref q2])), (q1, .inl (cI, 400, .inl f)), (q2, .inl (cI, 9, .inl g))]) (vp_Si (fun r : Int32 => r = nI a)) 0 0 (fun _ => False) := by
  refine Met.ofW (cc := cT_start) (maxL := 2) (ret := (some .int)) (by decide) rfl ?_
  intro pg ev s mt args below meth kd s₁ B hml hv
  obtain ⟨rfl, hP, hK, hN⟩ := hv
  have hx := B.exec
  have hb := B.bytes
  have hr := B.returns
  have ht : ∀ w ∈ W0, w.before _ s = true := fun w h => atoms_spec (ws := wT_start) B.pre w (List.mem_cons_of_mem _ h)
  have hown : s.vm.findClass "StatRows$TripleRow" = some mt.cls := findClass_of_methodNamed B.named
  have hlocks := B.notSynchronized
  have hl := lv_entry ([.ref q0, .int (nI pp)]) (n := 2) (Nat.le_of_ble_eq_true rfl)
  rw [lg_entry_eq]
  generalize (lg_sl ([.ref q0, .int (nI pp)]) ++ List.replicate (2 - (lg_sl ([.ref q0, .int (nI pp)])).length) Slot.unset).toArray = ls at hl ⊢
  have hl : lv_has ls 2 [(0, .ref q0), (1, .int (nI pp))] := hl
  refine lv_aload_n hx hb dT_start_0 rfl (lv_at hl 0 rfl) ?_
  refine va_get (D := D) (ci := 0) (v := .ref q2) (C := "StatRows$TripleRow") (T := TT) (N := 2) hx hb ht inT hown hK hP 0 rfl rfl 1 (by decide) (ht _ wd25) (fun _ h9 => h9) rfl dT_start_1 ?_
  refine lv_iload_n hx hb dT_start_4 rfl (lv_at hl 1 rfl) ?_
  refine zz_iald (k := pp) hx hb hK hP 2 0 rfl rfl (by omega) (by decide) dT_start_5 ?_
  refine zz_top (y := nI a) (ha) ?_
  exact zz_iretR (v := nI a) hx hb hr hlocks (rfl) dT_start_6

abbrev rm_T_end : Room := { frames := 0, cells := 0, slots := 0, locals := 0 }
set_option maxHeartbeats 4000000 in
set_option maxRecDepth 100000 in
theorem c_T_end (l : Launch) (D : va_G) (cI cB : ClassId) (q0 q1 q2 : Nat) (f g : Nat → Int32) (pp a : Nat) (hp : pp < 8) (ha : g (pp + 1) = nI a) : Met l yT_end wT_end rm_T_end (zz_R D vwCl [(cI, .int), (cB, .boolean)] [.ref q0, .int (nI pp)] [(q0, .inr (0, [.ref q1, .ref q2])), (q1, .inl (cI, 400, .inl f)), (q2, .inl (cI, 9, .inl g))]) (vp_Si (fun r : Int32 => r = nI a)) 0 0 (fun _ => False) := by
  refine Met.ofW (cc := cT_end) (maxL := 2) (ret := (some .int)) (by decide) rfl ?_
  intro pg ev s mt args below meth kd s₁ B hml hv
  obtain ⟨rfl, hP, hK, hN⟩ := hv
  have hx := B.exec
  have hb := B.bytes
  have hr := B.returns
  have ht : ∀ w ∈ W0, w.before _ s = true := fun w h => atoms_spec (ws := wT_end) B.pre w (List.mem_cons_of_mem _ h)
  have hown : s.vm.findClass "StatRows$TripleRow" = some mt.cls := findClass_of_methodNamed B.named
  have hlocks := B.notSynchronized
  have hl := lv_entry ([.ref q0, .int (nI pp)]) (n := 2) (Nat.le_of_ble_eq_true rfl)
  rw [lg_entry_eq]
  generalize (lg_sl ([.ref q0, .int (nI pp)]) ++ List.replicate (2 - (lg_sl ([.ref q0, .int (nI pp)])).length) Slot.unset).toArray = ls at hl ⊢
  have hl : lv_has ls 2 [(0, .ref q0), (1, .int (nI pp))] := hl
  refine lv_aload_n hx hb dT_end_0 rfl (lv_at hl 0 rfl) ?_
  refine va_get (D := D) (ci := 0) (v := .ref q2) (C := "StatRows$TripleRow") (T := TT) (N := 2) hx hb ht inT hown hK hP 0 rfl rfl 1 (by decide) (ht _ wd25) (fun _ h9 => h9) rfl dT_end_1 ?_
  refine lv_iload_n hx hb dT_end_4 rfl (lv_at hl 1 rfl) ?_
  refine lv_iconst (v := nI 1) hx hb dT_end_5 (by decide) ?_
  refine lv_iadd hx hb dT_end_6 ?_
  refine zz_top (y := nI (pp + 1)) (nI_add pp 1) ?_
  refine zz_iald (k := pp + 1) hx hb hK hP 2 0 rfl rfl (by omega) (by decide) dT_end_7 ?_
  refine zz_top (y := nI a) (ha) ?_
  exact zz_iretR (v := nI a) hx hb hr hlocks (rfl) dT_end_8

abbrev rm_T_sizeOf : Room := { frames := 1, cells := 0, slots := 0, locals := 21 }
set_option maxHeartbeats 4000000 in
set_option maxRecDepth 100000 in
theorem c_T_sizeOf (l : Launch) (D : va_G) (cI cB : ClassId) (q0 q1 q2 : Nat) (f g : Nat → Int32) (pp a b : Nat) (hp : pp < 8) (ha : g pp = nI a) (hb2 : g (pp + 1) = nI b) (hab : a ≤ b) : Met l yT_sizeOf wT_sizeOf rm_T_sizeOf (zz_R D vwCl [(cI, .int), (cB, .boolean)] [.ref q0, .int (nI pp)] [(q0, .inr (0, [.ref q1, .ref q2])), (q1, .inl (cI, 400, .inl f)), (q2, .inl (cI, 9, .inl g))]) (vp_Si (fun r : Int32 => r = nI (b - a))) 0 0 (fun _ => False) := by
  refine Met.ofW (cc := cT_sizeOf) (maxL := 2) (ret := (some .int)) (by decide) rfl ?_
  intro pg ev s mt args below meth kd s₁ B hml hv
  obtain ⟨rfl, hP, hK, hN⟩ := hv
  have hx := B.exec
  have hb := B.bytes
  have hr := B.returns
  have ht : ∀ w ∈ W0, w.before _ s = true := fun w h => atoms_spec (ws := wT_sizeOf) B.pre w (List.mem_cons_of_mem _ h)
  have hown : s.vm.findClass "StatRows$TripleRow" = some mt.cls := findClass_of_methodNamed B.named
  have hlocks := B.notSynchronized
  have hl := lv_entry ([.ref q0, .int (nI pp)]) (n := 2) (Nat.le_of_ble_eq_true rfl)
  rw [lg_entry_eq]
  generalize (lg_sl ([.ref q0, .int (nI pp)]) ++ List.replicate (2 - (lg_sl ([.ref q0, .int (nI pp)])).length) Slot.unset).toArray = ls at hl ⊢
  have hl : lv_has ls 2 [(0, .ref q0), (1, .int (nI pp))] := hl
  refine lv_aload_n hx hb dT_sizeOf_0 rfl (lv_at hl 0 rfl) ?_
  refine lv_iload_n hx hb dT_sizeOf_1 rfl (lv_at hl 1 rfl) ?_
  refine zz_ci (v := nI b) (W.runV (As := [.int (nI pp)]) (rest := []) ⟨hx, hb, hml, hown, ht⟩ (c_T_end l D cI cB q0 q1 q2 f g pp b hp hb2) (cwV 1 ht (gd_V wd117 wd118 wd119 wd2 wd120) rfl rfl rfl (by decide +kernel) ⟨Nat.le_of_ble_eq_true rfl, Nat.le_of_ble_eq_true rfl⟩) (zz_R_V hN hK (hP.sub (ws' := [(q0, .inr (0, [.ref q1, .ref q2])), (q1, .inl (cI, 400, .inl f)), (q2, .inl (cI, 9, .inl g))]) [0, 1, 2] rfl) 0 0 rfl rfl) rfl rfl hl.1 rfl (lv_room (Nat.le_of_ble_eq_true rfl)) dT_sizeOf_2 ⟨Nat.le_of_ble_eq_true rfl, Nat.le_of_ble_eq_true rfl⟩) ?_
  refine lv_aload_n hx hb dT_sizeOf_5 rfl (lv_at hl 0 rfl) ?_
  refine lv_iload_n hx hb dT_sizeOf_6 rfl (lv_at hl 1 rfl) ?_
  refine zz_ci (v := nI a) (W.runV (As := [.int (nI pp)]) (rest := [.int (nI b)]) ⟨hx, hb, hml, hown, ht⟩ (c_T_start l D cI cB q0 q1 q2 f g pp a (by omega) ha) (cwV 1 ht (gd_V wd121 wd122 wd123 wd2 wd124) rfl rfl rfl (by decide +kernel) ⟨Nat.le_of_ble_eq_true rfl, Nat.le_of_ble_eq_true rfl⟩) (zz_R_V hN hK (hP.sub (ws' := [(q0, .inr (0, [.ref q1, .ref q2])), (q1, .inl (cI, 400, .inl f)), (q2, .inl (cI, 9, .inl g))]) [0, 1, 2] rfl) 0 0 rfl rfl) rfl rfl hl.1 rfl (lv_room (Nat.le_of_ble_eq_true rfl)) dT_sizeOf_7 ⟨Nat.le_of_ble_eq_true rfl, Nat.le_of_ble_eq_true rfl⟩) ?_
  refine lv_isub hx hb dT_sizeOf_10 ?_
  refine zz_top (y := nI (b - a)) (pk_sub (a := b) (b := a) (by omega)) ?_
  exact zz_iretR (v := nI (b - a)) hx hb hr hlocks (rfl) dT_sizeOf_11

abbrev rm_T_size : Room := { frames := 0, cells := 0, slots := 0, locals := 0 }
set_option maxHeartbeats 4000000 in
set_option maxRecDepth 100000 in
theorem c_T_size (l : Launch) (D : va_G) (cI cB : ClassId) (q0 q1 q2 : Nat) (f g : Nat → Int32) (a : Nat) (ha : g 8 = nI a) : Met l yT_size wT_size rm_T_size (zz_R D vwCl [(cI, .int), (cB, .boolean)] [.ref q0] [(q0, .inr (0, [.ref q1, .ref q2])), (q1, .inl (cI, 400, .inl f)), (q2, .inl (cI, 9, .inl g))]) (vp_Si (fun r : Int32 => r = nI a)) 0 0 (fun _ => False) := by
  refine Met.ofW (cc := cT_size) (maxL := 1) (ret := (some .int)) (by decide) rfl ?_
  intro pg ev s mt args below meth kd s₁ B hml hv
  obtain ⟨rfl, hP, hK, hN⟩ := hv
  have hx := B.exec
  have hb := B.bytes
  have hr := B.returns
  have ht : ∀ w ∈ W0, w.before _ s = true := fun w h => atoms_spec (ws := wT_size) B.pre w (List.mem_cons_of_mem _ h)
  have hown : s.vm.findClass "StatRows$TripleRow" = some mt.cls := findClass_of_methodNamed B.named
  have hlocks := B.notSynchronized
  have hl := lv_entry ([.ref q0]) (n := 1) (Nat.le_of_ble_eq_true rfl)
  rw [lg_entry_eq]
  generalize (lg_sl ([.ref q0]) ++ List.replicate (1 - (lg_sl ([.ref q0])).length) Slot.unset).toArray = ls at hl ⊢
  have hl : lv_has ls 1 [(0, .ref q0)] := hl
  refine lv_aload_n hx hb dT_size_0 rfl (lv_at hl 0 rfl) ?_
  refine va_get (D := D) (ci := 0) (v := .ref q2) (C := "StatRows$TripleRow") (T := TT) (N := 2) hx hb ht inT hown hK hP 0 rfl rfl 1 (by decide) (ht _ wd25) (fun _ h9 => h9) rfl dT_size_1 ?_
  refine lv_bipush (v := nI 8) hx hb dT_size_4 (by decide) ?_
  refine zz_iald (k := 8) hx hb hK hP 2 0 rfl rfl (by omega) (by decide) dT_size_6 ?_
  refine zz_top (y := nI a) (ha) ?_
  exact zz_iretR (v := nI a) hx hb hr hlocks (rfl) dT_size_7

abbrev rm_T_pairAt : Room := { frames := 0, cells := 0, slots := 0, locals := 0 }
set_option maxHeartbeats 4000000 in
set_option maxRecDepth 100000 in
theorem c_T_pairAt (l : Launch) (D : va_G) (cI cB : ClassId) (q0 q1 q2 : Nat) (f g : Nat → Int32) (k a : Nat) (hk : k < 400) (ha : f k = nI a) : Met l yT_pairAt wT_pairAt rm_T_pairAt (zz_R D vwCl [(cI, .int), (cB, .boolean)] [.ref q0, .int (nI k)] [(q0, .inr (0, [.ref q1, .ref q2])), (q1, .inl (cI, 400, .inl f)), (q2, .inl (cI, 9, .inl g))]) (vp_Si (fun r : Int32 => r = nI a)) 0 0 (fun _ => False) := by
  refine Met.ofW (cc := cT_pairAt) (maxL := 2) (ret := (some .int)) (by decide) rfl ?_
  intro pg ev s mt args below meth kd s₁ B hml hv
  obtain ⟨rfl, hP, hK, hN⟩ := hv
  have hx := B.exec
  have hb := B.bytes
  have hr := B.returns
  have ht : ∀ w ∈ W0, w.before _ s = true := fun w h => atoms_spec (ws := wT_pairAt) B.pre w (List.mem_cons_of_mem _ h)
  have hown : s.vm.findClass "StatRows$TripleRow" = some mt.cls := findClass_of_methodNamed B.named
  have hlocks := B.notSynchronized
  have hl := lv_entry ([.ref q0, .int (nI k)]) (n := 2) (Nat.le_of_ble_eq_true rfl)
  rw [lg_entry_eq]
  generalize (lg_sl ([.ref q0, .int (nI k)]) ++ List.replicate (2 - (lg_sl ([.ref q0, .int (nI k)])).length) Slot.unset).toArray = ls at hl ⊢
  have hl : lv_has ls 2 [(0, .ref q0), (1, .int (nI k))] := hl
  refine lv_aload_n hx hb dT_pairAt_0 rfl (lv_at hl 0 rfl) ?_
  refine va_get (D := D) (ci := 0) (v := .ref q1) (C := "StatRows$TripleRow") (T := TT) (N := 2) hx hb ht inT hown hK hP 0 rfl rfl 0 (by decide) (ht _ wd24) (fun _ h9 => h9) rfl dT_pairAt_1 ?_
  refine lv_iload_n hx hb dT_pairAt_4 rfl (lv_at hl 1 rfl) ?_
  refine zz_iald (k := k) hx hb hK hP 1 0 rfl rfl (by omega) (by decide) dT_pairAt_5 ?_
  refine zz_top (y := nI a) (ha) ?_
  exact zz_iretR (v := nI a) hx hb hr hlocks (rfl) dT_pairAt_6

abbrev rm_T_subjectAt : Room := { frames := 0, cells := 0, slots := 0, locals := 0 }
set_option maxHeartbeats 4000000 in
set_option maxRecDepth 100000 in
theorem c_T_subjectAt (l : Launch) (D : va_G) (cI cB : ClassId) (q0 q1 q2 : Nat) (f g : Nat → Int32) (k a : Nat) (hk : k < 400) (ha : f k = nI a) (hlt : a < 65536) : Met l yT_subjectAt wT_subjectAt rm_T_subjectAt (zz_R D vwCl [(cI, .int), (cB, .boolean)] [.ref q0, .int (nI k)] [(q0, .inr (0, [.ref q1, .ref q2])), (q1, .inl (cI, 400, .inl f)), (q2, .inl (cI, 9, .inl g))]) (vp_Si (fun r : Int32 => r = nI (a / 256))) 0 0 (fun _ => False) := by
  refine Met.ofW (cc := cT_subjectAt) (maxL := 2) (ret := (some .int)) (by decide) rfl ?_
  intro pg ev s mt args below meth kd s₁ B hml hv
  obtain ⟨rfl, hP, hK, hN⟩ := hv
  have hx := B.exec
  have hb := B.bytes
  have hr := B.returns
  have ht : ∀ w ∈ W0, w.before _ s = true := fun w h => atoms_spec (ws := wT_subjectAt) B.pre w (List.mem_cons_of_mem _ h)
  have hown : s.vm.findClass "StatRows$TripleRow" = some mt.cls := findClass_of_methodNamed B.named
  have hlocks := B.notSynchronized
  have hl := lv_entry ([.ref q0, .int (nI k)]) (n := 2) (Nat.le_of_ble_eq_true rfl)
  rw [lg_entry_eq]
  generalize (lg_sl ([.ref q0, .int (nI k)]) ++ List.replicate (2 - (lg_sl ([.ref q0, .int (nI k)])).length) Slot.unset).toArray = ls at hl ⊢
  have hl : lv_has ls 2 [(0, .ref q0), (1, .int (nI k))] := hl
  refine lv_aload_n hx hb dT_subjectAt_0 rfl (lv_at hl 0 rfl) ?_
  refine va_get (D := D) (ci := 0) (v := .ref q1) (C := "StatRows$TripleRow") (T := TT) (N := 2) hx hb ht inT hown hK hP 0 rfl rfl 0 (by decide) (ht _ wd24) (fun _ h9 => h9) rfl dT_subjectAt_1 ?_
  refine lv_iload_n hx hb dT_subjectAt_4 rfl (lv_at hl 1 rfl) ?_
  refine zz_iald (k := k) hx hb hK hP 1 0 rfl rfl (by omega) (by decide) dT_subjectAt_5 ?_
  refine zz_top (y := nI a) (ha) ?_
  refine lv_bipush (v := nI 8) hx hb dT_subjectAt_6 (by decide) ?_
  refine lv_ishr hx hb dT_subjectAt_8 ?_
  refine zz_top (y := nI (a / 256)) (pk_shrN (n := a) (by omega) (nI 8 &&& 31) 8 (by decide)) ?_
  refine lv_sipush (v := nI 255) hx hb dT_subjectAt_9 (by decide) ?_
  refine lv_iand hx hb dT_subjectAt_12 ?_
  refine zz_top (y := nI ((a / 256) % 256)) (pk_andN (n := a / 256) (by omega) 8 (by decide)) ?_
  exact zz_iretR (v := nI ((a / 256) % 256)) hx hb hr hlocks (congrArg nI (by omega)) dT_subjectAt_13

abbrev rm_T_objectAt : Room := { frames := 0, cells := 0, slots := 0, locals := 0 }
set_option maxHeartbeats 4000000 in
set_option maxRecDepth 100000 in
theorem c_T_objectAt (l : Launch) (D : va_G) (cI cB : ClassId) (q0 q1 q2 : Nat) (f g : Nat → Int32) (k a : Nat) (hk : k < 400) (ha : f k = nI a) (hlt : a < 65536) : Met l yT_objectAt wT_objectAt rm_T_objectAt (zz_R D vwCl [(cI, .int), (cB, .boolean)] [.ref q0, .int (nI k)] [(q0, .inr (0, [.ref q1, .ref q2])), (q1, .inl (cI, 400, .inl f)), (q2, .inl (cI, 9, .inl g))]) (vp_Si (fun r : Int32 => r = nI (a % 256))) 0 0 (fun _ => False) := by
  refine Met.ofW (cc := cT_objectAt) (maxL := 2) (ret := (some .int)) (by decide) rfl ?_
  intro pg ev s mt args below meth kd s₁ B hml hv
  obtain ⟨rfl, hP, hK, hN⟩ := hv
  have hx := B.exec
  have hb := B.bytes
  have hr := B.returns
  have ht : ∀ w ∈ W0, w.before _ s = true := fun w h => atoms_spec (ws := wT_objectAt) B.pre w (List.mem_cons_of_mem _ h)
  have hown : s.vm.findClass "StatRows$TripleRow" = some mt.cls := findClass_of_methodNamed B.named
  have hlocks := B.notSynchronized
  have hl := lv_entry ([.ref q0, .int (nI k)]) (n := 2) (Nat.le_of_ble_eq_true rfl)
  rw [lg_entry_eq]
  generalize (lg_sl ([.ref q0, .int (nI k)]) ++ List.replicate (2 - (lg_sl ([.ref q0, .int (nI k)])).length) Slot.unset).toArray = ls at hl ⊢
  have hl : lv_has ls 2 [(0, .ref q0), (1, .int (nI k))] := hl
  refine lv_aload_n hx hb dT_objectAt_0 rfl (lv_at hl 0 rfl) ?_
  refine va_get (D := D) (ci := 0) (v := .ref q1) (C := "StatRows$TripleRow") (T := TT) (N := 2) hx hb ht inT hown hK hP 0 rfl rfl 0 (by decide) (ht _ wd24) (fun _ h9 => h9) rfl dT_objectAt_1 ?_
  refine lv_iload_n hx hb dT_objectAt_4 rfl (lv_at hl 1 rfl) ?_
  refine zz_iald (k := k) hx hb hK hP 1 0 rfl rfl (by omega) (by decide) dT_objectAt_5 ?_
  refine zz_top (y := nI a) (ha) ?_
  refine lv_sipush (v := nI 255) hx hb dT_objectAt_6 (by decide) ?_
  refine lv_iand hx hb dT_objectAt_9 ?_
  refine zz_top (y := nI (a % 256)) (pk_andN (n := a) (by omega) 8 (by decide)) ?_
  exact zz_iretR (v := nI (a % 256)) hx hb hr hlocks (rfl) dT_objectAt_10

abbrev rm_T_isSampled : Room := { frames := 1, cells := 0, slots := 0, locals := 21 }
set_option maxHeartbeats 4000000 in
set_option maxRecDepth 100000 in
theorem c_T_isSampled (l : Launch) (D : va_G) (cI cB : ClassId) (q0 q1 q2 : Nat) (f g : Nat → Int32) (k a : Nat) (hk : k < 400) (ha : f k = nI a) : Met l yT_isSampled wT_isSampled rm_T_isSampled (zz_R D vwCl [(cI, .int), (cB, .boolean)] [.ref q0, .int (nI k)] [(q0, .inr (0, [.ref q1, .ref q2])), (q1, .inl (cI, 400, .inl f)), (q2, .inl (cI, 9, .inl g))]) (vp_Si (fun r : Int32 => r = nI (smp a).toNat)) 0 0 (fun _ => False) := by
  refine Met.ofW (cc := cT_isSampled) (maxL := 2) (ret := (some .boolean)) (by decide) rfl ?_
  intro pg ev s mt args below meth kd s₁ B hml hv
  obtain ⟨rfl, hP, hK, hN⟩ := hv
  have hx := B.exec
  have hb := B.bytes
  have hr := B.returns
  have ht : ∀ w ∈ W0, w.before _ s = true := fun w h => atoms_spec (ws := wT_isSampled) B.pre w (List.mem_cons_of_mem _ h)
  have hown : s.vm.findClass "StatRows$TripleRow" = some mt.cls := findClass_of_methodNamed B.named
  have hlocks := B.notSynchronized
  have hl := lv_entry ([.ref q0, .int (nI k)]) (n := 2) (Nat.le_of_ble_eq_true rfl)
  rw [lg_entry_eq]
  generalize (lg_sl ([.ref q0, .int (nI k)]) ++ List.replicate (2 - (lg_sl ([.ref q0, .int (nI k)])).length) Slot.unset).toArray = ls at hl ⊢
  have hl : lv_has ls 2 [(0, .ref q0), (1, .int (nI k))] := hl
  refine lv_aload_n hx hb dT_isSampled_0 rfl (lv_at hl 0 rfl) ?_
  refine va_get (D := D) (ci := 0) (v := .ref q1) (C := "StatRows$TripleRow") (T := TT) (N := 2) hx hb ht inT hown hK hP 0 rfl rfl 0 (by decide) (ht _ wd24) (fun _ h9 => h9) rfl dT_isSampled_1 ?_
  refine lv_iload_n hx hb dT_isSampled_4 rfl (lv_at hl 1 rfl) ?_
  refine zz_iald (k := k) hx hb hK hP 1 0 rfl rfl (by omega) (by decide) dT_isSampled_5 ?_
  refine zz_top (y := nI a) (ha) ?_
  refine zz_ci (v := hsh (nI a)) (zz_run (va_runSN (As := [.int (nI a)]) (rest := []) ⟨hx, hb, hml, hown, ht⟩ (c_X_hash l (nI a)) ⟨va_cnB 1 ht (gd_1 wd195) rfl rfl rfl hN.1 (ht _ wd1) (by decide +kernel) ⟨Nat.le_of_ble_eq_true rfl, Nat.le_of_ble_eq_true rfl⟩, ht _ wd194, trivial⟩ zz_N_S rfl rfl hl.1 rfl (lv_room (Nat.le_of_ble_eq_true rfl)) dT_isSampled_6 ⟨Nat.le_of_ble_eq_true rfl, Nat.le_of_ble_eq_true rfl⟩)) ?_
  refine lv_iconst (v := nI 3) hx hb dT_isSampled_9 (by decide) ?_
  refine lv_iand hx hb dT_isSampled_10 ?_
  refine lv_if_ne (tgt := 18) hx hb dT_isSampled_11 (by decide) (fun c11 => ?_) (fun c11 => ?_)
  · -- taken
    have hs : smp a = false := by unfold smp; simpa using c11
    refine lv_iconst (v := nI 0) hx hb dT_isSampled_18 (by decide) ?_
    exact zz_zretR (v := nI 0) hx hb hr hlocks (by decide) (by rw [hs]; rfl) dT_isSampled_19
  · -- not taken
    have hs : smp a = true := by unfold smp; simpa using c11
    refine lv_iconst (v := nI 1) hx hb dT_isSampled_14 (by decide) ?_
    refine lv_goto (tgt := 19) hx hb dT_isSampled_15 (by decide) ?_
    exact zz_zretR (v := nI 1) hx hb hr hlocks (by decide) (by rw [hs]; rfl) dT_isSampled_19

abbrev rm_T_placeOf : Room := { frames := 1, cells := 0, slots := 0, locals := 21 }
set_option maxHeartbeats 4000000 in
set_option maxRecDepth 100000 in
theorem c_T_placeOf (l : Launch) (D : va_G) (cI cB : ClassId) (q0 q1 q2 : Nat) (f g : Nat → Int32) (pp a n c : Nat) (xs : Nat → Nat) (hp : pp < 8) (ha : g pp = nI a) (hb2 : g (pp + 1) = nI (a + n)) (hn : a + n ≤ 400) (hf : ∀ i, i < n → f (a + i) = nI (xs i)) (hx2 : ∀ i, i < n → xs i < 65536) (hc : c < 65536) (k : Nat) (hk : k ≤ n) (h1 : ∀ j, j < k → xs j < c) (h2 : k < n → c ≤ xs k) : Met l yT_placeOf wT_placeOf rm_T_placeOf (zz_R D vwCl [(cI, .int), (cB, .boolean)] [.ref q0, .int (nI pp), .int (nI c)] [(q0, .inr (0, [.ref q1, .ref q2])), (q1, .inl (cI, 400, .inl f)), (q2, .inl (cI, 9, .inl g))]) (vp_Si (fun r : Int32 => r = nI (a + k))) 0 0 (fun _ => False) := by
  refine Met.ofW (cc := cT_placeOf) (maxL := 5) (ret := (some .int)) (by decide) rfl ?_
  intro pg ev s mt args below meth kd s₁ B hml hv
  obtain ⟨rfl, hP, hK, hN⟩ := hv
  have hx := B.exec
  have hb := B.bytes
  have hr := B.returns
  have ht : ∀ w ∈ W0, w.before _ s = true := fun w h => atoms_spec (ws := wT_placeOf) B.pre w (List.mem_cons_of_mem _ h)
  have hown : s.vm.findClass "StatRows$TripleRow" = some mt.cls := findClass_of_methodNamed B.named
  have hlocks := B.notSynchronized
  have hl := lv_entry ([.ref q0, .int (nI pp), .int (nI c)]) (n := 5) (Nat.le_of_ble_eq_true rfl)
  rw [lg_entry_eq]
  generalize (lg_sl ([.ref q0, .int (nI pp), .int (nI c)]) ++ List.replicate (5 - (lg_sl ([.ref q0, .int (nI pp), .int (nI c)])).length) Slot.unset).toArray = ls at hl ⊢
  have hl : lv_has ls 5 [(0, .ref q0), (1, .int (nI pp)), (2, .int (nI c))] := hl
  refine lv_aload_n hx hb dT_placeOf_0 rfl (lv_at hl 0 rfl) ?_
  refine lv_iload_n hx hb dT_placeOf_1 rfl (lv_at hl 1 rfl) ?_
  refine zz_ci (v := nI (a + n)) (W.runV (As := [.int (nI pp)]) (rest := []) ⟨hx, hb, hml, hown, ht⟩ (c_T_end l D cI cB q0 q1 q2 f g pp (a + n) hp hb2) (cwV 1 ht (gd_V wd117 wd118 wd119 wd2 wd120) rfl rfl rfl (by decide +kernel) ⟨Nat.le_of_ble_eq_true rfl, Nat.le_of_ble_eq_true rfl⟩) (zz_R_V hN hK (hP.sub (ws' := [(q0, .inr (0, [.ref q1, .ref q2])), (q1, .inl (cI, 400, .inl f)), (q2, .inl (cI, 9, .inl g))]) [0, 1, 2] rfl) 0 0 rfl rfl) rfl rfl hl.1 rfl (lv_room (Nat.le_of_ble_eq_true rfl)) dT_placeOf_2 ⟨Nat.le_of_ble_eq_true rfl, Nat.le_of_ble_eq_true rfl⟩) ?_
  refine lv_istore_n (lv' := [(3, .int (nI (a + n))), (0, .ref q0), (1, .int (nI pp)), (2, .int (nI c))]) hx hb dT_placeOf_5 rfl hl (by decide) rfl (fun ls hl => ?_)
  refine lv_aload_n hx hb dT_placeOf_6 rfl (lv_at hl 1 rfl) ?_
  refine lv_iload_n hx hb dT_placeOf_7 rfl (lv_at hl 2 rfl) ?_
  refine zz_ci (v := nI (a + 0)) (W.runV (As := [.int (nI pp)]) (rest := []) ⟨hx, hb, hml, hown, ht⟩ (c_T_start l D cI cB q0 q1 q2 f g pp a (by omega) ha) (cwV 1 ht (gd_V wd121 wd122 wd123 wd2 wd124) rfl rfl rfl (by decide +kernel) ⟨Nat.le_of_ble_eq_true rfl, Nat.le_of_ble_eq_true rfl⟩) (zz_R_V hN hK (hP.sub (ws' := [(q0, .inr (0, [.ref q1, .ref q2])), (q1, .inl (cI, 400, .inl f)), (q2, .inl (cI, 9, .inl g))]) [0, 1, 2] rfl) 0 0 rfl rfl) rfl rfl hl.1 rfl (lv_room (Nat.le_of_ble_eq_true rfl)) dT_placeOf_8 ⟨Nat.le_of_ble_eq_true rfl, Nat.le_of_ble_eq_true rfl⟩) ?_
  refine lv_istore (lv' := [(4, .int (nI (a + 0))), (3, .int (nI (a + n))), (0, .ref q0), (1, .int (nI pp)), (2, .int (nI c))]) hx hb dT_placeOf_11 hl (by decide) rfl (fun ls hl => ?_)
  have lp13 : ∀ (fu : Nat) (i : Nat) (hi : i ≤ k) (hm : n - i < fu) (ls : Array Slot) (hl : lv_has ls 5 [(0, .ref q0), (1, .int (nI pp)), (2, .int (nI c)), (3, .int (nI (a + n))), (4, .int (nI (a + i)))]), W pg l ev (headSpec wT_placeOf rm_T_placeOf).room s mt (([.ref q0, .int (nI pp), .int (nI c)] : List Value).toArray) below meth kd s.heap [] 0 0 (MQ below (vp_Si (fun r : Int32 => r = nI (a + k))) (([.ref q0, .int (nI pp), .int (nI c)] : List Value).toArray) s 0 0 (fun _ => False)) (F0 mt 13 ls []) := by
    intro fu
    induction fu with
    | zero => intro i hi hm; exact absurd hm (Nat.not_lt_zero _)
    | succ fu ih13 =>
      intro i hi hm ls hl
      have hxi := hx2 i
      refine lv_iload hx hb dT_placeOf_13 (lv_at hl 4 rfl) ?_
      refine lv_iload_n hx hb dT_placeOf_15 rfl (lv_at hl 3 rfl) ?_
      refine lv_icmp_ge (tgt := 39) hx hb dT_placeOf_16 (by decide) (fun c16 => ?_) (fun c16 => ?_)
      · -- taken
        have c16 : a + n ≤ a + i := (nI_leI (a := a + n) (b := a + i) (by omega) (by omega)).mp c16
        have e : i = k := by omega
        refine lv_iload_n hx hb dT_placeOf_39 rfl (lv_at hl 3 rfl) ?_
        exact zz_iretR (v := nI (a + n)) hx hb hr hlocks (congrArg nI (by omega)) dT_placeOf_40
      · -- not taken
        have c16 : ¬ (a + n ≤ a + i) := fun h => c16 ((nI_leI (a := a + n) (b := a + i) (by omega) (by omega)).mpr h)
        refine lv_aload_n hx hb dT_placeOf_19 rfl (lv_at hl 0 rfl) ?_
        refine va_get (D := D) (ci := 0) (v := .ref q1) (C := "StatRows$TripleRow") (T := TT) (N := 2) hx hb ht inT hown hK hP 0 rfl rfl 0 (by decide) (ht _ wd24) (fun _ h9 => h9) rfl dT_placeOf_20 ?_
        refine lv_iload hx hb dT_placeOf_23 (lv_at hl 4 rfl) ?_
        refine zz_iald (k := a + i) hx hb hK hP 1 0 rfl rfl (by omega) (by decide) dT_placeOf_25 ?_
        refine zz_top (y := nI (xs i)) (hf i (by omega)) ?_
        refine lv_iload_n hx hb dT_placeOf_26 rfl (lv_at hl 2 rfl) ?_
        refine lv_icmp_lt (tgt := 33) hx hb dT_placeOf_27 (by decide) (fun c27 => ?_) (fun c27 => ?_)
        · -- taken
          have c27 : xs i < c := (nI_ltI (a := xs i) (b := c) (by omega) (by omega)).mp c27
          have e : i < k := by
            rcases Nat.lt_or_ge i k with q | q
            · exact q
            · have : i = k := by omega
              subst this
              exact absurd (h2 (by omega)) (by omega)
          refine lv_iinc (v := nI (a + i + 1)) (lv' := [(4, .int (nI (a + i + 1))), (0, .ref q0), (1, .int (nI pp)), (2, .int (nI c)), (3, .int (nI (a + n)))]) hx hb dT_placeOf_33 hl (k := 4) rfl (nI_1 (a + i)) (by decide) rfl (fun ls hl => ?_)
          refine lv_goto (tgt := 13) hx hb dT_placeOf_36 (by decide) ?_
          exact ih13 (i + 1) (by omega) (by omega) ls (lv_sub hl [1, 2, 3, 4, 0] rfl)
        · -- not taken
          have c27 : ¬ (xs i < c) := fun h => c27 ((nI_ltI (a := xs i) (b := c) (by omega) (by omega)).mpr h)
          have e : i = k := by
            rcases Nat.lt_or_ge i k with q | q
            · exact absurd (h1 i q) c27
            · omega
          refine lv_iload hx hb dT_placeOf_30 (lv_at hl 4 rfl) ?_
          exact zz_iretR (v := nI (a + i)) hx hb hr hlocks (congrArg nI (by omega)) dT_placeOf_32
  exact lp13 ((n - 0) + 1) 0 (Nat.zero_le _) (Nat.lt_succ_self _) ls (lv_sub hl [2, 3, 4, 1, 0] rfl)

abbrev rm_T_isAt : Room := { frames := 1, cells := 0, slots := 0, locals := 21 }
set_option maxHeartbeats 4000000 in
set_option maxRecDepth 100000 in
theorem c_T_isAt (l : Launch) (D : va_G) (cI cB : ClassId) (q0 q1 q2 : Nat) (f g : Nat → Int32) (pp a n c : Nat) (xs : Nat → Nat) (hp : pp < 8) (ha : g pp = nI a) (hb2 : g (pp + 1) = nI (a + n)) (hn : a + n ≤ 400) (hf : ∀ i, i < n → f (a + i) = nI (xs i)) (hx2 : ∀ i, i < n → xs i < 65536) (hc : c < 65536) (k : Nat) (hk : k ≤ n) : Met l yT_isAt wT_isAt rm_T_isAt (zz_R D vwCl [(cI, .int), (cB, .boolean)] [.ref q0, .int (nI (a + k)), .int (nI pp), .int (nI c)] [(q0, .inr (0, [.ref q1, .ref q2])), (q1, .inl (cI, 400, .inl f)), (q2, .inl (cI, 9, .inl g))]) (vp_Si (fun r : Int32 => r = nI (decide (k < n ∧ xs k = c)).toNat)) 0 0 (fun _ => False) := by
  refine Met.ofW (cc := cT_isAt) (maxL := 4) (ret := (some .boolean)) (by decide) rfl ?_
  intro pg ev s mt args below meth kd s₁ B hml hv
  obtain ⟨rfl, hP, hK, hN⟩ := hv
  have hx := B.exec
  have hb := B.bytes
  have hr := B.returns
  have ht : ∀ w ∈ W0, w.before _ s = true := fun w h => atoms_spec (ws := wT_isAt) B.pre w (List.mem_cons_of_mem _ h)
  have hown : s.vm.findClass "StatRows$TripleRow" = some mt.cls := findClass_of_methodNamed B.named
  have hlocks := B.notSynchronized
  have hl := lv_entry ([.ref q0, .int (nI (a + k)), .int (nI pp), .int (nI c)]) (n := 4) (Nat.le_of_ble_eq_true rfl)
  rw [lg_entry_eq]
  generalize (lg_sl ([.ref q0, .int (nI (a + k)), .int (nI pp), .int (nI c)]) ++ List.replicate (4 - (lg_sl ([.ref q0, .int (nI (a + k)), .int (nI pp), .int (nI c)])).length) Slot.unset).toArray = ls at hl ⊢
  have hl : lv_has ls 4 [(0, .ref q0), (1, .int (nI (a + k))), (2, .int (nI pp)), (3, .int (nI c))] := hl
  refine lv_iload_n hx hb dT_isAt_0 rfl (lv_at hl 1 rfl) ?_
  refine lv_aload_n hx hb dT_isAt_1 rfl (lv_at hl 0 rfl) ?_
  refine lv_iload_n hx hb dT_isAt_2 rfl (lv_at hl 2 rfl) ?_
  refine zz_ci (v := nI (a + n)) (W.runV (As := [.int (nI pp)]) (rest := [.int (nI (a + k))]) ⟨hx, hb, hml, hown, ht⟩ (c_T_end l D cI cB q0 q1 q2 f g pp (a + n) hp hb2) (cwV 1 ht (gd_V wd117 wd118 wd119 wd2 wd120) rfl rfl rfl (by decide +kernel) ⟨Nat.le_of_ble_eq_true rfl, Nat.le_of_ble_eq_true rfl⟩) (zz_R_V hN hK (hP.sub (ws' := [(q0, .inr (0, [.ref q1, .ref q2])), (q1, .inl (cI, 400, .inl f)), (q2, .inl (cI, 9, .inl g))]) [0, 1, 2] rfl) 0 0 rfl rfl) rfl rfl hl.1 rfl (lv_room (Nat.le_of_ble_eq_true rfl)) dT_isAt_3 ⟨Nat.le_of_ble_eq_true rfl, Nat.le_of_ble_eq_true rfl⟩) ?_
  refine lv_icmp_ge (tgt := 23) hx hb dT_isAt_6 (by decide) (fun c6 => ?_) (fun c6 => ?_)
  · -- taken
    have c6 : a + n ≤ a + k := (nI_leI (a := a + n) (b := a + k) (by omega) (by omega)).mp c6
    have hs : decide (k < n ∧ xs k = c) = false := decide_eq_false (fun q => by omega)
    refine lv_iconst (v := nI 0) hx hb dT_isAt_23 (by decide) ?_
    exact zz_zretR (v := nI 0) hx hb hr hlocks (by decide) (by rw [hs]; rfl) dT_isAt_24
  · -- not taken
    have c6 : ¬ (a + n ≤ a + k) := fun h => c6 ((nI_leI (a := a + n) (b := a + k) (by omega) (by omega)).mpr h)
    have hxk := hx2 k (by omega)
    refine lv_aload_n hx hb dT_isAt_9 rfl (lv_at hl 0 rfl) ?_
    refine va_get (D := D) (ci := 0) (v := .ref q1) (C := "StatRows$TripleRow") (T := TT) (N := 2) hx hb ht inT hown hK hP 0 rfl rfl 0 (by decide) (ht _ wd24) (fun _ h9 => h9) rfl dT_isAt_10 ?_
    refine lv_iload_n hx hb dT_isAt_13 rfl (lv_at hl 1 rfl) ?_
    refine zz_iald (k := a + k) hx hb hK hP 1 0 rfl rfl (by omega) (by decide) dT_isAt_14 ?_
    refine zz_top (y := nI (xs k)) (hf k (by omega)) ?_
    refine lv_iload_n hx hb dT_isAt_15 rfl (lv_at hl 3 rfl) ?_
    refine lv_icmp_ne (tgt := 23) hx hb dT_isAt_16 (by decide) (fun c16 => ?_) (fun c16 => ?_)
    · -- taken
      have c16 : ¬ (xs k = c) := fun h => c16 ((nI_eq (a := xs k) (b := c) (by omega) (by omega)).mpr h)
      have hs : decide (k < n ∧ xs k = c) = false := decide_eq_false (fun q => c16 q.2)
      refine lv_iconst (v := nI 0) hx hb dT_isAt_23 (by decide) ?_
      exact zz_zretR (v := nI 0) hx hb hr hlocks (by decide) (by rw [hs]; rfl) dT_isAt_24
    · -- not taken
      have c16 : xs k = c := (nI_eq (a := xs k) (b := c) (by omega) (by omega)).mp c16
      have hs : decide (k < n ∧ xs k = c) = true := decide_eq_true ⟨by omega, c16⟩
      refine lv_iconst (v := nI 1) hx hb dT_isAt_19 (by decide) ?_
      refine lv_goto (tgt := 24) hx hb dT_isAt_20 (by decide) ?_
      exact zz_zretR (v := nI 1) hx hb hr hlocks (by decide) (by rw [hs]; rfl) dT_isAt_24
