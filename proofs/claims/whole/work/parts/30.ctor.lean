abbrev rm_T_init : Room := { frames := 1, cells := 2, slots := 409, locals := 32 }
set_option maxHeartbeats 4000000 in
set_option maxRecDepth 100000 in
theorem c_T_init (l : Launch) (D : va_G) (cI cB : ClassId) (sz : Nat) (q0 : Nat) : Met l yT_init wT_init rm_T_init (zz_P D vwCl [(cI, .int), (cB, .boolean)] [.ref q0] [(q0, .inr (0, [.null, .null]))] sz) (va_Qv (fun u : (Nat × Nat) => True) (fun u : (Nat × Nat) => zz_B D vwCl [(cI, .int), (cB, .boolean)] (va_A [(q0, .inr (0, [.null, .null]))] sz) [(q0, .inr (0, [.ref u.1, .ref u.2])), (u.1, .inl (cI, 400, .inl (fun _ => 0))), (u.2, .inl (cI, 9, .inl (fun _ => 0)))]) (va_A [(q0, .inr (0, [.null, .null]))] sz)) 2 409 (va_A [(q0, .inr (0, [.null, .null]))] sz) := by
  refine Met.ofW (cc := cT_init) (maxL := 1) (ret := none) (by decide) rfl ?_
  intro pg ev s mt args below meth kd s₁ B hml hv
  obtain ⟨rfl, hsz, hP, hK, hD0, hN⟩ := hv
  have hx := B.exec
  have hb := B.bytes
  have hr := B.returns
  have ht : ∀ w ∈ W0, w.before _ s = true := fun w h => atoms_spec (ws := wT_init) B.pre w (List.mem_cons_of_mem _ h)
  have hown : s.vm.findClass "StatRows$TripleRow" = some mt.cls := findClass_of_methodNamed B.named
  have hlocks := B.notSynchronized
  have hin : meth.name = "<init>" := (name_of_methodNamed B.named B.method).1
  subst hsz
  have hD := hD0.self (sz := s.heap.size)
  generalize hAe : va_A [(q0, .inr (0, [.null, .null]))] s.heap.size = A at hD ⊢
  have hA : ∀ q : Nat, s.heap.size ≤ q → A q := fun q h => by rw [← hAe]; exact Or.inr h
  have hS : va_S A s.heap s.heap [] := va_S.rf
  have hP : va_P D vwCl [(q0, .inr (0, [.null, .null]))] s.heap := hP
  have hl := lv_entry ([.ref q0]) (n := 1) (Nat.le_of_ble_eq_true rfl)
  rw [lg_entry_eq]
  generalize (lg_sl ([.ref q0]) ++ List.replicate (1 - (lg_sl ([.ref q0])).length) Slot.unset).toArray = ls at hl ⊢
  have hl : lv_has ls 1 [(0, .ref q0)] := hl
  refine lv_aload_n hx hb dT_init_0 rfl (lv_at hl 0 rfl) ?_
  refine W.objInit hx hb hown (ht _ wd23) (ht _ wd16) (ht _ wd17) rfl (by rw [hml]; exact hl.1) rfl dT_init_1 (Nat.le_of_ble_eq_true rfl) (Nat.le_of_ble_eq_true rfl) ?_
  refine W.eq (g2 := F0 mt 4 ls []) rfl ?_
  refine lv_aload_n hx hb dT_init_4 rfl (lv_at hl 0 rfl) ?_
  refine lv_sipush (v := nI 400) hx hb dT_init_5 (by decide) ?_
  refine va_newa (atype := .int) (ty := .int) (N' := 400) (a0 := (400, .inl (fun _ => 0))) hx hb (ht _ wd31) rfl hK hP hD hS hA (fun _ => rfl) (nI_pos (by decide)) (nI_clamp (by decide)) (by decide) (Nat.le_of_ble_eq_true rfl) (Nat.le_of_ble_eq_true rfl) dT_init_8 (fun n8 cA8 H hK8 hP hD hS => ?_)
  rw [zz_cI hK8] at hP hD
  have hP : va_P D vwCl [(q0, .inr (0, [.null, .null])), (n8, .inl (cI, 400, .inl (fun _ => 0)))] H := hP
  have hD : va_D A [(q0, .inr (0, [.null, .null])), (n8, .inl (cI, 400, .inl (fun _ => 0)))] := hD
  refine va_putF (D := D) (ci := 0) (v := .ref n8) (ty := (.array .int)) (C := "StatRows$TripleRow") (T := TT) (N := 2) hx hb ht inT tyT okT nmT hown hK hP hD hS 0 rfl rfl 0 (by decide) (ht _ wd24) (fun _ h9 => h9) rfl hin rfl (by decide +kernel) rfl rfl (Nat.le_of_ble_eq_true rfl) dT_init_10 (fun H locs hP hD hS => ?_)
  have hP : va_P D vwCl [(q0, .inr (0, [.ref n8, .null])), (n8, .inl (cI, 400, .inl (fun _ => 0)))] H := hP
  have hD : va_D A [(q0, .inr (0, [.ref n8, .null])), (n8, .inl (cI, 400, .inl (fun _ => 0)))] := hD
  refine lv_aload_n hx hb dT_init_13 rfl (lv_at hl 0 rfl) ?_
  refine lv_bipush (v := nI 9) hx hb dT_init_14 (by decide) ?_
  refine va_newa (atype := .int) (ty := .int) (N' := 9) (a0 := (9, .inl (fun _ => 0))) hx hb (ht _ wd31) rfl hK hP hD hS hA (fun _ => rfl) (nI_pos (by decide)) (nI_clamp (by decide)) (by decide) (Nat.le_of_ble_eq_true rfl) (Nat.le_of_ble_eq_true rfl) dT_init_16 (fun n16 cA16 H hK16 hP hD hS => ?_)
  rw [zz_cI hK16] at hP hD
  have hP : va_P D vwCl [(q0, .inr (0, [.ref n8, .null])), (n8, .inl (cI, 400, .inl (fun _ => 0))), (n16, .inl (cI, 9, .inl (fun _ => 0)))] H := hP
  have hD : va_D A [(q0, .inr (0, [.ref n8, .null])), (n8, .inl (cI, 400, .inl (fun _ => 0))), (n16, .inl (cI, 9, .inl (fun _ => 0)))] := hD
  refine va_putF (D := D) (ci := 0) (v := .ref n16) (ty := (.array .int)) (C := "StatRows$TripleRow") (T := TT) (N := 2) hx hb ht inT tyT okT nmT hown hK hP hD hS 0 rfl rfl 1 (by decide) (ht _ wd25) (fun _ h9 => h9) rfl hin rfl (by decide +kernel) rfl rfl (Nat.le_of_ble_eq_true rfl) dT_init_18 (fun H locs hP hD hS => ?_)
  have hP : va_P D vwCl [(q0, .inr (0, [.ref n8, .ref n16])), (n8, .inl (cI, 400, .inl (fun _ => 0))), (n16, .inl (cI, 9, .inl (fun _ => 0)))] H := hP
  have hD : va_D A [(q0, .inr (0, [.ref n8, .ref n16])), (n8, .inl (cI, 400, .inl (fun _ => 0))), (n16, .inl (cI, 9, .inl (fun _ => 0)))] := hD
  exact zz_vretW (w1 := fun u : (Nat × Nat) => [(q0, .inr (0, [.ref u.1, .ref u.2])), (u.1, .inl (cI, 400, .inl (fun _ => 0))), (u.2, .inl (cI, 9, .inl (fun _ => 0)))]) (n8, n16) hx hb hr hlocks (trivial) hP hK hD hS dT_init_21

abbrev rm_P_init : Room := { frames := 1, cells := 3, slots := 90, locals := 32 }
set_option maxHeartbeats 4000000 in
set_option maxRecDepth 100000 in
theorem c_P_init (l : Launch) (D : va_G) (cI cB : ClassId) (sz : Nat) (q0 : Nat) : Met l yP_init wP_init rm_P_init (zz_P D vwCl [(cI, .int), (cB, .boolean)] [.ref q0] [(q0, .inr (1, [.null, .null, .null, .int 0]))] sz) (va_Qv (fun u : (Nat × Nat × Nat) => True) (fun u : (Nat × Nat × Nat) => zz_B D vwCl [(cI, .int), (cB, .boolean)] (va_A [(q0, .inr (1, [.null, .null, .null, .int 0]))] sz) [(q0, .inr (1, [.ref u.1, .ref u.2.1, .ref u.2.2, .int (nI 0)])), (u.1, .inl (cI, 30, .inl (fun _ => 0))), (u.2.1, .inl (cI, 30, .inl (fun _ => 0))), (u.2.2, .inl (cI, 30, .inl (fun _ => 0)))]) (va_A [(q0, .inr (1, [.null, .null, .null, .int 0]))] sz)) 3 90 (va_A [(q0, .inr (1, [.null, .null, .null, .int 0]))] sz) := by
  refine Met.ofW (cc := cP_init) (maxL := 1) (ret := none) (by decide) rfl ?_
  intro pg ev s mt args below meth kd s₁ B hml hv
  obtain ⟨rfl, hsz, hP, hK, hD0, hN⟩ := hv
  have hx := B.exec
  have hb := B.bytes
  have hr := B.returns
  have ht : ∀ w ∈ W0, w.before _ s = true := fun w h => atoms_spec (ws := wP_init) B.pre w (List.mem_cons_of_mem _ h)
  have hown : s.vm.findClass "StatRows$PatternRow" = some mt.cls := findClass_of_methodNamed B.named
  have hlocks := B.notSynchronized
  have hin : meth.name = "<init>" := (name_of_methodNamed B.named B.method).1
  subst hsz
  have hD := hD0.self (sz := s.heap.size)
  generalize hAe : va_A [(q0, .inr (1, [.null, .null, .null, .int 0]))] s.heap.size = A at hD ⊢
  have hA : ∀ q : Nat, s.heap.size ≤ q → A q := fun q h => by rw [← hAe]; exact Or.inr h
  have hS : va_S A s.heap s.heap [] := va_S.rf
  have hP : va_P D vwCl [(q0, .inr (1, [.null, .null, .null, .int 0]))] s.heap := hP
  have hl := lv_entry ([.ref q0]) (n := 1) (Nat.le_of_ble_eq_true rfl)
  rw [lg_entry_eq]
  generalize (lg_sl ([.ref q0]) ++ List.replicate (1 - (lg_sl ([.ref q0])).length) Slot.unset).toArray = ls at hl ⊢
  have hl : lv_has ls 1 [(0, .ref q0)] := hl
  refine lv_aload_n hx hb dP_init_0 rfl (lv_at hl 0 rfl) ?_
  refine W.objInit hx hb hown (ht _ wd37) (ht _ wd16) (ht _ wd17) rfl (by rw [hml]; exact hl.1) rfl dP_init_1 (Nat.le_of_ble_eq_true rfl) (Nat.le_of_ble_eq_true rfl) ?_
  refine W.eq (g2 := F0 mt 4 ls []) rfl ?_
  refine lv_aload_n hx hb dP_init_4 rfl (lv_at hl 0 rfl) ?_
  refine lv_bipush (v := nI 30) hx hb dP_init_5 (by decide) ?_
  refine va_newa (atype := .int) (ty := .int) (N' := 30) (a0 := (30, .inl (fun _ => 0))) hx hb (ht _ wd31) rfl hK hP hD hS hA (fun _ => rfl) (nI_pos (by decide)) (nI_clamp (by decide)) (by decide) (Nat.le_of_ble_eq_true rfl) (Nat.le_of_ble_eq_true rfl) dP_init_7 (fun n7 cA7 H hK7 hP hD hS => ?_)
  rw [zz_cI hK7] at hP hD
  have hP : va_P D vwCl [(q0, .inr (1, [.null, .null, .null, .int 0])), (n7, .inl (cI, 30, .inl (fun _ => 0)))] H := hP
  have hD : va_D A [(q0, .inr (1, [.null, .null, .null, .int 0])), (n7, .inl (cI, 30, .inl (fun _ => 0)))] := hD
  refine va_putF (D := D) (ci := 1) (v := .ref n7) (ty := (.array .int)) (C := "StatRows$PatternRow") (T := TP) (N := 4) hx hb ht inP tyP okP nmP hown hK hP hD hS 0 rfl rfl 0 (by decide) (ht _ wd38) (fun _ h9 => h9) rfl hin rfl (by decide +kernel) rfl rfl (Nat.le_of_ble_eq_true rfl) dP_init_9 (fun H locs hP hD hS => ?_)
  have hP : va_P D vwCl [(q0, .inr (1, [.ref n7, .null, .null, .int 0])), (n7, .inl (cI, 30, .inl (fun _ => 0)))] H := hP
  have hD : va_D A [(q0, .inr (1, [.ref n7, .null, .null, .int 0])), (n7, .inl (cI, 30, .inl (fun _ => 0)))] := hD
  refine lv_aload_n hx hb dP_init_12 rfl (lv_at hl 0 rfl) ?_
  refine lv_bipush (v := nI 30) hx hb dP_init_13 (by decide) ?_
  refine va_newa (atype := .int) (ty := .int) (N' := 30) (a0 := (30, .inl (fun _ => 0))) hx hb (ht _ wd31) rfl hK hP hD hS hA (fun _ => rfl) (nI_pos (by decide)) (nI_clamp (by decide)) (by decide) (Nat.le_of_ble_eq_true rfl) (Nat.le_of_ble_eq_true rfl) dP_init_15 (fun n15 cA15 H hK15 hP hD hS => ?_)
  rw [zz_cI hK15] at hP hD
  have hP : va_P D vwCl [(q0, .inr (1, [.ref n7, .null, .null, .int 0])), (n7, .inl (cI, 30, .inl (fun _ => 0))), (n15, .inl (cI, 30, .inl (fun _ => 0)))] H := hP
  have hD : va_D A [(q0, .inr (1, [.ref n7, .null, .null, .int 0])), (n7, .inl (cI, 30, .inl (fun _ => 0))), (n15, .inl (cI, 30, .inl (fun _ => 0)))] := hD
  refine va_putF (D := D) (ci := 1) (v := .ref n15) (ty := (.array .int)) (C := "StatRows$PatternRow") (T := TP) (N := 4) hx hb ht inP tyP okP nmP hown hK hP hD hS 0 rfl rfl 1 (by decide) (ht _ wd39) (fun _ h9 => h9) rfl hin rfl (by decide +kernel) rfl rfl (Nat.le_of_ble_eq_true rfl) dP_init_17 (fun H locs hP hD hS => ?_)
  have hP : va_P D vwCl [(q0, .inr (1, [.ref n7, .ref n15, .null, .int 0])), (n7, .inl (cI, 30, .inl (fun _ => 0))), (n15, .inl (cI, 30, .inl (fun _ => 0)))] H := hP
  have hD : va_D A [(q0, .inr (1, [.ref n7, .ref n15, .null, .int 0])), (n7, .inl (cI, 30, .inl (fun _ => 0))), (n15, .inl (cI, 30, .inl (fun _ => 0)))] := hD
  refine lv_aload_n hx hb dP_init_20 rfl (lv_at hl 0 rfl) ?_
  refine lv_bipush (v := nI 30) hx hb dP_init_21 (by decide) ?_
  refine va_newa (atype := .int) (ty := .int) (N' := 30) (a0 := (30, .inl (fun _ => 0))) hx hb (ht _ wd31) rfl hK hP hD hS hA (fun _ => rfl) (nI_pos (by decide)) (nI_clamp (by decide)) (by decide) (Nat.le_of_ble_eq_true rfl) (Nat.le_of_ble_eq_true rfl) dP_init_23 (fun n23 cA23 H hK23 hP hD hS => ?_)
  rw [zz_cI hK23] at hP hD
  have hP : va_P D vwCl [(q0, .inr (1, [.ref n7, .ref n15, .null, .int 0])), (n7, .inl (cI, 30, .inl (fun _ => 0))), (n15, .inl (cI, 30, .inl (fun _ => 0))), (n23, .inl (cI, 30, .inl (fun _ => 0)))] H := hP
  have hD : va_D A [(q0, .inr (1, [.ref n7, .ref n15, .null, .int 0])), (n7, .inl (cI, 30, .inl (fun _ => 0))), (n15, .inl (cI, 30, .inl (fun _ => 0))), (n23, .inl (cI, 30, .inl (fun _ => 0)))] := hD
  refine va_putF (D := D) (ci := 1) (v := .ref n23) (ty := (.array .int)) (C := "StatRows$PatternRow") (T := TP) (N := 4) hx hb ht inP tyP okP nmP hown hK hP hD hS 0 rfl rfl 2 (by decide) (ht _ wd40) (fun _ h9 => h9) rfl hin rfl (by decide +kernel) rfl rfl (Nat.le_of_ble_eq_true rfl) dP_init_25 (fun H locs hP hD hS => ?_)
  have hP : va_P D vwCl [(q0, .inr (1, [.ref n7, .ref n15, .ref n23, .int 0])), (n7, .inl (cI, 30, .inl (fun _ => 0))), (n15, .inl (cI, 30, .inl (fun _ => 0))), (n23, .inl (cI, 30, .inl (fun _ => 0)))] H := hP
  have hD : va_D A [(q0, .inr (1, [.ref n7, .ref n15, .ref n23, .int 0])), (n7, .inl (cI, 30, .inl (fun _ => 0))), (n15, .inl (cI, 30, .inl (fun _ => 0))), (n23, .inl (cI, 30, .inl (fun _ => 0)))] := hD
  refine lv_aload_n hx hb dP_init_28 rfl (lv_at hl 0 rfl) ?_
  refine lv_iconst (v := nI 0) hx hb dP_init_29 (by decide) ?_
  refine va_put (D := D) (ci := 1) (v := .int (nI 0)) (ty := .int) (C := "StatRows$PatternRow") (T := TP) (N := 4) hx hb ht inP tyP okP nmP hown hK hP hD hS 0 rfl rfl 3 (by decide) (ht _ wd41) (fun _ h9 => h9) rfl (by decide +kernel) rfl rfl (Nat.le_of_ble_eq_true rfl) dP_init_30 (fun H locs hP hD hS => ?_)
  have hP : va_P D vwCl [(q0, .inr (1, [.ref n7, .ref n15, .ref n23, .int (nI 0)])), (n7, .inl (cI, 30, .inl (fun _ => 0))), (n15, .inl (cI, 30, .inl (fun _ => 0))), (n23, .inl (cI, 30, .inl (fun _ => 0)))] H := hP
  have hD : va_D A [(q0, .inr (1, [.ref n7, .ref n15, .ref n23, .int (nI 0)])), (n7, .inl (cI, 30, .inl (fun _ => 0))), (n15, .inl (cI, 30, .inl (fun _ => 0))), (n23, .inl (cI, 30, .inl (fun _ => 0)))] := hD
  exact zz_vretW (w1 := fun u : (Nat × Nat × Nat) => [(q0, .inr (1, [.ref u.1, .ref u.2.1, .ref u.2.2, .int (nI 0)])), (u.1, .inl (cI, 30, .inl (fun _ => 0))), (u.2.1, .inl (cI, 30, .inl (fun _ => 0))), (u.2.2, .inl (cI, 30, .inl (fun _ => 0)))]) (n7, n15, n23) hx hb hr hlocks (trivial) hP hK hD hS dP_init_33

abbrev rm_V_init : Room := { frames := 1, cells := 1, slots := 320, locals := 32 }
set_option maxHeartbeats 4000000 in
set_option maxRecDepth 100000 in
theorem c_V_init (l : Launch) (D : va_G) (cI cB : ClassId) (sz : Nat) (q0 : Nat) : Met l yV_init wV_init rm_V_init (zz_P D vwCl [(cI, .int), (cB, .boolean)] [.ref q0] [(q0, .inr (2, [.null, .int 0, .int 0]))] sz) (va_Qv (fun u : Nat => True) (fun u : Nat => zz_B D vwCl [(cI, .int), (cB, .boolean)] (va_A [(q0, .inr (2, [.null, .int 0, .int 0]))] sz) [(q0, .inr (2, [.ref u, .int (nI 0), .int (nI 0)])), (u, .inl (cI, 320, .inl (fun _ => 0)))]) (va_A [(q0, .inr (2, [.null, .int 0, .int 0]))] sz)) 1 320 (va_A [(q0, .inr (2, [.null, .int 0, .int 0]))] sz) := by
  refine Met.ofW (cc := cV_init) (maxL := 1) (ret := none) (by decide) rfl ?_
  intro pg ev s mt args below meth kd s₁ B hml hv
  obtain ⟨rfl, hsz, hP, hK, hD0, hN⟩ := hv
  have hx := B.exec
  have hb := B.bytes
  have hr := B.returns
  have ht : ∀ w ∈ W0, w.before _ s = true := fun w h => atoms_spec (ws := wV_init) B.pre w (List.mem_cons_of_mem _ h)
  have hown : s.vm.findClass "StatRows$VersionRow" = some mt.cls := findClass_of_methodNamed B.named
  have hlocks := B.notSynchronized
  have hin : meth.name = "<init>" := (name_of_methodNamed B.named B.method).1
  subst hsz
  have hD := hD0.self (sz := s.heap.size)
  generalize hAe : va_A [(q0, .inr (2, [.null, .int 0, .int 0]))] s.heap.size = A at hD ⊢
  have hA : ∀ q : Nat, s.heap.size ≤ q → A q := fun q h => by rw [← hAe]; exact Or.inr h
  have hS : va_S A s.heap s.heap [] := va_S.rf
  have hP : va_P D vwCl [(q0, .inr (2, [.null, .int 0, .int 0]))] s.heap := hP
  have hl := lv_entry ([.ref q0]) (n := 1) (Nat.le_of_ble_eq_true rfl)
  rw [lg_entry_eq]
  generalize (lg_sl ([.ref q0]) ++ List.replicate (1 - (lg_sl ([.ref q0])).length) Slot.unset).toArray = ls at hl ⊢
  have hl : lv_has ls 1 [(0, .ref q0)] := hl
  refine lv_aload_n hx hb dV_init_0 rfl (lv_at hl 0 rfl) ?_
  refine W.objInit hx hb hown (ht _ wd56) (ht _ wd16) (ht _ wd17) rfl (by rw [hml]; exact hl.1) rfl dV_init_1 (Nat.le_of_ble_eq_true rfl) (Nat.le_of_ble_eq_true rfl) ?_
  refine W.eq (g2 := F0 mt 4 ls []) rfl ?_
  refine lv_aload_n hx hb dV_init_4 rfl (lv_at hl 0 rfl) ?_
  refine lv_sipush (v := nI 320) hx hb dV_init_5 (by decide) ?_
  refine va_newa (atype := .int) (ty := .int) (N' := 320) (a0 := (320, .inl (fun _ => 0))) hx hb (ht _ wd31) rfl hK hP hD hS hA (fun _ => rfl) (nI_pos (by decide)) (nI_clamp (by decide)) (by decide) (Nat.le_of_ble_eq_true rfl) (Nat.le_of_ble_eq_true rfl) dV_init_8 (fun n8 cA8 H hK8 hP hD hS => ?_)
  rw [zz_cI hK8] at hP hD
  have hP : va_P D vwCl [(q0, .inr (2, [.null, .int 0, .int 0])), (n8, .inl (cI, 320, .inl (fun _ => 0)))] H := hP
  have hD : va_D A [(q0, .inr (2, [.null, .int 0, .int 0])), (n8, .inl (cI, 320, .inl (fun _ => 0)))] := hD
  refine va_putF (D := D) (ci := 2) (v := .ref n8) (ty := (.array .int)) (C := "StatRows$VersionRow") (T := TV) (N := 3) hx hb ht inV tyV okV nmV hown hK hP hD hS 0 rfl rfl 0 (by decide) (ht _ wd57) (fun _ h9 => h9) rfl hin rfl (by decide +kernel) rfl rfl (Nat.le_of_ble_eq_true rfl) dV_init_10 (fun H locs hP hD hS => ?_)
  have hP : va_P D vwCl [(q0, .inr (2, [.ref n8, .int 0, .int 0])), (n8, .inl (cI, 320, .inl (fun _ => 0)))] H := hP
  have hD : va_D A [(q0, .inr (2, [.ref n8, .int 0, .int 0])), (n8, .inl (cI, 320, .inl (fun _ => 0)))] := hD
  refine lv_aload_n hx hb dV_init_13 rfl (lv_at hl 0 rfl) ?_
  refine lv_iconst (v := nI 0) hx hb dV_init_14 (by decide) ?_
  refine va_put (D := D) (ci := 2) (v := .int (nI 0)) (ty := .int) (C := "StatRows$VersionRow") (T := TV) (N := 3) hx hb ht inV tyV okV nmV hown hK hP hD hS 0 rfl rfl 1 (by decide) (ht _ wd58) (fun _ h9 => h9) rfl (by decide +kernel) rfl rfl (Nat.le_of_ble_eq_true rfl) dV_init_15 (fun H locs hP hD hS => ?_)
  have hP : va_P D vwCl [(q0, .inr (2, [.ref n8, .int (nI 0), .int 0])), (n8, .inl (cI, 320, .inl (fun _ => 0)))] H := hP
  have hD : va_D A [(q0, .inr (2, [.ref n8, .int (nI 0), .int 0])), (n8, .inl (cI, 320, .inl (fun _ => 0)))] := hD
  refine lv_aload_n hx hb dV_init_18 rfl (lv_at hl 0 rfl) ?_
  refine lv_iconst (v := nI 0) hx hb dV_init_19 (by decide) ?_
  refine va_put (D := D) (ci := 2) (v := .int (nI 0)) (ty := .int) (C := "StatRows$VersionRow") (T := TV) (N := 3) hx hb ht inV tyV okV nmV hown hK hP hD hS 0 rfl rfl 2 (by decide) (ht _ wd59) (fun _ h9 => h9) rfl (by decide +kernel) rfl rfl (Nat.le_of_ble_eq_true rfl) dV_init_20 (fun H locs hP hD hS => ?_)
  have hP : va_P D vwCl [(q0, .inr (2, [.ref n8, .int (nI 0), .int (nI 0)])), (n8, .inl (cI, 320, .inl (fun _ => 0)))] H := hP
  have hD : va_D A [(q0, .inr (2, [.ref n8, .int (nI 0), .int (nI 0)])), (n8, .inl (cI, 320, .inl (fun _ => 0)))] := hD
  exact zz_vretW (w1 := fun u : Nat => [(q0, .inr (2, [.ref u, .int (nI 0), .int (nI 0)])), (u, .inl (cI, 320, .inl (fun _ => 0)))]) n8 hx hb hr hlocks (trivial) hP hK hD hS dV_init_23

abbrev rm_G_init : Room := { frames := 1, cells := 1, slots := 16, locals := 32 }
set_option maxHeartbeats 4000000 in
set_option maxRecDepth 100000 in
theorem c_G_init (l : Launch) (D : va_G) (cI cB : ClassId) (sz : Nat) (q0 : Nat) : Met l yG_init wG_init rm_G_init (zz_P D vwCl [(cI, .int), (cB, .boolean)] [.ref q0] [(q0, .inr (3, [.null]))] sz) (va_Qv (fun u : Nat => True) (fun u : Nat => zz_B D vwCl [(cI, .int), (cB, .boolean)] (va_A [(q0, .inr (3, [.null]))] sz) [(q0, .inr (3, [.ref u])), (u, .inl (cI, 16, .inl (fun _ => 0)))]) (va_A [(q0, .inr (3, [.null]))] sz)) 1 16 (va_A [(q0, .inr (3, [.null]))] sz) := by
  refine Met.ofW (cc := cG_init) (maxL := 1) (ret := none) (by decide) rfl ?_
  intro pg ev s mt args below meth kd s₁ B hml hv
  obtain ⟨rfl, hsz, hP, hK, hD0, hN⟩ := hv
  have hx := B.exec
  have hb := B.bytes
  have hr := B.returns
  have ht : ∀ w ∈ W0, w.before _ s = true := fun w h => atoms_spec (ws := wG_init) B.pre w (List.mem_cons_of_mem _ h)
  have hown : s.vm.findClass "StatRows$RegisterRow" = some mt.cls := findClass_of_methodNamed B.named
  have hlocks := B.notSynchronized
  have hin : meth.name = "<init>" := (name_of_methodNamed B.named B.method).1
  subst hsz
  have hD := hD0.self (sz := s.heap.size)
  generalize hAe : va_A [(q0, .inr (3, [.null]))] s.heap.size = A at hD ⊢
  have hA : ∀ q : Nat, s.heap.size ≤ q → A q := fun q h => by rw [← hAe]; exact Or.inr h
  have hS : va_S A s.heap s.heap [] := va_S.rf
  have hP : va_P D vwCl [(q0, .inr (3, [.null]))] s.heap := hP
  have hl := lv_entry ([.ref q0]) (n := 1) (Nat.le_of_ble_eq_true rfl)
  rw [lg_entry_eq]
  generalize (lg_sl ([.ref q0]) ++ List.replicate (1 - (lg_sl ([.ref q0])).length) Slot.unset).toArray = ls at hl ⊢
  have hl : lv_has ls 1 [(0, .ref q0)] := hl
  refine lv_aload_n hx hb dG_init_0 rfl (lv_at hl 0 rfl) ?_
  refine W.objInit hx hb hown (ht _ wd72) (ht _ wd16) (ht _ wd17) rfl (by rw [hml]; exact hl.1) rfl dG_init_1 (Nat.le_of_ble_eq_true rfl) (Nat.le_of_ble_eq_true rfl) ?_
  refine W.eq (g2 := F0 mt 4 ls []) rfl ?_
  refine lv_aload_n hx hb dG_init_4 rfl (lv_at hl 0 rfl) ?_
  refine lv_bipush (v := nI 16) hx hb dG_init_5 (by decide) ?_
  refine va_newa (atype := .int) (ty := .int) (N' := 16) (a0 := (16, .inl (fun _ => 0))) hx hb (ht _ wd31) rfl hK hP hD hS hA (fun _ => rfl) (nI_pos (by decide)) (nI_clamp (by decide)) (by decide) (Nat.le_of_ble_eq_true rfl) (Nat.le_of_ble_eq_true rfl) dG_init_7 (fun n7 cA7 H hK7 hP hD hS => ?_)
  rw [zz_cI hK7] at hP hD
  have hP : va_P D vwCl [(q0, .inr (3, [.null])), (n7, .inl (cI, 16, .inl (fun _ => 0)))] H := hP
  have hD : va_D A [(q0, .inr (3, [.null])), (n7, .inl (cI, 16, .inl (fun _ => 0)))] := hD
  refine va_putF (D := D) (ci := 3) (v := .ref n7) (ty := (.array .int)) (C := "StatRows$RegisterRow") (T := TG) (N := 1) hx hb ht inG tyG okG nmG hown hK hP hD hS 0 rfl rfl 0 (by decide) (ht _ wd73) (fun _ h9 => h9) rfl hin rfl (by decide +kernel) rfl rfl (Nat.le_of_ble_eq_true rfl) dG_init_9 (fun H locs hP hD hS => ?_)
  have hP : va_P D vwCl [(q0, .inr (3, [.ref n7])), (n7, .inl (cI, 16, .inl (fun _ => 0)))] H := hP
  have hD : va_D A [(q0, .inr (3, [.ref n7])), (n7, .inl (cI, 16, .inl (fun _ => 0)))] := hD
  exact zz_vretW (w1 := fun u : Nat => [(q0, .inr (3, [.ref u])), (u, .inl (cI, 16, .inl (fun _ => 0)))]) n7 hx hb hr hlocks (trivial) hP hK hD hS dG_init_12

abbrev rm_X_init : Room := { frames := 2, cells := 12, slots := 1101, locals := 52 }
set_option maxHeartbeats 4000000 in
set_option maxRecDepth 100000 in
theorem c_X_init (l : Launch) (D : va_G) (cI cB : ClassId) (sz : Nat) (q0 : Nat) : Met l yX_init wX_init rm_X_init (zz_P D vwCl [(cI, .int), (cB, .boolean)] [.ref q0] [(q0, .inr (4, [.null, .null, .null, .null, .null]))] sz) (va_Qv (fun u : ((Nat × Nat × Nat) × (Nat × Nat × Nat × Nat) × (Nat × Nat) × (Nat × Nat) × Nat) => True) (fun u : ((Nat × Nat × Nat) × (Nat × Nat × Nat × Nat) × (Nat × Nat) × (Nat × Nat) × Nat) => zz_B D vwCl [(cI, .int), (cB, .boolean)] (va_A [(q0, .inr (4, [.null, .null, .null, .null, .null]))] sz) [(q0, .inr (4, [.ref u.1.1, .ref u.2.1.1, .ref u.2.2.1.1, .ref u.2.2.2.1.1, .ref u.2.2.2.2])), (u.1.1, .inr (0, [.ref u.1.2.1, .ref u.1.2.2])), (u.1.2.1, .inl (cI, 400, .inl (fun _ => 0))), (u.1.2.2, .inl (cI, 9, .inl (fun _ => 0))), (u.2.1.1, .inr (1, [.ref u.2.1.2.1, .ref u.2.1.2.2.1, .ref u.2.1.2.2.2, .int (nI 0)])), (u.2.1.2.1, .inl (cI, 30, .inl (fun _ => 0))), (u.2.1.2.2.1, .inl (cI, 30, .inl (fun _ => 0))), (u.2.1.2.2.2, .inl (cI, 30, .inl (fun _ => 0))), (u.2.2.1.1, .inr (2, [.ref u.2.2.1.2, .int (nI 0), .int (nI 0)])), (u.2.2.1.2, .inl (cI, 320, .inl (fun _ => 0))), (u.2.2.2.1.1, .inr (3, [.ref u.2.2.2.1.2])), (u.2.2.2.1.2, .inl (cI, 16, .inl (fun _ => 0))), (u.2.2.2.2, .inl (cI, 256, .inl (fun _ => 0)))]) (va_A [(q0, .inr (4, [.null, .null, .null, .null, .null]))] sz)) 12 1101 (va_A [(q0, .inr (4, [.null, .null, .null, .null, .null]))] sz) := by
  refine Met.ofW (cc := cX_init) (maxL := 1) (ret := none) (by decide) rfl ?_
  intro pg ev s mt args below meth kd s₁ B hml hv
  obtain ⟨rfl, hsz, hP, hK, hD0, hN⟩ := hv
  have hx := B.exec
  have hb := B.bytes
  have hr := B.returns
  have ht : ∀ w ∈ W0, w.before _ s = true := fun w h => atoms_spec (ws := wX_init) B.pre w (List.mem_cons_of_mem _ h)
  have hown : s.vm.findClass "StatRows" = some mt.cls := findClass_of_methodNamed B.named
  have hlocks := B.notSynchronized
  have hin : meth.name = "<init>" := (name_of_methodNamed B.named B.method).1
  subst hsz
  have hD := hD0.self (sz := s.heap.size)
  generalize hAe : va_A [(q0, .inr (4, [.null, .null, .null, .null, .null]))] s.heap.size = A at hD ⊢
  have hA : ∀ q : Nat, s.heap.size ≤ q → A q := fun q h => by rw [← hAe]; exact Or.inr h
  have hS : va_S A s.heap s.heap [] := va_S.rf
  have hP : va_P D vwCl [(q0, .inr (4, [.null, .null, .null, .null, .null]))] s.heap := hP
  have hl := lv_entry ([.ref q0]) (n := 1) (Nat.le_of_ble_eq_true rfl)
  rw [lg_entry_eq]
  generalize (lg_sl ([.ref q0]) ++ List.replicate (1 - (lg_sl ([.ref q0])).length) Slot.unset).toArray = ls at hl ⊢
  have hl : lv_has ls 1 [(0, .ref q0)] := hl
  refine lv_aload_n hx hb dX_init_0 rfl (lv_at hl 0 rfl) ?_
  refine W.objInit hx hb hown (ht _ wd15) (ht _ wd16) (ht _ wd17) rfl (by rw [hml]; exact hl.1) rfl dX_init_1 (Nat.le_of_ble_eq_true rfl) (Nat.le_of_ble_eq_true rfl) ?_
  refine W.eq (g2 := F0 mt 4 ls []) rfl ?_
  refine lv_aload_n hx hb dX_init_4 rfl (lv_at hl 0 rfl) ?_
  refine va_new (ci := 0) (fs := [.null, .null]) (C := "StatRows$TripleRow") (T := TT) (N := 2) hx hb ht inT tyT okT hown (ht _ wd18) (ht _ wd19) (ht _ wd2) hK hP hD hS hA rfl (fun j hj => by rcases (show j = 0 ∨ j = 1 by omega) with rfl | rfl <;> rfl) (Nat.le_of_ble_eq_true rfl) (Nat.le_of_ble_eq_true rfl) dX_init_5 (fun n5 H hP hD hS => ?_)
  have hP : va_P D vwCl [(q0, .inr (4, [.null, .null, .null, .null, .null])), (n5, .inr (0, [.null, .null]))] H := hP
  have hD : va_D A [(q0, .inr (4, [.null, .null, .null, .null, .null])), (n5, .inr (0, [.null, .null]))] := hD
  refine lv_dup hx hb dX_init_8 rfl ?_
  refine zz_wv (wc := [(n5, .inr (0, [.null, .null]))]) (wr := [(q0, .inr (4, [.null, .null, .null, .null, .null]))]) (va_runI (As := []) (rest := [.ref n5, .ref q0]) ⟨hx, hb, hml, hown, ht⟩ (c_T_init l D cI cB H.size n5) (cwI 0 ht (gd_1 wd22) rfl rfl rfl (ht _ wd2) (ht _ wd20) (ht _ wd21) rfl (by decide +kernel) ⟨Nat.le_of_ble_eq_true rfl, Nat.le_of_ble_eq_true rfl⟩) (zz_P_S hN hK (hP.sub (ws' := [(n5, .inr (0, [.null, .null]))]) [1] rfl) (hD.sub (ws' := [(n5, .inr (0, [.null, .null]))]) [1] (by decide) rfl)) rfl rfl hl.1 rfl (lv_room (Nat.le_of_ble_eq_true rfl)) dX_init_9 ⟨Nat.le_of_ble_eq_true rfl, Nat.le_of_ble_eq_true rfl⟩) hP hD hS hA [1] [0] rfl rfl (by decide) (by decide) (fun u9 H locs hq9 hP hD hS => ?_)
  have hP := hP.sub (ws' := [(q0, .inr (4, [.null, .null, .null, .null, .null])), (n5, .inr (0, [.ref u9.1, .ref u9.2])), (u9.1, .inl (cI, 400, .inl (fun _ => 0))), (u9.2, .inl (cI, 9, .inl (fun _ => 0)))]) [0, 1, 2, 3] rfl
  have hD := hD.sub (ws' := [(q0, .inr (4, [.null, .null, .null, .null, .null])), (n5, .inr (0, [.ref u9.1, .ref u9.2])), (u9.1, .inl (cI, 400, .inl (fun _ => 0))), (u9.2, .inl (cI, 9, .inl (fun _ => 0)))]) [0, 1, 2, 3] (by decide) rfl
  refine va_putF (D := D) (ci := 4) (v := .ref n5) (ty := .object "StatRows$TripleRow") (C := "StatRows") (T := TX) (N := 5) hx hb ht inX tyX okX nmX hown hK hP hD hS 0 rfl rfl 0 (by decide) (ht _ wd77) (fun _ h9 => h9) rfl hin rfl (by decide +kernel) rfl rfl (Nat.le_of_ble_eq_true rfl) dX_init_12 (fun H locs hP hD hS => ?_)
  have hP : va_P D vwCl [(q0, .inr (4, [.ref n5, .null, .null, .null, .null])), (n5, .inr (0, [.ref u9.1, .ref u9.2])), (u9.1, .inl (cI, 400, .inl (fun _ => 0))), (u9.2, .inl (cI, 9, .inl (fun _ => 0)))] H := hP
  have hD : va_D A [(q0, .inr (4, [.ref n5, .null, .null, .null, .null])), (n5, .inr (0, [.ref u9.1, .ref u9.2])), (u9.1, .inl (cI, 400, .inl (fun _ => 0))), (u9.2, .inl (cI, 9, .inl (fun _ => 0)))] := hD
  refine lv_aload_n hx hb dX_init_15 rfl (lv_at hl 0 rfl) ?_
  refine va_new (ci := 1) (fs := [.null, .null, .null, .int 0]) (C := "StatRows$PatternRow") (T := TP) (N := 4) hx hb ht inP tyP okP hown (ht _ wd32) (ht _ wd33) (ht _ wd3) hK hP hD hS hA rfl (fun j hj => by rcases (show j = 0 ∨ j = 1 ∨ j = 2 ∨ j = 3 by omega) with rfl | rfl | rfl | rfl <;> rfl) (Nat.le_of_ble_eq_true rfl) (Nat.le_of_ble_eq_true rfl) dX_init_16 (fun n16 H hP hD hS => ?_)
  have hP : va_P D vwCl [(q0, .inr (4, [.ref n5, .null, .null, .null, .null])), (n5, .inr (0, [.ref u9.1, .ref u9.2])), (u9.1, .inl (cI, 400, .inl (fun _ => 0))), (u9.2, .inl (cI, 9, .inl (fun _ => 0))), (n16, .inr (1, [.null, .null, .null, .int 0]))] H := hP
  have hD : va_D A [(q0, .inr (4, [.ref n5, .null, .null, .null, .null])), (n5, .inr (0, [.ref u9.1, .ref u9.2])), (u9.1, .inl (cI, 400, .inl (fun _ => 0))), (u9.2, .inl (cI, 9, .inl (fun _ => 0))), (n16, .inr (1, [.null, .null, .null, .int 0]))] := hD
  refine lv_dup hx hb dX_init_19 rfl ?_
  refine zz_wv (wc := [(n16, .inr (1, [.null, .null, .null, .int 0]))]) (wr := [(q0, .inr (4, [.ref n5, .null, .null, .null, .null])), (n5, .inr (0, [.ref u9.1, .ref u9.2])), (u9.1, .inl (cI, 400, .inl (fun _ => 0))), (u9.2, .inl (cI, 9, .inl (fun _ => 0)))]) (va_runI (As := []) (rest := [.ref n16, .ref q0]) ⟨hx, hb, hml, hown, ht⟩ (c_P_init l D cI cB H.size n16) (cwI 0 ht (gd_1 wd36) rfl rfl rfl (ht _ wd3) (ht _ wd34) (ht _ wd35) rfl (by decide +kernel) ⟨Nat.le_of_ble_eq_true rfl, Nat.le_of_ble_eq_true rfl⟩) (zz_P_S hN hK (hP.sub (ws' := [(n16, .inr (1, [.null, .null, .null, .int 0]))]) [4] rfl) (hD.sub (ws' := [(n16, .inr (1, [.null, .null, .null, .int 0]))]) [4] (by decide) rfl)) rfl rfl hl.1 rfl (lv_room (Nat.le_of_ble_eq_true rfl)) dX_init_20 ⟨Nat.le_of_ble_eq_true rfl, Nat.le_of_ble_eq_true rfl⟩) hP hD hS hA [4] [0, 1, 2, 3] rfl rfl (by decide) (by decide) (fun u20 H locs hq20 hP hD hS => ?_)
  have hP := hP.sub (ws' := [(q0, .inr (4, [.ref n5, .null, .null, .null, .null])), (n5, .inr (0, [.ref u9.1, .ref u9.2])), (u9.1, .inl (cI, 400, .inl (fun _ => 0))), (u9.2, .inl (cI, 9, .inl (fun _ => 0))), (n16, .inr (1, [.ref u20.1, .ref u20.2.1, .ref u20.2.2, .int (nI 0)])), (u20.1, .inl (cI, 30, .inl (fun _ => 0))), (u20.2.1, .inl (cI, 30, .inl (fun _ => 0))), (u20.2.2, .inl (cI, 30, .inl (fun _ => 0)))]) [0, 1, 2, 3, 4, 5, 6, 7] rfl
  have hD := hD.sub (ws' := [(q0, .inr (4, [.ref n5, .null, .null, .null, .null])), (n5, .inr (0, [.ref u9.1, .ref u9.2])), (u9.1, .inl (cI, 400, .inl (fun _ => 0))), (u9.2, .inl (cI, 9, .inl (fun _ => 0))), (n16, .inr (1, [.ref u20.1, .ref u20.2.1, .ref u20.2.2, .int (nI 0)])), (u20.1, .inl (cI, 30, .inl (fun _ => 0))), (u20.2.1, .inl (cI, 30, .inl (fun _ => 0))), (u20.2.2, .inl (cI, 30, .inl (fun _ => 0)))]) [0, 1, 2, 3, 4, 5, 6, 7] (by decide) rfl
  refine va_putF (D := D) (ci := 4) (v := .ref n16) (ty := .object "StatRows$PatternRow") (C := "StatRows") (T := TX) (N := 5) hx hb ht inX tyX okX nmX hown hK hP hD hS 0 rfl rfl 1 (by decide) (ht _ wd78) (fun _ h9 => h9) rfl hin rfl (by decide +kernel) rfl rfl (Nat.le_of_ble_eq_true rfl) dX_init_23 (fun H locs hP hD hS => ?_)
  have hP : va_P D vwCl [(q0, .inr (4, [.ref n5, .ref n16, .null, .null, .null])), (n5, .inr (0, [.ref u9.1, .ref u9.2])), (u9.1, .inl (cI, 400, .inl (fun _ => 0))), (u9.2, .inl (cI, 9, .inl (fun _ => 0))), (n16, .inr (1, [.ref u20.1, .ref u20.2.1, .ref u20.2.2, .int (nI 0)])), (u20.1, .inl (cI, 30, .inl (fun _ => 0))), (u20.2.1, .inl (cI, 30, .inl (fun _ => 0))), (u20.2.2, .inl (cI, 30, .inl (fun _ => 0)))] H := hP
  have hD : va_D A [(q0, .inr (4, [.ref n5, .ref n16, .null, .null, .null])), (n5, .inr (0, [.ref u9.1, .ref u9.2])), (u9.1, .inl (cI, 400, .inl (fun _ => 0))), (u9.2, .inl (cI, 9, .inl (fun _ => 0))), (n16, .inr (1, [.ref u20.1, .ref u20.2.1, .ref u20.2.2, .int (nI 0)])), (u20.1, .inl (cI, 30, .inl (fun _ => 0))), (u20.2.1, .inl (cI, 30, .inl (fun _ => 0))), (u20.2.2, .inl (cI, 30, .inl (fun _ => 0)))] := hD
  refine lv_aload_n hx hb dX_init_26 rfl (lv_at hl 0 rfl) ?_
  refine va_new (ci := 2) (fs := [.null, .int 0, .int 0]) (C := "StatRows$VersionRow") (T := TV) (N := 3) hx hb ht inV tyV okV hown (ht _ wd51) (ht _ wd52) (ht _ wd4) hK hP hD hS hA rfl (fun j hj => by rcases (show j = 0 ∨ j = 1 ∨ j = 2 by omega) with rfl | rfl | rfl <;> rfl) (Nat.le_of_ble_eq_true rfl) (Nat.le_of_ble_eq_true rfl) dX_init_27 (fun n27 H hP hD hS => ?_)
  have hP : va_P D vwCl [(q0, .inr (4, [.ref n5, .ref n16, .null, .null, .null])), (n5, .inr (0, [.ref u9.1, .ref u9.2])), (u9.1, .inl (cI, 400, .inl (fun _ => 0))), (u9.2, .inl (cI, 9, .inl (fun _ => 0))), (n16, .inr (1, [.ref u20.1, .ref u20.2.1, .ref u20.2.2, .int (nI 0)])), (u20.1, .inl (cI, 30, .inl (fun _ => 0))), (u20.2.1, .inl (cI, 30, .inl (fun _ => 0))), (u20.2.2, .inl (cI, 30, .inl (fun _ => 0))), (n27, .inr (2, [.null, .int 0, .int 0]))] H := hP
  have hD : va_D A [(q0, .inr (4, [.ref n5, .ref n16, .null, .null, .null])), (n5, .inr (0, [.ref u9.1, .ref u9.2])), (u9.1, .inl (cI, 400, .inl (fun _ => 0))), (u9.2, .inl (cI, 9, .inl (fun _ => 0))), (n16, .inr (1, [.ref u20.1, .ref u20.2.1, .ref u20.2.2, .int (nI 0)])), (u20.1, .inl (cI, 30, .inl (fun _ => 0))), (u20.2.1, .inl (cI, 30, .inl (fun _ => 0))), (u20.2.2, .inl (cI, 30, .inl (fun _ => 0))), (n27, .inr (2, [.null, .int 0, .int 0]))] := hD
  refine lv_dup hx hb dX_init_30 rfl ?_
  refine zz_wv (wc := [(n27, .inr (2, [.null, .int 0, .int 0]))]) (wr := [(q0, .inr (4, [.ref n5, .ref n16, .null, .null, .null])), (n5, .inr (0, [.ref u9.1, .ref u9.2])), (u9.1, .inl (cI, 400, .inl (fun _ => 0))), (u9.2, .inl (cI, 9, .inl (fun _ => 0))), (n16, .inr (1, [.ref u20.1, .ref u20.2.1, .ref u20.2.2, .int (nI 0)])), (u20.1, .inl (cI, 30, .inl (fun _ => 0))), (u20.2.1, .inl (cI, 30, .inl (fun _ => 0))), (u20.2.2, .inl (cI, 30, .inl (fun _ => 0)))]) (va_runI (As := []) (rest := [.ref n27, .ref q0]) ⟨hx, hb, hml, hown, ht⟩ (c_V_init l D cI cB H.size n27) (cwI 0 ht (gd_1 wd55) rfl rfl rfl (ht _ wd4) (ht _ wd53) (ht _ wd54) rfl (by decide +kernel) ⟨Nat.le_of_ble_eq_true rfl, Nat.le_of_ble_eq_true rfl⟩) (zz_P_S hN hK (hP.sub (ws' := [(n27, .inr (2, [.null, .int 0, .int 0]))]) [8] rfl) (hD.sub (ws' := [(n27, .inr (2, [.null, .int 0, .int 0]))]) [8] (by decide) rfl)) rfl rfl hl.1 rfl (lv_room (Nat.le_of_ble_eq_true rfl)) dX_init_31 ⟨Nat.le_of_ble_eq_true rfl, Nat.le_of_ble_eq_true rfl⟩) hP hD hS hA [8] [0, 1, 2, 3, 4, 5, 6, 7] rfl rfl (by decide) (by decide) (fun u31 H locs hq31 hP hD hS => ?_)
  have hP := hP.sub (ws' := [(q0, .inr (4, [.ref n5, .ref n16, .null, .null, .null])), (n5, .inr (0, [.ref u9.1, .ref u9.2])), (u9.1, .inl (cI, 400, .inl (fun _ => 0))), (u9.2, .inl (cI, 9, .inl (fun _ => 0))), (n16, .inr (1, [.ref u20.1, .ref u20.2.1, .ref u20.2.2, .int (nI 0)])), (u20.1, .inl (cI, 30, .inl (fun _ => 0))), (u20.2.1, .inl (cI, 30, .inl (fun _ => 0))), (u20.2.2, .inl (cI, 30, .inl (fun _ => 0))), (n27, .inr (2, [.ref u31, .int (nI 0), .int (nI 0)])), (u31, .inl (cI, 320, .inl (fun _ => 0)))]) [0, 1, 2, 3, 4, 5, 6, 7, 8, 9] rfl
  have hD := hD.sub (ws' := [(q0, .inr (4, [.ref n5, .ref n16, .null, .null, .null])), (n5, .inr (0, [.ref u9.1, .ref u9.2])), (u9.1, .inl (cI, 400, .inl (fun _ => 0))), (u9.2, .inl (cI, 9, .inl (fun _ => 0))), (n16, .inr (1, [.ref u20.1, .ref u20.2.1, .ref u20.2.2, .int (nI 0)])), (u20.1, .inl (cI, 30, .inl (fun _ => 0))), (u20.2.1, .inl (cI, 30, .inl (fun _ => 0))), (u20.2.2, .inl (cI, 30, .inl (fun _ => 0))), (n27, .inr (2, [.ref u31, .int (nI 0), .int (nI 0)])), (u31, .inl (cI, 320, .inl (fun _ => 0)))]) [0, 1, 2, 3, 4, 5, 6, 7, 8, 9] (by decide) rfl
  refine va_putF (D := D) (ci := 4) (v := .ref n27) (ty := .object "StatRows$VersionRow") (C := "StatRows") (T := TX) (N := 5) hx hb ht inX tyX okX nmX hown hK hP hD hS 0 rfl rfl 2 (by decide) (ht _ wd79) (fun _ h9 => h9) rfl hin rfl (by decide +kernel) rfl rfl (Nat.le_of_ble_eq_true rfl) dX_init_34 (fun H locs hP hD hS => ?_)
  have hP : va_P D vwCl [(q0, .inr (4, [.ref n5, .ref n16, .ref n27, .null, .null])), (n5, .inr (0, [.ref u9.1, .ref u9.2])), (u9.1, .inl (cI, 400, .inl (fun _ => 0))), (u9.2, .inl (cI, 9, .inl (fun _ => 0))), (n16, .inr (1, [.ref u20.1, .ref u20.2.1, .ref u20.2.2, .int (nI 0)])), (u20.1, .inl (cI, 30, .inl (fun _ => 0))), (u20.2.1, .inl (cI, 30, .inl (fun _ => 0))), (u20.2.2, .inl (cI, 30, .inl (fun _ => 0))), (n27, .inr (2, [.ref u31, .int (nI 0), .int (nI 0)])), (u31, .inl (cI, 320, .inl (fun _ => 0)))] H := hP
  have hD : va_D A [(q0, .inr (4, [.ref n5, .ref n16, .ref n27, .null, .null])), (n5, .inr (0, [.ref u9.1, .ref u9.2])), (u9.1, .inl (cI, 400, .inl (fun _ => 0))), (u9.2, .inl (cI, 9, .inl (fun _ => 0))), (n16, .inr (1, [.ref u20.1, .ref u20.2.1, .ref u20.2.2, .int (nI 0)])), (u20.1, .inl (cI, 30, .inl (fun _ => 0))), (u20.2.1, .inl (cI, 30, .inl (fun _ => 0))), (u20.2.2, .inl (cI, 30, .inl (fun _ => 0))), (n27, .inr (2, [.ref u31, .int (nI 0), .int (nI 0)])), (u31, .inl (cI, 320, .inl (fun _ => 0)))] := hD
  refine lv_aload_n hx hb dX_init_37 rfl (lv_at hl 0 rfl) ?_
  refine va_new (ci := 3) (fs := [.null]) (C := "StatRows$RegisterRow") (T := TG) (N := 1) hx hb ht inG tyG okG hown (ht _ wd67) (ht _ wd68) (ht _ wd5) hK hP hD hS hA rfl (fun j hj => by rcases (show j = 0 by omega) with rfl <;> rfl) (Nat.le_of_ble_eq_true rfl) (Nat.le_of_ble_eq_true rfl) dX_init_38 (fun n38 H hP hD hS => ?_)
  have hP : va_P D vwCl [(q0, .inr (4, [.ref n5, .ref n16, .ref n27, .null, .null])), (n5, .inr (0, [.ref u9.1, .ref u9.2])), (u9.1, .inl (cI, 400, .inl (fun _ => 0))), (u9.2, .inl (cI, 9, .inl (fun _ => 0))), (n16, .inr (1, [.ref u20.1, .ref u20.2.1, .ref u20.2.2, .int (nI 0)])), (u20.1, .inl (cI, 30, .inl (fun _ => 0))), (u20.2.1, .inl (cI, 30, .inl (fun _ => 0))), (u20.2.2, .inl (cI, 30, .inl (fun _ => 0))), (n27, .inr (2, [.ref u31, .int (nI 0), .int (nI 0)])), (u31, .inl (cI, 320, .inl (fun _ => 0))), (n38, .inr (3, [.null]))] H := hP
  have hD : va_D A [(q0, .inr (4, [.ref n5, .ref n16, .ref n27, .null, .null])), (n5, .inr (0, [.ref u9.1, .ref u9.2])), (u9.1, .inl (cI, 400, .inl (fun _ => 0))), (u9.2, .inl (cI, 9, .inl (fun _ => 0))), (n16, .inr (1, [.ref u20.1, .ref u20.2.1, .ref u20.2.2, .int (nI 0)])), (u20.1, .inl (cI, 30, .inl (fun _ => 0))), (u20.2.1, .inl (cI, 30, .inl (fun _ => 0))), (u20.2.2, .inl (cI, 30, .inl (fun _ => 0))), (n27, .inr (2, [.ref u31, .int (nI 0), .int (nI 0)])), (u31, .inl (cI, 320, .inl (fun _ => 0))), (n38, .inr (3, [.null]))] := hD
  refine lv_dup hx hb dX_init_41 rfl ?_
  refine zz_wv (wc := [(n38, .inr (3, [.null]))]) (wr := [(q0, .inr (4, [.ref n5, .ref n16, .ref n27, .null, .null])), (n5, .inr (0, [.ref u9.1, .ref u9.2])), (u9.1, .inl (cI, 400, .inl (fun _ => 0))), (u9.2, .inl (cI, 9, .inl (fun _ => 0))), (n16, .inr (1, [.ref u20.1, .ref u20.2.1, .ref u20.2.2, .int (nI 0)])), (u20.1, .inl (cI, 30, .inl (fun _ => 0))), (u20.2.1, .inl (cI, 30, .inl (fun _ => 0))), (u20.2.2, .inl (cI, 30, .inl (fun _ => 0))), (n27, .inr (2, [.ref u31, .int (nI 0), .int (nI 0)])), (u31, .inl (cI, 320, .inl (fun _ => 0)))]) (va_runI (As := []) (rest := [.ref n38, .ref q0]) ⟨hx, hb, hml, hown, ht⟩ (c_G_init l D cI cB H.size n38) (cwI 0 ht (gd_1 wd71) rfl rfl rfl (ht _ wd5) (ht _ wd69) (ht _ wd70) rfl (by decide +kernel) ⟨Nat.le_of_ble_eq_true rfl, Nat.le_of_ble_eq_true rfl⟩) (zz_P_S hN hK (hP.sub (ws' := [(n38, .inr (3, [.null]))]) [10] rfl) (hD.sub (ws' := [(n38, .inr (3, [.null]))]) [10] (by decide) rfl)) rfl rfl hl.1 rfl (lv_room (Nat.le_of_ble_eq_true rfl)) dX_init_42 ⟨Nat.le_of_ble_eq_true rfl, Nat.le_of_ble_eq_true rfl⟩) hP hD hS hA [10] [0, 1, 2, 3, 4, 5, 6, 7, 8, 9] rfl rfl (by decide) (by decide) (fun u42 H locs hq42 hP hD hS => ?_)
  have hP := hP.sub (ws' := [(q0, .inr (4, [.ref n5, .ref n16, .ref n27, .null, .null])), (n5, .inr (0, [.ref u9.1, .ref u9.2])), (u9.1, .inl (cI, 400, .inl (fun _ => 0))), (u9.2, .inl (cI, 9, .inl (fun _ => 0))), (n16, .inr (1, [.ref u20.1, .ref u20.2.1, .ref u20.2.2, .int (nI 0)])), (u20.1, .inl (cI, 30, .inl (fun _ => 0))), (u20.2.1, .inl (cI, 30, .inl (fun _ => 0))), (u20.2.2, .inl (cI, 30, .inl (fun _ => 0))), (n27, .inr (2, [.ref u31, .int (nI 0), .int (nI 0)])), (u31, .inl (cI, 320, .inl (fun _ => 0))), (n38, .inr (3, [.ref u42])), (u42, .inl (cI, 16, .inl (fun _ => 0)))]) [0, 1, 2, 3, 4, 5, 6, 7, 8, 9, 10, 11] rfl
  have hD := hD.sub (ws' := [(q0, .inr (4, [.ref n5, .ref n16, .ref n27, .null, .null])), (n5, .inr (0, [.ref u9.1, .ref u9.2])), (u9.1, .inl (cI, 400, .inl (fun _ => 0))), (u9.2, .inl (cI, 9, .inl (fun _ => 0))), (n16, .inr (1, [.ref u20.1, .ref u20.2.1, .ref u20.2.2, .int (nI 0)])), (u20.1, .inl (cI, 30, .inl (fun _ => 0))), (u20.2.1, .inl (cI, 30, .inl (fun _ => 0))), (u20.2.2, .inl (cI, 30, .inl (fun _ => 0))), (n27, .inr (2, [.ref u31, .int (nI 0), .int (nI 0)])), (u31, .inl (cI, 320, .inl (fun _ => 0))), (n38, .inr (3, [.ref u42])), (u42, .inl (cI, 16, .inl (fun _ => 0)))]) [0, 1, 2, 3, 4, 5, 6, 7, 8, 9, 10, 11] (by decide) rfl
  refine va_putF (D := D) (ci := 4) (v := .ref n38) (ty := .object "StatRows$RegisterRow") (C := "StatRows") (T := TX) (N := 5) hx hb ht inX tyX okX nmX hown hK hP hD hS 0 rfl rfl 3 (by decide) (ht _ wd80) (fun _ h9 => h9) rfl hin rfl (by decide +kernel) rfl rfl (Nat.le_of_ble_eq_true rfl) dX_init_45 (fun H locs hP hD hS => ?_)
  have hP : va_P D vwCl [(q0, .inr (4, [.ref n5, .ref n16, .ref n27, .ref n38, .null])), (n5, .inr (0, [.ref u9.1, .ref u9.2])), (u9.1, .inl (cI, 400, .inl (fun _ => 0))), (u9.2, .inl (cI, 9, .inl (fun _ => 0))), (n16, .inr (1, [.ref u20.1, .ref u20.2.1, .ref u20.2.2, .int (nI 0)])), (u20.1, .inl (cI, 30, .inl (fun _ => 0))), (u20.2.1, .inl (cI, 30, .inl (fun _ => 0))), (u20.2.2, .inl (cI, 30, .inl (fun _ => 0))), (n27, .inr (2, [.ref u31, .int (nI 0), .int (nI 0)])), (u31, .inl (cI, 320, .inl (fun _ => 0))), (n38, .inr (3, [.ref u42])), (u42, .inl (cI, 16, .inl (fun _ => 0)))] H := hP
  have hD : va_D A [(q0, .inr (4, [.ref n5, .ref n16, .ref n27, .ref n38, .null])), (n5, .inr (0, [.ref u9.1, .ref u9.2])), (u9.1, .inl (cI, 400, .inl (fun _ => 0))), (u9.2, .inl (cI, 9, .inl (fun _ => 0))), (n16, .inr (1, [.ref u20.1, .ref u20.2.1, .ref u20.2.2, .int (nI 0)])), (u20.1, .inl (cI, 30, .inl (fun _ => 0))), (u20.2.1, .inl (cI, 30, .inl (fun _ => 0))), (u20.2.2, .inl (cI, 30, .inl (fun _ => 0))), (n27, .inr (2, [.ref u31, .int (nI 0), .int (nI 0)])), (u31, .inl (cI, 320, .inl (fun _ => 0))), (n38, .inr (3, [.ref u42])), (u42, .inl (cI, 16, .inl (fun _ => 0)))] := hD
  refine lv_aload_n hx hb dX_init_48 rfl (lv_at hl 0 rfl) ?_
  refine lv_sipush (v := nI 256) hx hb dX_init_49 (by decide) ?_
  refine va_newa (atype := .int) (ty := .int) (N' := 256) (a0 := (256, .inl (fun _ => 0))) hx hb (ht _ wd31) rfl hK hP hD hS hA (fun _ => rfl) (nI_pos (by decide)) (nI_clamp (by decide)) (by decide) (Nat.le_of_ble_eq_true rfl) (Nat.le_of_ble_eq_true rfl) dX_init_52 (fun n52 cA52 H hK52 hP hD hS => ?_)
  rw [zz_cI hK52] at hP hD
  have hP : va_P D vwCl [(q0, .inr (4, [.ref n5, .ref n16, .ref n27, .ref n38, .null])), (n5, .inr (0, [.ref u9.1, .ref u9.2])), (u9.1, .inl (cI, 400, .inl (fun _ => 0))), (u9.2, .inl (cI, 9, .inl (fun _ => 0))), (n16, .inr (1, [.ref u20.1, .ref u20.2.1, .ref u20.2.2, .int (nI 0)])), (u20.1, .inl (cI, 30, .inl (fun _ => 0))), (u20.2.1, .inl (cI, 30, .inl (fun _ => 0))), (u20.2.2, .inl (cI, 30, .inl (fun _ => 0))), (n27, .inr (2, [.ref u31, .int (nI 0), .int (nI 0)])), (u31, .inl (cI, 320, .inl (fun _ => 0))), (n38, .inr (3, [.ref u42])), (u42, .inl (cI, 16, .inl (fun _ => 0))), (n52, .inl (cI, 256, .inl (fun _ => 0)))] H := hP
  have hD : va_D A [(q0, .inr (4, [.ref n5, .ref n16, .ref n27, .ref n38, .null])), (n5, .inr (0, [.ref u9.1, .ref u9.2])), (u9.1, .inl (cI, 400, .inl (fun _ => 0))), (u9.2, .inl (cI, 9, .inl (fun _ => 0))), (n16, .inr (1, [.ref u20.1, .ref u20.2.1, .ref u20.2.2, .int (nI 0)])), (u20.1, .inl (cI, 30, .inl (fun _ => 0))), (u20.2.1, .inl (cI, 30, .inl (fun _ => 0))), (u20.2.2, .inl (cI, 30, .inl (fun _ => 0))), (n27, .inr (2, [.ref u31, .int (nI 0), .int (nI 0)])), (u31, .inl (cI, 320, .inl (fun _ => 0))), (n38, .inr (3, [.ref u42])), (u42, .inl (cI, 16, .inl (fun _ => 0))), (n52, .inl (cI, 256, .inl (fun _ => 0)))] := hD
  refine va_putF (D := D) (ci := 4) (v := .ref n52) (ty := (.array .int)) (C := "StatRows") (T := TX) (N := 5) hx hb ht inX tyX okX nmX hown hK hP hD hS 0 rfl rfl 4 (by decide) (ht _ wd81) (fun _ h9 => h9) rfl hin rfl (by decide +kernel) rfl rfl (Nat.le_of_ble_eq_true rfl) dX_init_54 (fun H locs hP hD hS => ?_)
  have hP : va_P D vwCl [(q0, .inr (4, [.ref n5, .ref n16, .ref n27, .ref n38, .ref n52])), (n5, .inr (0, [.ref u9.1, .ref u9.2])), (u9.1, .inl (cI, 400, .inl (fun _ => 0))), (u9.2, .inl (cI, 9, .inl (fun _ => 0))), (n16, .inr (1, [.ref u20.1, .ref u20.2.1, .ref u20.2.2, .int (nI 0)])), (u20.1, .inl (cI, 30, .inl (fun _ => 0))), (u20.2.1, .inl (cI, 30, .inl (fun _ => 0))), (u20.2.2, .inl (cI, 30, .inl (fun _ => 0))), (n27, .inr (2, [.ref u31, .int (nI 0), .int (nI 0)])), (u31, .inl (cI, 320, .inl (fun _ => 0))), (n38, .inr (3, [.ref u42])), (u42, .inl (cI, 16, .inl (fun _ => 0))), (n52, .inl (cI, 256, .inl (fun _ => 0)))] H := hP
  have hD : va_D A [(q0, .inr (4, [.ref n5, .ref n16, .ref n27, .ref n38, .ref n52])), (n5, .inr (0, [.ref u9.1, .ref u9.2])), (u9.1, .inl (cI, 400, .inl (fun _ => 0))), (u9.2, .inl (cI, 9, .inl (fun _ => 0))), (n16, .inr (1, [.ref u20.1, .ref u20.2.1, .ref u20.2.2, .int (nI 0)])), (u20.1, .inl (cI, 30, .inl (fun _ => 0))), (u20.2.1, .inl (cI, 30, .inl (fun _ => 0))), (u20.2.2, .inl (cI, 30, .inl (fun _ => 0))), (n27, .inr (2, [.ref u31, .int (nI 0), .int (nI 0)])), (u31, .inl (cI, 320, .inl (fun _ => 0))), (n38, .inr (3, [.ref u42])), (u42, .inl (cI, 16, .inl (fun _ => 0))), (n52, .inl (cI, 256, .inl (fun _ => 0)))] := hD
  have hP := hP.sub (ws' := [(q0, .inr (4, [.ref n5, .ref n16, .ref n27, .ref n38, .ref n52])), (n5, .inr (0, [.ref u9.1, .ref u9.2])), (u9.1, .inl (cI, 400, .inl (fun _ => 0))), (u9.2, .inl (cI, 9, .inl (fun _ => 0))), (n16, .inr (1, [.ref u20.1, .ref u20.2.1, .ref u20.2.2, .int (nI 0)])), (u20.1, .inl (cI, 30, .inl (fun _ => 0))), (u20.2.1, .inl (cI, 30, .inl (fun _ => 0))), (u20.2.2, .inl (cI, 30, .inl (fun _ => 0))), (n27, .inr (2, [.ref u31, .int (nI 0), .int (nI 0)])), (u31, .inl (cI, 320, .inl (fun _ => 0))), (n38, .inr (3, [.ref u42])), (u42, .inl (cI, 16, .inl (fun _ => 0))), (n52, .inl (cI, 256, .inl (fun _ => 0)))]) [0, 1, 2, 3, 4, 5, 6, 7, 8, 9, 10, 11, 12] rfl
  have hD := hD.sub (ws' := [(q0, .inr (4, [.ref n5, .ref n16, .ref n27, .ref n38, .ref n52])), (n5, .inr (0, [.ref u9.1, .ref u9.2])), (u9.1, .inl (cI, 400, .inl (fun _ => 0))), (u9.2, .inl (cI, 9, .inl (fun _ => 0))), (n16, .inr (1, [.ref u20.1, .ref u20.2.1, .ref u20.2.2, .int (nI 0)])), (u20.1, .inl (cI, 30, .inl (fun _ => 0))), (u20.2.1, .inl (cI, 30, .inl (fun _ => 0))), (u20.2.2, .inl (cI, 30, .inl (fun _ => 0))), (n27, .inr (2, [.ref u31, .int (nI 0), .int (nI 0)])), (u31, .inl (cI, 320, .inl (fun _ => 0))), (n38, .inr (3, [.ref u42])), (u42, .inl (cI, 16, .inl (fun _ => 0))), (n52, .inl (cI, 256, .inl (fun _ => 0)))]) [0, 1, 2, 3, 4, 5, 6, 7, 8, 9, 10, 11, 12] (by decide) rfl
  exact zz_vretW (w1 := fun u : ((Nat × Nat × Nat) × (Nat × Nat × Nat × Nat) × (Nat × Nat) × (Nat × Nat) × Nat) => [(q0, .inr (4, [.ref u.1.1, .ref u.2.1.1, .ref u.2.2.1.1, .ref u.2.2.2.1.1, .ref u.2.2.2.2])), (u.1.1, .inr (0, [.ref u.1.2.1, .ref u.1.2.2])), (u.1.2.1, .inl (cI, 400, .inl (fun _ => 0))), (u.1.2.2, .inl (cI, 9, .inl (fun _ => 0))), (u.2.1.1, .inr (1, [.ref u.2.1.2.1, .ref u.2.1.2.2.1, .ref u.2.1.2.2.2, .int (nI 0)])), (u.2.1.2.1, .inl (cI, 30, .inl (fun _ => 0))), (u.2.1.2.2.1, .inl (cI, 30, .inl (fun _ => 0))), (u.2.1.2.2.2, .inl (cI, 30, .inl (fun _ => 0))), (u.2.2.1.1, .inr (2, [.ref u.2.2.1.2, .int (nI 0), .int (nI 0)])), (u.2.2.1.2, .inl (cI, 320, .inl (fun _ => 0))), (u.2.2.2.1.1, .inr (3, [.ref u.2.2.2.1.2])), (u.2.2.2.1.2, .inl (cI, 16, .inl (fun _ => 0))), (u.2.2.2.2, .inl (cI, 256, .inl (fun _ => 0)))]) ((n5, u9.1, u9.2), (n16, u20.1, u20.2.1, u20.2.2), (n27, u31), (n38, u42), n52) hx hb hr hlocks (trivial) hP hK hD hS dX_init_57

abbrev rm_M_init : Room := { frames := 1, cells := 6, slots := 1866, locals := 32 }
set_option maxHeartbeats 4000000 in
set_option maxRecDepth 100000 in
theorem c_M_init (l : Launch) (D : va_G) (cI cB : ClassId) (sz : Nat) (q0 : Nat) : Met l yM_init wM_init rm_M_init (zz_P D vwCl [(cI, .int), (cB, .boolean)] [.ref q0] [(q0, .inr (5, [.int 0, .null, .null, .null, .int 0, .null, .int 0, .int 0, .null, .null]))] sz) (va_Qv (fun u : (Nat × Nat × Nat × Nat × Nat × Nat) => True) (fun u : (Nat × Nat × Nat × Nat × Nat × Nat) => zz_B D vwCl [(cI, .int), (cB, .boolean)] (va_A [(q0, .inr (5, [.int 0, .null, .null, .null, .int 0, .null, .int 0, .int 0, .null, .null]))] sz) [(q0, .inr (5, [.int 0, .ref u.1, .ref u.2.1, .ref u.2.2.1, .int 0, .ref u.2.2.2.1, .int 0, .int 0, .ref u.2.2.2.2.1, .ref u.2.2.2.2.2])), (u.1, .inl (cI, 400, .inl (fun _ => 0))), (u.2.1, .inl (cI, 400, .inl (fun _ => 0))), (u.2.2.1, .inl (cI, 400, .inl (fun _ => 0))), (u.2.2.2.1, .inl (cI, 90, .inl (fun _ => 0))), (u.2.2.2.2.1, .inl (cI, 320, .inl (fun _ => 0))), (u.2.2.2.2.2, .inl (cB, 256, .inl (fun _ => 0)))]) (va_A [(q0, .inr (5, [.int 0, .null, .null, .null, .int 0, .null, .int 0, .int 0, .null, .null]))] sz)) 6 1866 (va_A [(q0, .inr (5, [.int 0, .null, .null, .null, .int 0, .null, .int 0, .int 0, .null, .null]))] sz) := by
  refine Met.ofW (cc := cM_init) (maxL := 1) (ret := none) (by decide) rfl ?_
  intro pg ev s mt args below meth kd s₁ B hml hv
  obtain ⟨rfl, hsz, hP, hK, hD0, hN⟩ := hv
  have hx := B.exec
  have hb := B.bytes
  have hr := B.returns
  have ht : ∀ w ∈ W0, w.before _ s = true := fun w h => atoms_spec (ws := wM_init) B.pre w (List.mem_cons_of_mem _ h)
  have hown : s.vm.findClass "StatRowsModel" = some mt.cls := findClass_of_methodNamed B.named
  have hlocks := B.notSynchronized
  have hin : meth.name = "<init>" := (name_of_methodNamed B.named B.method).1
  subst hsz
  have hD := hD0.self (sz := s.heap.size)
  generalize hAe : va_A [(q0, .inr (5, [.int 0, .null, .null, .null, .int 0, .null, .int 0, .int 0, .null, .null]))] s.heap.size = A at hD ⊢
  have hA : ∀ q : Nat, s.heap.size ≤ q → A q := fun q h => by rw [← hAe]; exact Or.inr h
  have hS : va_S A s.heap s.heap [] := va_S.rf
  have hP : va_P D vwCl [(q0, .inr (5, [.int 0, .null, .null, .null, .int 0, .null, .int 0, .int 0, .null, .null]))] s.heap := hP
  have hl := lv_entry ([.ref q0]) (n := 1) (Nat.le_of_ble_eq_true rfl)
  rw [lg_entry_eq]
  generalize (lg_sl ([.ref q0]) ++ List.replicate (1 - (lg_sl ([.ref q0])).length) Slot.unset).toArray = ls at hl ⊢
  have hl : lv_has ls 1 [(0, .ref q0)] := hl
  refine lv_aload_n hx hb dM_init_0 rfl (lv_at hl 0 rfl) ?_
  refine W.objInit hx hb hown (ht _ wd388) (ht _ wd16) (ht _ wd17) rfl (by rw [hml]; exact hl.1) rfl dM_init_1 (Nat.le_of_ble_eq_true rfl) (Nat.le_of_ble_eq_true rfl) ?_
  refine W.eq (g2 := F0 mt 4 ls []) rfl ?_
  refine lv_aload_n hx hb dM_init_4 rfl (lv_at hl 0 rfl) ?_
  refine lv_sipush (v := nI 400) hx hb dM_init_5 (by decide) ?_
  refine va_newa (atype := .int) (ty := .int) (N' := 400) (a0 := (400, .inl (fun _ => 0))) hx hb (ht _ wd31) rfl hK hP hD hS hA (fun _ => rfl) (nI_pos (by decide)) (nI_clamp (by decide)) (by decide) (Nat.le_of_ble_eq_true rfl) (Nat.le_of_ble_eq_true rfl) dM_init_8 (fun n8 cA8 H hK8 hP hD hS => ?_)
  rw [zz_cI hK8] at hP hD
  have hP : va_P D vwCl [(q0, .inr (5, [.int 0, .null, .null, .null, .int 0, .null, .int 0, .int 0, .null, .null])), (n8, .inl (cI, 400, .inl (fun _ => 0)))] H := hP
  have hD : va_D A [(q0, .inr (5, [.int 0, .null, .null, .null, .int 0, .null, .int 0, .int 0, .null, .null])), (n8, .inl (cI, 400, .inl (fun _ => 0)))] := hD
  refine va_putF (D := D) (ci := 5) (v := .ref n8) (ty := (.array .int)) (C := "StatRowsModel") (T := TM) (N := 10) hx hb ht inM tyM okM nmM hown hK hP hD hS 0 rfl rfl 1 (by decide) (ht _ wd390) (fun _ h9 => h9) rfl hin rfl (by decide +kernel) rfl rfl (Nat.le_of_ble_eq_true rfl) dM_init_10 (fun H locs hP hD hS => ?_)
  have hP : va_P D vwCl [(q0, .inr (5, [.int 0, .ref n8, .null, .null, .int 0, .null, .int 0, .int 0, .null, .null])), (n8, .inl (cI, 400, .inl (fun _ => 0)))] H := hP
  have hD : va_D A [(q0, .inr (5, [.int 0, .ref n8, .null, .null, .int 0, .null, .int 0, .int 0, .null, .null])), (n8, .inl (cI, 400, .inl (fun _ => 0)))] := hD
  refine lv_aload_n hx hb dM_init_13 rfl (lv_at hl 0 rfl) ?_
  refine lv_sipush (v := nI 400) hx hb dM_init_14 (by decide) ?_
  refine va_newa (atype := .int) (ty := .int) (N' := 400) (a0 := (400, .inl (fun _ => 0))) hx hb (ht _ wd31) rfl hK hP hD hS hA (fun _ => rfl) (nI_pos (by decide)) (nI_clamp (by decide)) (by decide) (Nat.le_of_ble_eq_true rfl) (Nat.le_of_ble_eq_true rfl) dM_init_17 (fun n17 cA17 H hK17 hP hD hS => ?_)
  rw [zz_cI hK17] at hP hD
  have hP : va_P D vwCl [(q0, .inr (5, [.int 0, .ref n8, .null, .null, .int 0, .null, .int 0, .int 0, .null, .null])), (n8, .inl (cI, 400, .inl (fun _ => 0))), (n17, .inl (cI, 400, .inl (fun _ => 0)))] H := hP
  have hD : va_D A [(q0, .inr (5, [.int 0, .ref n8, .null, .null, .int 0, .null, .int 0, .int 0, .null, .null])), (n8, .inl (cI, 400, .inl (fun _ => 0))), (n17, .inl (cI, 400, .inl (fun _ => 0)))] := hD
  refine va_putF (D := D) (ci := 5) (v := .ref n17) (ty := (.array .int)) (C := "StatRowsModel") (T := TM) (N := 10) hx hb ht inM tyM okM nmM hown hK hP hD hS 0 rfl rfl 2 (by decide) (ht _ wd391) (fun _ h9 => h9) rfl hin rfl (by decide +kernel) rfl rfl (Nat.le_of_ble_eq_true rfl) dM_init_19 (fun H locs hP hD hS => ?_)
  have hP : va_P D vwCl [(q0, .inr (5, [.int 0, .ref n8, .ref n17, .null, .int 0, .null, .int 0, .int 0, .null, .null])), (n8, .inl (cI, 400, .inl (fun _ => 0))), (n17, .inl (cI, 400, .inl (fun _ => 0)))] H := hP
  have hD : va_D A [(q0, .inr (5, [.int 0, .ref n8, .ref n17, .null, .int 0, .null, .int 0, .int 0, .null, .null])), (n8, .inl (cI, 400, .inl (fun _ => 0))), (n17, .inl (cI, 400, .inl (fun _ => 0)))] := hD
  refine lv_aload_n hx hb dM_init_22 rfl (lv_at hl 0 rfl) ?_
  refine lv_sipush (v := nI 400) hx hb dM_init_23 (by decide) ?_
  refine va_newa (atype := .int) (ty := .int) (N' := 400) (a0 := (400, .inl (fun _ => 0))) hx hb (ht _ wd31) rfl hK hP hD hS hA (fun _ => rfl) (nI_pos (by decide)) (nI_clamp (by decide)) (by decide) (Nat.le_of_ble_eq_true rfl) (Nat.le_of_ble_eq_true rfl) dM_init_26 (fun n26 cA26 H hK26 hP hD hS => ?_)
  rw [zz_cI hK26] at hP hD
  have hP : va_P D vwCl [(q0, .inr (5, [.int 0, .ref n8, .ref n17, .null, .int 0, .null, .int 0, .int 0, .null, .null])), (n8, .inl (cI, 400, .inl (fun _ => 0))), (n17, .inl (cI, 400, .inl (fun _ => 0))), (n26, .inl (cI, 400, .inl (fun _ => 0)))] H := hP
  have hD : va_D A [(q0, .inr (5, [.int 0, .ref n8, .ref n17, .null, .int 0, .null, .int 0, .int 0, .null, .null])), (n8, .inl (cI, 400, .inl (fun _ => 0))), (n17, .inl (cI, 400, .inl (fun _ => 0))), (n26, .inl (cI, 400, .inl (fun _ => 0)))] := hD
  refine va_putF (D := D) (ci := 5) (v := .ref n26) (ty := (.array .int)) (C := "StatRowsModel") (T := TM) (N := 10) hx hb ht inM tyM okM nmM hown hK hP hD hS 0 rfl rfl 3 (by decide) (ht _ wd392) (fun _ h9 => h9) rfl hin rfl (by decide +kernel) rfl rfl (Nat.le_of_ble_eq_true rfl) dM_init_28 (fun H locs hP hD hS => ?_)
  have hP : va_P D vwCl [(q0, .inr (5, [.int 0, .ref n8, .ref n17, .ref n26, .int 0, .null, .int 0, .int 0, .null, .null])), (n8, .inl (cI, 400, .inl (fun _ => 0))), (n17, .inl (cI, 400, .inl (fun _ => 0))), (n26, .inl (cI, 400, .inl (fun _ => 0)))] H := hP
  have hD : va_D A [(q0, .inr (5, [.int 0, .ref n8, .ref n17, .ref n26, .int 0, .null, .int 0, .int 0, .null, .null])), (n8, .inl (cI, 400, .inl (fun _ => 0))), (n17, .inl (cI, 400, .inl (fun _ => 0))), (n26, .inl (cI, 400, .inl (fun _ => 0)))] := hD
  refine lv_aload_n hx hb dM_init_31 rfl (lv_at hl 0 rfl) ?_
  refine lv_bipush (v := nI 90) hx hb dM_init_32 (by decide) ?_
  refine va_newa (atype := .int) (ty := .int) (N' := 90) (a0 := (90, .inl (fun _ => 0))) hx hb (ht _ wd31) rfl hK hP hD hS hA (fun _ => rfl) (nI_pos (by decide)) (nI_clamp (by decide)) (by decide) (Nat.le_of_ble_eq_true rfl) (Nat.le_of_ble_eq_true rfl) dM_init_34 (fun n34 cA34 H hK34 hP hD hS => ?_)
  rw [zz_cI hK34] at hP hD
  have hP : va_P D vwCl [(q0, .inr (5, [.int 0, .ref n8, .ref n17, .ref n26, .int 0, .null, .int 0, .int 0, .null, .null])), (n8, .inl (cI, 400, .inl (fun _ => 0))), (n17, .inl (cI, 400, .inl (fun _ => 0))), (n26, .inl (cI, 400, .inl (fun _ => 0))), (n34, .inl (cI, 90, .inl (fun _ => 0)))] H := hP
  have hD : va_D A [(q0, .inr (5, [.int 0, .ref n8, .ref n17, .ref n26, .int 0, .null, .int 0, .int 0, .null, .null])), (n8, .inl (cI, 400, .inl (fun _ => 0))), (n17, .inl (cI, 400, .inl (fun _ => 0))), (n26, .inl (cI, 400, .inl (fun _ => 0))), (n34, .inl (cI, 90, .inl (fun _ => 0)))] := hD
  refine va_putF (D := D) (ci := 5) (v := .ref n34) (ty := (.array .int)) (C := "StatRowsModel") (T := TM) (N := 10) hx hb ht inM tyM okM nmM hown hK hP hD hS 0 rfl rfl 5 (by decide) (ht _ wd394) (fun _ h9 => h9) rfl hin rfl (by decide +kernel) rfl rfl (Nat.le_of_ble_eq_true rfl) dM_init_36 (fun H locs hP hD hS => ?_)
  have hP : va_P D vwCl [(q0, .inr (5, [.int 0, .ref n8, .ref n17, .ref n26, .int 0, .ref n34, .int 0, .int 0, .null, .null])), (n8, .inl (cI, 400, .inl (fun _ => 0))), (n17, .inl (cI, 400, .inl (fun _ => 0))), (n26, .inl (cI, 400, .inl (fun _ => 0))), (n34, .inl (cI, 90, .inl (fun _ => 0)))] H := hP
  have hD : va_D A [(q0, .inr (5, [.int 0, .ref n8, .ref n17, .ref n26, .int 0, .ref n34, .int 0, .int 0, .null, .null])), (n8, .inl (cI, 400, .inl (fun _ => 0))), (n17, .inl (cI, 400, .inl (fun _ => 0))), (n26, .inl (cI, 400, .inl (fun _ => 0))), (n34, .inl (cI, 90, .inl (fun _ => 0)))] := hD
  refine lv_aload_n hx hb dM_init_39 rfl (lv_at hl 0 rfl) ?_
  refine lv_sipush (v := nI 320) hx hb dM_init_40 (by decide) ?_
  refine va_newa (atype := .int) (ty := .int) (N' := 320) (a0 := (320, .inl (fun _ => 0))) hx hb (ht _ wd31) rfl hK hP hD hS hA (fun _ => rfl) (nI_pos (by decide)) (nI_clamp (by decide)) (by decide) (Nat.le_of_ble_eq_true rfl) (Nat.le_of_ble_eq_true rfl) dM_init_43 (fun n43 cA43 H hK43 hP hD hS => ?_)
  rw [zz_cI hK43] at hP hD
  have hP : va_P D vwCl [(q0, .inr (5, [.int 0, .ref n8, .ref n17, .ref n26, .int 0, .ref n34, .int 0, .int 0, .null, .null])), (n8, .inl (cI, 400, .inl (fun _ => 0))), (n17, .inl (cI, 400, .inl (fun _ => 0))), (n26, .inl (cI, 400, .inl (fun _ => 0))), (n34, .inl (cI, 90, .inl (fun _ => 0))), (n43, .inl (cI, 320, .inl (fun _ => 0)))] H := hP
  have hD : va_D A [(q0, .inr (5, [.int 0, .ref n8, .ref n17, .ref n26, .int 0, .ref n34, .int 0, .int 0, .null, .null])), (n8, .inl (cI, 400, .inl (fun _ => 0))), (n17, .inl (cI, 400, .inl (fun _ => 0))), (n26, .inl (cI, 400, .inl (fun _ => 0))), (n34, .inl (cI, 90, .inl (fun _ => 0))), (n43, .inl (cI, 320, .inl (fun _ => 0)))] := hD
  refine va_putF (D := D) (ci := 5) (v := .ref n43) (ty := (.array .int)) (C := "StatRowsModel") (T := TM) (N := 10) hx hb ht inM tyM okM nmM hown hK hP hD hS 0 rfl rfl 8 (by decide) (ht _ wd397) (fun _ h9 => h9) rfl hin rfl (by decide +kernel) rfl rfl (Nat.le_of_ble_eq_true rfl) dM_init_45 (fun H locs hP hD hS => ?_)
  have hP : va_P D vwCl [(q0, .inr (5, [.int 0, .ref n8, .ref n17, .ref n26, .int 0, .ref n34, .int 0, .int 0, .ref n43, .null])), (n8, .inl (cI, 400, .inl (fun _ => 0))), (n17, .inl (cI, 400, .inl (fun _ => 0))), (n26, .inl (cI, 400, .inl (fun _ => 0))), (n34, .inl (cI, 90, .inl (fun _ => 0))), (n43, .inl (cI, 320, .inl (fun _ => 0)))] H := hP
  have hD : va_D A [(q0, .inr (5, [.int 0, .ref n8, .ref n17, .ref n26, .int 0, .ref n34, .int 0, .int 0, .ref n43, .null])), (n8, .inl (cI, 400, .inl (fun _ => 0))), (n17, .inl (cI, 400, .inl (fun _ => 0))), (n26, .inl (cI, 400, .inl (fun _ => 0))), (n34, .inl (cI, 90, .inl (fun _ => 0))), (n43, .inl (cI, 320, .inl (fun _ => 0)))] := hD
  refine lv_aload_n hx hb dM_init_48 rfl (lv_at hl 0 rfl) ?_
  refine lv_sipush (v := nI 256) hx hb dM_init_49 (by decide) ?_
  refine va_newa (atype := .boolean) (ty := .boolean) (N' := 256) (a0 := (256, .inl (fun _ => 0))) hx hb (ht _ wd420) rfl hK hP hD hS hA (fun _ => rfl) (nI_pos (by decide)) (nI_clamp (by decide)) (by decide) (Nat.le_of_ble_eq_true rfl) (Nat.le_of_ble_eq_true rfl) dM_init_52 (fun n52 cA52 H hK52 hP hD hS => ?_)
  rw [zz_cB hK52] at hP hD
  have hP : va_P D vwCl [(q0, .inr (5, [.int 0, .ref n8, .ref n17, .ref n26, .int 0, .ref n34, .int 0, .int 0, .ref n43, .null])), (n8, .inl (cI, 400, .inl (fun _ => 0))), (n17, .inl (cI, 400, .inl (fun _ => 0))), (n26, .inl (cI, 400, .inl (fun _ => 0))), (n34, .inl (cI, 90, .inl (fun _ => 0))), (n43, .inl (cI, 320, .inl (fun _ => 0))), (n52, .inl (cB, 256, .inl (fun _ => 0)))] H := hP
  have hD : va_D A [(q0, .inr (5, [.int 0, .ref n8, .ref n17, .ref n26, .int 0, .ref n34, .int 0, .int 0, .ref n43, .null])), (n8, .inl (cI, 400, .inl (fun _ => 0))), (n17, .inl (cI, 400, .inl (fun _ => 0))), (n26, .inl (cI, 400, .inl (fun _ => 0))), (n34, .inl (cI, 90, .inl (fun _ => 0))), (n43, .inl (cI, 320, .inl (fun _ => 0))), (n52, .inl (cB, 256, .inl (fun _ => 0)))] := hD
  refine va_putF (D := D) (ci := 5) (v := .ref n52) (ty := (.array .boolean)) (C := "StatRowsModel") (T := TM) (N := 10) hx hb ht inM tyM okM nmM hown hK hP hD hS 0 rfl rfl 9 (by decide) (ht _ wd398) (fun _ h9 => h9) rfl hin rfl (by decide +kernel) rfl rfl (Nat.le_of_ble_eq_true rfl) dM_init_54 (fun H locs hP hD hS => ?_)
  have hP : va_P D vwCl [(q0, .inr (5, [.int 0, .ref n8, .ref n17, .ref n26, .int 0, .ref n34, .int 0, .int 0, .ref n43, .ref n52])), (n8, .inl (cI, 400, .inl (fun _ => 0))), (n17, .inl (cI, 400, .inl (fun _ => 0))), (n26, .inl (cI, 400, .inl (fun _ => 0))), (n34, .inl (cI, 90, .inl (fun _ => 0))), (n43, .inl (cI, 320, .inl (fun _ => 0))), (n52, .inl (cB, 256, .inl (fun _ => 0)))] H := hP
  have hD : va_D A [(q0, .inr (5, [.int 0, .ref n8, .ref n17, .ref n26, .int 0, .ref n34, .int 0, .int 0, .ref n43, .ref n52])), (n8, .inl (cI, 400, .inl (fun _ => 0))), (n17, .inl (cI, 400, .inl (fun _ => 0))), (n26, .inl (cI, 400, .inl (fun _ => 0))), (n34, .inl (cI, 90, .inl (fun _ => 0))), (n43, .inl (cI, 320, .inl (fun _ => 0))), (n52, .inl (cB, 256, .inl (fun _ => 0)))] := hD
  exact zz_vretW (w1 := fun u : (Nat × Nat × Nat × Nat × Nat × Nat) => [(q0, .inr (5, [.int 0, .ref u.1, .ref u.2.1, .ref u.2.2.1, .int 0, .ref u.2.2.2.1, .int 0, .int 0, .ref u.2.2.2.2.1, .ref u.2.2.2.2.2])), (u.1, .inl (cI, 400, .inl (fun _ => 0))), (u.2.1, .inl (cI, 400, .inl (fun _ => 0))), (u.2.2.1, .inl (cI, 400, .inl (fun _ => 0))), (u.2.2.2.1, .inl (cI, 90, .inl (fun _ => 0))), (u.2.2.2.2.1, .inl (cI, 320, .inl (fun _ => 0))), (u.2.2.2.2.2, .inl (cB, 256, .inl (fun _ => 0)))]) (n8, n17, n26, n34, n43, n52) hx hb hr hlocks (trivial) hP hK hD hS dM_init_57
