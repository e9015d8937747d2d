abbrev rm_X_subjectsOf : Room := { frames := 2, cells := 0, slots := 0, locals := 44 }
set_option maxHeartbeats 4000000 in
set_option maxRecDepth 100000 in
theorem c_X_subjectsOf (l : Launch) (D : va_G) (cI cB : ClassId) (sz : Nat) (x0 t0 t1 t2 p0 v0 g0 ta : Nat) (f g : Nat → Int32) (Ls : Nat → List Nat) (hT : RT Ls f g) (tl : Nat → Int32) (pp : Nat) (hp : pp < 8) : Met l yX_subjectsOf wX_subjectsOf rm_X_subjectsOf (zz_P D vwCl [(cI, .int), (cB, .boolean)] [.ref x0, .int (nI pp)] [(x0, .inr (4, [.ref t0, .ref p0, .ref v0, .ref g0, .ref ta])), (t0, .inr (0, [.ref t1, .ref t2])), (t1, .inl (cI, 400, .inl f)), (t2, .inl (cI, 9, .inl g)), (ta, .inl (cI, 256, .inl tl))] sz) (va_Qi (fun (r : Int32) (u : (Nat → Int32)) => r = nI (cnt (anyk sub_ (Ls pp)) 256)) (fun u : (Nat → Int32) => zz_B D vwCl [(cI, .int), (cB, .boolean)] (va_A [(x0, .inr (4, [.ref t0, .ref p0, .ref v0, .ref g0, .ref ta])), (t0, .inr (0, [.ref t1, .ref t2])), (t1, .inl (cI, 400, .inl f)), (t2, .inl (cI, 9, .inl g)), (ta, .inl (cI, 256, .inl tl))] sz) [(x0, .inr (4, [.ref t0, .ref p0, .ref v0, .ref g0, .ref ta])), (t0, .inr (0, [.ref t1, .ref t2])), (t1, .inl (cI, 400, .inl f)), (t2, .inl (cI, 9, .inl g)), (ta, .inl (cI, 256, .inl u))]) (va_A [(x0, .inr (4, [.ref t0, .ref p0, .ref v0, .ref g0, .ref ta])), (t0, .inr (0, [.ref t1, .ref t2])), (t1, .inl (cI, 400, .inl f)), (t2, .inl (cI, 9, .inl g)), (ta, .inl (cI, 256, .inl tl))] sz)) 0 0 (va_A [(x0, .inr (4, [.ref t0, .ref p0, .ref v0, .ref g0, .ref ta])), (t0, .inr (0, [.ref t1, .ref t2])), (t1, .inl (cI, 400, .inl f)), (t2, .inl (cI, 9, .inl g)), (ta, .inl (cI, 256, .inl tl))] sz) := by
  refine Met.ofW (cc := cX_subjectsOf) (maxL := 2) (ret := (some .int)) (by decide) rfl ?_
  intro pg ev s mt args below meth kd s₁ B hml hv
  obtain ⟨rfl, hsz, hP, hK, hD0, hN⟩ := hv
  have hx := B.exec
  have hb := B.bytes
  have hr := B.returns
  have ht : ∀ w ∈ W0, w.before _ s = true := fun w h => atoms_spec (ws := wX_subjectsOf) B.pre w (List.mem_cons_of_mem _ h)
  have hown : s.vm.findClass "StatRows" = some mt.cls := findClass_of_methodNamed B.named
  have hlocks := B.notSynchronized
  subst hsz
  have hD := hD0.self (sz := s.heap.size)
  generalize hAe : va_A [(x0, .inr (4, [.ref t0, .ref p0, .ref v0, .ref g0, .ref ta])), (t0, .inr (0, [.ref t1, .ref t2])), (t1, .inl (cI, 400, .inl f)), (t2, .inl (cI, 9, .inl g)), (ta, .inl (cI, 256, .inl tl))] s.heap.size = A at hD ⊢
  have hA : ∀ q : Nat, s.heap.size ≤ q → A q := fun q h => by rw [← hAe]; exact Or.inr h
  have hS : va_S A s.heap s.heap [] := va_S.rf
  have hP : va_P D vwCl [(x0, .inr (4, [.ref t0, .ref p0, .ref v0, .ref g0, .ref ta])), (t0, .inr (0, [.ref t1, .ref t2])), (t1, .inl (cI, 400, .inl f)), (t2, .inl (cI, 9, .inl g)), (ta, .inl (cI, 256, .inl tl))] s.heap := hP
  have hl := lv_entry ([.ref x0, .int (nI pp)]) (n := 2) (Nat.le_of_ble_eq_true rfl)
  rw [lg_entry_eq]
  generalize (lg_sl ([.ref x0, .int (nI pp)]) ++ List.replicate (2 - (lg_sl ([.ref x0, .int (nI pp)])).length) Slot.unset).toArray = ls at hl ⊢
  have hl : lv_has ls 2 [(0, .ref x0), (1, .int (nI pp))] := hl
  have htp := tr_top (Ls := Ls) hp
  have h400 := hT.2.2.1
  refine lv_aload_n hx hb dX_subjectsOf_0 rfl (lv_at hl 0 rfl) ?_
  refine zz_wv (wc := [(x0, .inr (4, [.ref t0, .ref p0, .ref v0, .ref g0, .ref ta])), (ta, .inl (cI, 256, .inl tl))]) (wr := [(t0, .inr (0, [.ref t1, .ref t2])), (t1, .inl (cI, 400, .inl f)), (t2, .inl (cI, 9, .inl g))]) (va_runV (As := []) (rest := []) ⟨hx, hb, hml, hown, ht⟩ (c_X_clearTally l D cI cB s.heap.size x0 t0 t1 t2 p0 v0 g0 ta tl) (cwV 0 ht (gd_V wd160 wd162 wp4 wd1 wd163) rfl rfl rfl (by decide +kernel) ⟨Nat.le_of_ble_eq_true rfl, Nat.le_of_ble_eq_true rfl⟩) (zz_P_V hN hK (hP.sub (ws' := [(x0, .inr (4, [.ref t0, .ref p0, .ref v0, .ref g0, .ref ta])), (ta, .inl (cI, 256, .inl tl))]) [0, 4] rfl) (hD.sub (ws' := [(x0, .inr (4, [.ref t0, .ref p0, .ref v0, .ref g0, .ref ta])), (ta, .inl (cI, 256, .inl tl))]) [0, 4] (by decide) rfl) 4 0 rfl rfl) rfl rfl hl.1 rfl (lv_room (Nat.le_of_ble_eq_true rfl)) dX_subjectsOf_1 ⟨Nat.le_of_ble_eq_true rfl, Nat.le_of_ble_eq_true rfl⟩) hP hD hS hA [0, 4] [1, 2, 3] rfl rfl (by decide) (by decide) (fun u1 H locs hq1 hP hD hS => ?_)
  have hP := hP.sub (ws' := [(x0, .inr (4, [.ref t0, .ref p0, .ref v0, .ref g0, .ref ta])), (t0, .inr (0, [.ref t1, .ref t2])), (t1, .inl (cI, 400, .inl f)), (t2, .inl (cI, 9, .inl g)), (ta, .inl (cI, 256, .inl u1))]) [3, 0, 1, 2, 4] rfl
  have hD := hD.sub (ws' := [(x0, .inr (4, [.ref t0, .ref p0, .ref v0, .ref g0, .ref ta])), (t0, .inr (0, [.ref t1, .ref t2])), (t1, .inl (cI, 400, .inl f)), (t2, .inl (cI, 9, .inl g)), (ta, .inl (cI, 256, .inl u1))]) [3, 0, 1, 2, 4] (by decide) rfl
  refine lv_aload_n hx hb dX_subjectsOf_4 rfl (lv_at hl 0 rfl) ?_
  refine lv_iload_n hx hb dX_subjectsOf_5 rfl (lv_at hl 1 rfl) ?_
  refine zz_wv (wc := [(x0, .inr (4, [.ref t0, .ref p0, .ref v0, .ref g0, .ref ta])), (t0, .inr (0, [.ref t1, .ref t2])), (t1, .inl (cI, 400, .inl f)), (t2, .inl (cI, 9, .inl g)), (ta, .inl (cI, 256, .inl u1))]) (wr := []) (va_runV (As := [.int (nI pp)]) (rest := []) ⟨hx, hb, hml, hown, ht⟩ (c_X_tallySubjects l D cI cB H.size x0 t0 t1 t2 p0 v0 g0 ta f g Ls hT u1 (fun _ => 0) hq1 pp hp) (cwV 1 ht (gd_V wd167 wd169 wp5 wd1 wd170) rfl rfl rfl (by decide +kernel) ⟨Nat.le_of_ble_eq_true rfl, Nat.le_of_ble_eq_true rfl⟩) (zz_P_V hN hK (hP.sub (ws' := [(x0, .inr (4, [.ref t0, .ref p0, .ref v0, .ref g0, .ref ta])), (t0, .inr (0, [.ref t1, .ref t2])), (t1, .inl (cI, 400, .inl f)), (t2, .inl (cI, 9, .inl g)), (ta, .inl (cI, 256, .inl u1))]) [0, 1, 2, 3, 4] rfl) (hD.sub (ws' := [(x0, .inr (4, [.ref t0, .ref p0, .ref v0, .ref g0, .ref ta])), (t0, .inr (0, [.ref t1, .ref t2])), (t1, .inl (cI, 400, .inl f)), (t2, .inl (cI, 9, .inl g)), (ta, .inl (cI, 256, .inl u1))]) [0, 1, 2, 3, 4] (by decide) rfl) 4 0 rfl rfl) rfl rfl hl.1 rfl (lv_room (Nat.le_of_ble_eq_true rfl)) dX_subjectsOf_6 ⟨Nat.le_of_ble_eq_true rfl, Nat.le_of_ble_eq_true rfl⟩) hP hD hS hA [0, 1, 2, 3, 4] [] rfl rfl (by decide) (by decide) (fun u6 H locs hq6 hP hD hS => ?_)
  have hP := hP.sub (ws' := [(x0, .inr (4, [.ref t0, .ref p0, .ref v0, .ref g0, .ref ta])), (t0, .inr (0, [.ref t1, .ref t2])), (t1, .inl (cI, 400, .inl f)), (t2, .inl (cI, 9, .inl g)), (ta, .inl (cI, 256, .inl u6))]) [0, 1, 2, 3, 4] rfl
  have hD := hD.sub (ws' := [(x0, .inr (4, [.ref t0, .ref p0, .ref v0, .ref g0, .ref ta])), (t0, .inr (0, [.ref t1, .ref t2])), (t1, .inl (cI, 400, .inl f)), (t2, .inl (cI, 9, .inl g)), (ta, .inl (cI, 256, .inl u6))]) [0, 1, 2, 3, 4] (by decide) rfl
  refine lv_aload_n hx hb dX_subjectsOf_9 rfl (lv_at hl 0 rfl) ?_
  refine zz_ci (v := nI (cnt (fun v => decide (0 < (fun v => 0 + (Ls pp).countP (fun c => sub_ c == v)) v)) 256)) (W.runV (As := []) (rest := []) ⟨hx, hb, hml, hown, ht⟩ (c_X_differentInTally l D cI cB x0 t0 t1 t2 p0 v0 g0 ta u6 (fun v => 0 + (Ls pp).countP (fun c => sub_ c == v)) hq6 (fun v _ => by have := cpl (fun c => sub_ c == v) (Ls pp); show 0 + _ < 1000; omega)) (cwV 0 ht (gd_V wd177 wd179 wp6 wd1 wd180) rfl rfl rfl (by decide +kernel) ⟨Nat.le_of_ble_eq_true rfl, Nat.le_of_ble_eq_true rfl⟩) (zz_R_V hN hK (hP.sub (ws' := [(x0, .inr (4, [.ref t0, .ref p0, .ref v0, .ref g0, .ref ta])), (ta, .inl (cI, 256, .inl u6))]) [0, 4] rfl) 4 0 rfl rfl) rfl rfl hl.1 rfl (lv_room (Nat.le_of_ble_eq_true rfl)) dX_subjectsOf_10 ⟨Nat.le_of_ble_eq_true rfl, Nat.le_of_ble_eq_true rfl⟩) ?_
  exact zz_iretW (v := nI (cnt (fun v => decide (0 < (fun v => 0 + (Ls pp).countP (fun c => sub_ c == v)) v)) 256)) (w1 := fun u : (Nat → Int32) => [(x0, .inr (4, [.ref t0, .ref p0, .ref v0, .ref g0, .ref ta])), (t0, .inr (0, [.ref t1, .ref t2])), (t1, .inl (cI, 400, .inl f)), (t2, .inl (cI, 9, .inl g)), (ta, .inl (cI, 256, .inl u))]) u6 hx hb hr hlocks (congrArg nI (cnt_congr 256 (fun v _ => anyk_pos0 sub_ (Ls pp) v))) hP hK hD hS dX_subjectsOf_13

abbrev rm_X_objectsOf : Room := { frames := 3, cells := 0, slots := 0, locals := 67 }
set_option maxHeartbeats 4000000 in
set_option maxRecDepth 100000 in
theorem c_X_objectsOf (l : Launch) (D : va_G) (cI cB : ClassId) (sz : Nat) (x0 t0 t1 t2 p0 v0 g0 ta : Nat) (f g : Nat → Int32) (Ls : Nat → List Nat) (hT : RT Ls f g) (tl : Nat → Int32) (pp : Nat) (hp : pp < 8) : Met l yX_objectsOf wX_objectsOf rm_X_objectsOf (zz_P D vwCl [(cI, .int), (cB, .boolean)] [.ref x0, .int (nI pp)] [(x0, .inr (4, [.ref t0, .ref p0, .ref v0, .ref g0, .ref ta])), (t0, .inr (0, [.ref t1, .ref t2])), (t1, .inl (cI, 400, .inl f)), (t2, .inl (cI, 9, .inl g)), (ta, .inl (cI, 256, .inl tl))] sz) (va_Qi (fun (r : Int32) (u : (Nat → Int32)) => r = nI (cnt (anyk obj_ (Ls pp)) 256)) (fun u : (Nat → Int32) => zz_B D vwCl [(cI, .int), (cB, .boolean)] (va_A [(x0, .inr (4, [.ref t0, .ref p0, .ref v0, .ref g0, .ref ta])), (t0, .inr (0, [.ref t1, .ref t2])), (t1, .inl (cI, 400, .inl f)), (t2, .inl (cI, 9, .inl g)), (ta, .inl (cI, 256, .inl tl))] sz) [(x0, .inr (4, [.ref t0, .ref p0, .ref v0, .ref g0, .ref ta])), (t0, .inr (0, [.ref t1, .ref t2])), (t1, .inl (cI, 400, .inl f)), (t2, .inl (cI, 9, .inl g)), (ta, .inl (cI, 256, .inl u))]) (va_A [(x0, .inr (4, [.ref t0, .ref p0, .ref v0, .ref g0, .ref ta])), (t0, .inr (0, [.ref t1, .ref t2])), (t1, .inl (cI, 400, .inl f)), (t2, .inl (cI, 9, .inl g)), (ta, .inl (cI, 256, .inl tl))] sz)) 0 0 (va_A [(x0, .inr (4, [.ref t0, .ref p0, .ref v0, .ref g0, .ref ta])), (t0, .inr (0, [.ref t1, .ref t2])), (t1, .inl (cI, 400, .inl f)), (t2, .inl (cI, 9, .inl g)), (ta, .inl (cI, 256, .inl tl))] sz) := by
  refine Met.ofW (cc := cX_objectsOf) (maxL := 2) (ret := (some .int)) (by decide) rfl ?_
  intro pg ev s mt args below meth kd s₁ B hml hv
  obtain ⟨rfl, hsz, hP, hK, hD0, hN⟩ := hv
  have hx := B.exec
  have hb := B.bytes
  have hr := B.returns
  have ht : ∀ w ∈ W0, w.before _ s = true := fun w h => atoms_spec (ws := wX_objectsOf) B.pre w (List.mem_cons_of_mem _ h)
  have hown : s.vm.findClass "StatRows" = some mt.cls := findClass_of_methodNamed B.named
  have hlocks := B.notSynchronized
  subst hsz
  have hD := hD0.self (sz := s.heap.size)
  generalize hAe : va_A [(x0, .inr (4, [.ref t0, .ref p0, .ref v0, .ref g0, .ref ta])), (t0, .inr (0, [.ref t1, .ref t2])), (t1, .inl (cI, 400, .inl f)), (t2, .inl (cI, 9, .inl g)), (ta, .inl (cI, 256, .inl tl))] s.heap.size = A at hD ⊢
  have hA : ∀ q : Nat, s.heap.size ≤ q → A q := fun q h => by rw [← hAe]; exact Or.inr h
  have hS : va_S A s.heap s.heap [] := va_S.rf
  have hP : va_P D vwCl [(x0, .inr (4, [.ref t0, .ref p0, .ref v0, .ref g0, .ref ta])), (t0, .inr (0, [.ref t1, .ref t2])), (t1, .inl (cI, 400, .inl f)), (t2, .inl (cI, 9, .inl g)), (ta, .inl (cI, 256, .inl tl))] s.heap := hP
  have hl := lv_entry ([.ref x0, .int (nI pp)]) (n := 2) (Nat.le_of_ble_eq_true rfl)
  rw [lg_entry_eq]
  generalize (lg_sl ([.ref x0, .int (nI pp)]) ++ List.replicate (2 - (lg_sl ([.ref x0, .int (nI pp)])).length) Slot.unset).toArray = ls at hl ⊢
  have hl : lv_has ls 2 [(0, .ref x0), (1, .int (nI pp))] := hl
  have htp := tr_top (Ls := Ls) hp
  have h400 := hT.2.2.1
  refine lv_aload_n hx hb dX_objectsOf_0 rfl (lv_at hl 0 rfl) ?_
  refine lv_iload_n hx hb dX_objectsOf_1 rfl (lv_at hl 1 rfl) ?_
  refine lv_iconst (v := nI 0) hx hb dX_objectsOf_2 (by decide) ?_
  refine zz_wv (wc := [(x0, .inr (4, [.ref t0, .ref p0, .ref v0, .ref g0, .ref ta])), (t0, .inr (0, [.ref t1, .ref t2])), (t1, .inl (cI, 400, .inl f)), (t2, .inl (cI, 9, .inl g)), (ta, .inl (cI, 256, .inl tl))]) (wr := []) (va_runV (As := [.int (nI pp), .int (nI 0)]) (rest := []) ⟨hx, hb, hml, hown, ht⟩ (c_X_tallyObjects l D cI cB s.heap.size x0 t0 t1 t2 p0 v0 g0 ta f g Ls hT tl pp hp false) (cwV 2 ht (gd_V wd185 wd187 wp8 wd1 wd188) rfl rfl rfl (by decide +kernel) ⟨Nat.le_of_ble_eq_true rfl, Nat.le_of_ble_eq_true rfl⟩) (zz_P_V hN hK (hP.sub (ws' := [(x0, .inr (4, [.ref t0, .ref p0, .ref v0, .ref g0, .ref ta])), (t0, .inr (0, [.ref t1, .ref t2])), (t1, .inl (cI, 400, .inl f)), (t2, .inl (cI, 9, .inl g)), (ta, .inl (cI, 256, .inl tl))]) [0, 1, 2, 3, 4] rfl) (hD.sub (ws' := [(x0, .inr (4, [.ref t0, .ref p0, .ref v0, .ref g0, .ref ta])), (t0, .inr (0, [.ref t1, .ref t2])), (t1, .inl (cI, 400, .inl f)), (t2, .inl (cI, 9, .inl g)), (ta, .inl (cI, 256, .inl tl))]) [0, 1, 2, 3, 4] (by decide) rfl) 4 0 rfl rfl) rfl rfl hl.1 rfl (lv_room (Nat.le_of_ble_eq_true rfl)) dX_objectsOf_3 ⟨Nat.le_of_ble_eq_true rfl, Nat.le_of_ble_eq_true rfl⟩) hP hD hS hA [0, 1, 2, 3, 4] [] rfl rfl (by decide) (by decide) (fun u3 H locs hq3 hP hD hS => ?_)
  have hP := hP.sub (ws' := [(x0, .inr (4, [.ref t0, .ref p0, .ref v0, .ref g0, .ref ta])), (t0, .inr (0, [.ref t1, .ref t2])), (t1, .inl (cI, 400, .inl f)), (t2, .inl (cI, 9, .inl g)), (ta, .inl (cI, 256, .inl u3))]) [0, 1, 2, 3, 4] rfl
  have hD := hD.sub (ws' := [(x0, .inr (4, [.ref t0, .ref p0, .ref v0, .ref g0, .ref ta])), (t0, .inr (0, [.ref t1, .ref t2])), (t1, .inl (cI, 400, .inl f)), (t2, .inl (cI, 9, .inl g)), (ta, .inl (cI, 256, .inl u3))]) [0, 1, 2, 3, 4] (by decide) rfl
  refine lv_aload_n hx hb dX_objectsOf_6 rfl (lv_at hl 0 rfl) ?_
  refine zz_ci (v := nI (cnt (fun v => decide (0 < (fun v => 0 + (Ls pp).countP (fun c => okf false c && obj_ c == v)) v)) 256)) (W.runV (As := []) (rest := []) ⟨hx, hb, hml, hown, ht⟩ (c_X_differentInTally l D cI cB x0 t0 t1 t2 p0 v0 g0 ta u3 (fun v => 0 + (Ls pp).countP (fun c => okf false c && obj_ c == v)) hq3 (fun v _ => by have := cpl (fun c => okf false c && obj_ c == v) (Ls pp); show 0 + _ < 1000; omega)) (cwV 0 ht (gd_V wd177 wd179 wp6 wd1 wd180) rfl rfl rfl (by decide +kernel) ⟨Nat.le_of_ble_eq_true rfl, Nat.le_of_ble_eq_true rfl⟩) (zz_R_V hN hK (hP.sub (ws' := [(x0, .inr (4, [.ref t0, .ref p0, .ref v0, .ref g0, .ref ta])), (ta, .inl (cI, 256, .inl u3))]) [0, 4] rfl) 4 0 rfl rfl) rfl rfl hl.1 rfl (lv_room (Nat.le_of_ble_eq_true rfl)) dX_objectsOf_7 ⟨Nat.le_of_ble_eq_true rfl, Nat.le_of_ble_eq_true rfl⟩) ?_
  exact zz_iretW (v := nI (cnt (fun v => decide (0 < (fun v => 0 + (Ls pp).countP (fun c => okf false c && obj_ c == v)) v)) 256)) (w1 := fun u : (Nat → Int32) => [(x0, .inr (4, [.ref t0, .ref p0, .ref v0, .ref g0, .ref ta])), (t0, .inr (0, [.ref t1, .ref t2])), (t1, .inl (cI, 400, .inl f)), (t2, .inl (cI, 9, .inl g)), (ta, .inl (cI, 256, .inl u))]) u3 hx hb hr hlocks (congrArg nI (cnt_congr 256 (fun v _ => anyk_pos0 obj_ (Ls pp) v))) hP hK hD hS dX_objectsOf_10

abbrev rm_X_joinEstimate : Room := { frames := 3, cells := 0, slots := 0, locals := 65 }
set_option maxHeartbeats 4000000 in
set_option maxRecDepth 100000 in
theorem c_X_joinEstimate (l : Launch) (D : va_G) (cI cB : ClassId) (sz : Nat) (x0 t0 t1 t2 p0 v0 g0 ta : Nat) (f g : Nat → Int32) (Ls : Nat → List Nat) (hT : RT Ls f g) (tl : Nat → Int32) (pp qq d : Nat) (hp : pp < 8) (hq : qq < 8) (hd : d ≤ 256) : Met l yX_joinEstimate wX_joinEstimate rm_X_joinEstimate (zz_P D vwCl [(cI, .int), (cB, .boolean)] [.ref x0, .int (nI pp), .int (nI qq), .int (nI d)] [(x0, .inr (4, [.ref t0, .ref p0, .ref v0, .ref g0, .ref ta])), (t0, .inr (0, [.ref t1, .ref t2])), (t1, .inl (cI, 400, .inl f)), (t2, .inl (cI, 9, .inl g)), (ta, .inl (cI, 256, .inl tl))] sz) (va_Ql (fun (r : Int64) (u : (Nat → Int32)) => r = lN ((Ls pp).length * (Ls qq).length / max 1 (max d (cnt (anyk sub_ (Ls qq)) 256)))) (fun u : (Nat → Int32) => zz_B D vwCl [(cI, .int), (cB, .boolean)] (va_A [(x0, .inr (4, [.ref t0, .ref p0, .ref v0, .ref g0, .ref ta])), (t0, .inr (0, [.ref t1, .ref t2])), (t1, .inl (cI, 400, .inl f)), (t2, .inl (cI, 9, .inl g)), (ta, .inl (cI, 256, .inl tl))] sz) [(x0, .inr (4, [.ref t0, .ref p0, .ref v0, .ref g0, .ref ta])), (t0, .inr (0, [.ref t1, .ref t2])), (t1, .inl (cI, 400, .inl f)), (t2, .inl (cI, 9, .inl g)), (ta, .inl (cI, 256, .inl u))]) (va_A [(x0, .inr (4, [.ref t0, .ref p0, .ref v0, .ref g0, .ref ta])), (t0, .inr (0, [.ref t1, .ref t2])), (t1, .inl (cI, 400, .inl f)), (t2, .inl (cI, 9, .inl g)), (ta, .inl (cI, 256, .inl tl))] sz)) 0 0 (va_A [(x0, .inr (4, [.ref t0, .ref p0, .ref v0, .ref g0, .ref ta])), (t0, .inr (0, [.ref t1, .ref t2])), (t1, .inl (cI, 400, .inl f)), (t2, .inl (cI, 9, .inl g)), (ta, .inl (cI, 256, .inl tl))] sz) := by
  refine Met.ofW (cc := cX_joinEstimate) (maxL := 5) (ret := (some .long)) (by decide) rfl ?_
  intro pg ev s mt args below meth kd s₁ B hml hv
  obtain ⟨rfl, hsz, hP, hK, hD0, hN⟩ := hv
  have hx := B.exec
  have hb := B.bytes
  have hr := B.returns
  have ht : ∀ w ∈ W0, w.before _ s = true := fun w h => atoms_spec (ws := wX_joinEstimate) B.pre w (List.mem_cons_of_mem _ h)
  have hown : s.vm.findClass "StatRows" = some mt.cls := findClass_of_methodNamed B.named
  have hlocks := B.notSynchronized
  subst hsz
  have hD := hD0.self (sz := s.heap.size)
  generalize hAe : va_A [(x0, .inr (4, [.ref t0, .ref p0, .ref v0, .ref g0, .ref ta])), (t0, .inr (0, [.ref t1, .ref t2])), (t1, .inl (cI, 400, .inl f)), (t2, .inl (cI, 9, .inl g)), (ta, .inl (cI, 256, .inl tl))] s.heap.size = A at hD ⊢
  have hA : ∀ q : Nat, s.heap.size ≤ q → A q := fun q h => by rw [← hAe]; exact Or.inr h
  have hS : va_S A s.heap s.heap [] := va_S.rf
  have hP : va_P D vwCl [(x0, .inr (4, [.ref t0, .ref p0, .ref v0, .ref g0, .ref ta])), (t0, .inr (0, [.ref t1, .ref t2])), (t1, .inl (cI, 400, .inl f)), (t2, .inl (cI, 9, .inl g)), (ta, .inl (cI, 256, .inl tl))] s.heap := hP
  have hl := lv_entry ([.ref x0, .int (nI pp), .int (nI qq), .int (nI d)]) (n := 5) (Nat.le_of_ble_eq_true rfl)
  rw [lg_entry_eq]
  generalize (lg_sl ([.ref x0, .int (nI pp), .int (nI qq), .int (nI d)]) ++ List.replicate (5 - (lg_sl ([.ref x0, .int (nI pp), .int (nI qq), .int (nI d)])).length) Slot.unset).toArray = ls at hl ⊢
  have hl : lv_has ls 5 [(0, .ref x0), (1, .int (nI pp)), (2, .int (nI qq)), (3, .int (nI d))] := hl
  have htp := tr_top (Ls := Ls) hp
  have htq := tr_top (Ls := Ls) hq
  have h400 := hT.2.2.1
  have hcl := cnt_le (anyk sub_ (Ls qq)) 256
  have hmul : (Ls pp).length * (Ls qq).length ≤ 400 * 400 := Nat.mul_le_mul (by omega) (by omega)
  refine lv_iconst (v := nI 1) hx hb dX_joinEstimate_0 (by decide) ?_
  refine lv_iload_n hx hb dX_joinEstimate_1 rfl (lv_at hl 3 rfl) ?_
  refine lv_aload_n hx hb dX_joinEstimate_2 rfl (lv_at hl 0 rfl) ?_
  refine lv_iload_n hx hb dX_joinEstimate_3 rfl (lv_at hl 2 rfl) ?_
  refine zz_wi (wc := [(x0, .inr (4, [.ref t0, .ref p0, .ref v0, .ref g0, .ref ta])), (t0, .inr (0, [.ref t1, .ref t2])), (t1, .inl (cI, 400, .inl f)), (t2, .inl (cI, 9, .inl g)), (ta, .inl (cI, 256, .inl tl))]) (wr := []) (va_runV (As := [.int (nI qq)]) (rest := [.int (nI d), .int (nI 1)]) ⟨hx, hb, hml, hown, ht⟩ (c_X_subjectsOf l D cI cB s.heap.size x0 t0 t1 t2 p0 v0 g0 ta f g Ls hT tl qq hq) (cwV 1 ht (gd_V wd156 wd158 wp3 wd1 wd159) rfl rfl rfl (by decide +kernel) ⟨Nat.le_of_ble_eq_true rfl, Nat.le_of_ble_eq_true rfl⟩) (zz_P_V hN hK (hP.sub (ws' := [(x0, .inr (4, [.ref t0, .ref p0, .ref v0, .ref g0, .ref ta])), (t0, .inr (0, [.ref t1, .ref t2])), (t1, .inl (cI, 400, .inl f)), (t2, .inl (cI, 9, .inl g)), (ta, .inl (cI, 256, .inl tl))]) [0, 1, 2, 3, 4] rfl) (hD.sub (ws' := [(x0, .inr (4, [.ref t0, .ref p0, .ref v0, .ref g0, .ref ta])), (t0, .inr (0, [.ref t1, .ref t2])), (t1, .inl (cI, 400, .inl f)), (t2, .inl (cI, 9, .inl g)), (ta, .inl (cI, 256, .inl tl))]) [0, 1, 2, 3, 4] (by decide) rfl) 4 0 rfl rfl) rfl rfl hl.1 rfl (lv_room (Nat.le_of_ble_eq_true rfl)) dX_joinEstimate_4 ⟨Nat.le_of_ble_eq_true rfl, Nat.le_of_ble_eq_true rfl⟩) hP hD hS hA [0, 1, 2, 3, 4] [] rfl rfl (by decide) (by decide) (fun r4 u4 H locs hq4 hP hD hS => ?_)
  have hP := hP.sub (ws' := [(x0, .inr (4, [.ref t0, .ref p0, .ref v0, .ref g0, .ref ta])), (t0, .inr (0, [.ref t1, .ref t2])), (t1, .inl (cI, 400, .inl f)), (t2, .inl (cI, 9, .inl g)), (ta, .inl (cI, 256, .inl u4))]) [0, 1, 2, 3, 4] rfl
  have hD := hD.sub (ws' := [(x0, .inr (4, [.ref t0, .ref p0, .ref v0, .ref g0, .ref ta])), (t0, .inr (0, [.ref t1, .ref t2])), (t1, .inl (cI, 400, .inl f)), (t2, .inl (cI, 9, .inl g)), (ta, .inl (cI, 256, .inl u4))]) [0, 1, 2, 3, 4] (by decide) rfl
  refine zz_top (y := nI (cnt (anyk sub_ (Ls qq)) 256)) (hq4) ?_
  refine va_mmax (x := nI d) (y := nI (cnt (anyk sub_ (Ls qq)) 256)) hx hb (hml.trans hl.1.symm) hown (ht _ wd278) (ht _ wd252) (ht _ wd9) (ht _ wd253) (Nat.le_of_ble_eq_true rfl) (Nat.le_of_ble_eq_true rfl) (Nat.le_of_ble_eq_true rfl) (Nat.le_of_ble_eq_true rfl) dX_joinEstimate_7 ?_
  refine zz_top (y := nI (max d (cnt (anyk sub_ (Ls qq)) 256))) (imax (by omega) (by omega)) ?_
  refine va_mmax (x := nI 1) (y := nI (max d (cnt (anyk sub_ (Ls qq)) 256))) hx hb (hml.trans hl.1.symm) hown (ht _ wd278) (ht _ wd252) (ht _ wd9) (ht _ wd253) (Nat.le_of_ble_eq_true rfl) (Nat.le_of_ble_eq_true rfl) (Nat.le_of_ble_eq_true rfl) (Nat.le_of_ble_eq_true rfl) dX_joinEstimate_10 ?_
  refine zz_top (y := nI (max 1 (max d (cnt (anyk sub_ (Ls qq)) 256)))) (imax (by omega) (by omega)) ?_
  refine lv_istore (lv' := [(4, .int (nI (max 1 (max d (cnt (anyk sub_ (Ls qq)) 256))))), (0, .ref x0), (1, .int (nI pp)), (2, .int (nI qq)), (3, .int (nI d))]) hx hb dX_joinEstimate_13 hl (by decide) rfl (fun ls hl => ?_)
  refine lv_aload_n hx hb dX_joinEstimate_15 rfl (lv_at hl 1 rfl) ?_
  refine va_get (D := D) (ci := 4) (v := .ref t0) (C := "StatRows") (T := TX) (N := 5) hx hb ht inX hown hK hP 0 rfl rfl 0 (by decide) (ht _ wd77) (fun _ h9 => h9) rfl dX_joinEstimate_16 ?_
  refine lv_iload_n hx hb dX_joinEstimate_19 rfl (lv_at hl 2 rfl) ?_
  refine zz_ci (v := nI (tr_off Ls pp + (Ls pp).length - tr_off Ls pp)) (W.runV (As := [.int (nI pp)]) (rest := []) ⟨hx, hb, hml, hown, ht⟩ (c_T_sizeOf l D cI cB t0 t1 t2 f g pp (tr_off Ls pp) (tr_off Ls pp + (Ls pp).length) hp (hT.1 pp (by omega)) (hT.1 (pp + 1) (by omega)) (by omega)) (cwV 1 ht (gd_V wd152 wd153 wd154 wd2 wd155) rfl rfl rfl (by decide +kernel) ⟨Nat.le_of_ble_eq_true rfl, Nat.le_of_ble_eq_true rfl⟩) (zz_R_V hN hK (hP.sub (ws' := [(t0, .inr (0, [.ref t1, .ref t2])), (t1, .inl (cI, 400, .inl f)), (t2, .inl (cI, 9, .inl g))]) [1, 2, 3] rfl) 0 0 rfl rfl) rfl rfl hl.1 rfl (lv_room (Nat.le_of_ble_eq_true rfl)) dX_joinEstimate_20 ⟨Nat.le_of_ble_eq_true rfl, Nat.le_of_ble_eq_true rfl⟩) ?_
  refine zz_top (y := nI ((Ls pp).length)) (congrArg nI (by omega)) ?_
  refine lv_i2l (v := lN ((Ls pp).length)) hx hb dX_joinEstimate_23 (nI_l (n := (Ls pp).length) (by omega)) ?_
  refine lv_aload_n hx hb dX_joinEstimate_24 rfl (lv_at hl 1 rfl) ?_
  refine va_get (D := D) (ci := 4) (v := .ref t0) (C := "StatRows") (T := TX) (N := 5) hx hb ht inX hown hK hP 0 rfl rfl 0 (by decide) (ht _ wd77) (fun _ h9 => h9) rfl dX_joinEstimate_25 ?_
  refine lv_iload_n hx hb dX_joinEstimate_28 rfl (lv_at hl 3 rfl) ?_
  refine zz_ci (v := nI (tr_off Ls qq + (Ls qq).length - tr_off Ls qq)) (W.runV (As := [.int (nI qq)]) (rest := [.long (lN ((Ls pp).length))]) ⟨hx, hb, hml, hown, ht⟩ (c_T_sizeOf l D cI cB t0 t1 t2 f g qq (tr_off Ls qq) (tr_off Ls qq + (Ls qq).length) hq (hT.1 qq (by omega)) (hT.1 (qq + 1) (by omega)) (by omega)) (cwV 1 ht (gd_V wd152 wd153 wd154 wd2 wd155) rfl rfl rfl (by decide +kernel) ⟨Nat.le_of_ble_eq_true rfl, Nat.le_of_ble_eq_true rfl⟩) (zz_R_V hN hK (hP.sub (ws' := [(t0, .inr (0, [.ref t1, .ref t2])), (t1, .inl (cI, 400, .inl f)), (t2, .inl (cI, 9, .inl g))]) [1, 2, 3] rfl) 0 0 rfl rfl) rfl rfl hl.1 rfl (lv_room (Nat.le_of_ble_eq_true rfl)) dX_joinEstimate_29 ⟨Nat.le_of_ble_eq_true rfl, Nat.le_of_ble_eq_true rfl⟩) ?_
  refine zz_top (y := nI ((Ls qq).length)) (congrArg nI (by omega)) ?_
  refine lv_i2l (v := lN ((Ls qq).length)) hx hb dX_joinEstimate_32 (nI_l (n := (Ls qq).length) (by omega)) ?_
  refine lv_lmul hx hb dX_joinEstimate_33 ?_
  refine zz_topl (y := lN (((Ls pp).length) * ((Ls qq).length))) (lN_mul ((Ls pp).length) ((Ls qq).length)) ?_
  refine lv_iload hx hb dX_joinEstimate_34 (lv_at hl 0 rfl) ?_
  refine lv_i2l (v := lN (max 1 (max d (cnt (anyk sub_ (Ls qq)) 256)))) hx hb dX_joinEstimate_36 (nI_l (n := max 1 (max d (cnt (anyk sub_ (Ls qq)) 256))) (by omega)) ?_
  refine lv_ldiv hx hb dX_joinEstimate_37 (zz_lne0 (by omega) (by omega)) ?_
  refine zz_topl (y := lN ((((Ls pp).length) * ((Ls qq).length)) / (max 1 (max d (cnt (anyk sub_ (Ls qq)) 256))))) (pk_lDiv (a := ((Ls pp).length) * ((Ls qq).length)) (b := max 1 (max d (cnt (anyk sub_ (Ls qq)) 256))) (by omega) (by omega) (by omega)) ?_
  exact zz_lretW (v := lN ((((Ls pp).length) * ((Ls qq).length)) / (max 1 (max d (cnt (anyk sub_ (Ls qq)) 256))))) (w1 := fun u : (Nat → Int32) => [(x0, .inr (4, [.ref t0, .ref p0, .ref v0, .ref g0, .ref ta])), (t0, .inr (0, [.ref t1, .ref t2])), (t1, .inl (cI, 400, .inl f)), (t2, .inl (cI, 9, .inl g)), (ta, .inl (cI, 256, .inl u))]) u4 hx hb hr hlocks (rfl) hP hK hD hS dX_joinEstimate_38

abbrev rm_X_sampledChainEstimate : Room := { frames := 3, cells := 0, slots := 0, locals := 68 }
set_option maxHeartbeats 4000000 in
set_option maxRecDepth 100000 in
theorem c_X_sampledChainEstimate (l : Launch) (D : va_G) (cI cB : ClassId) (sz : Nat) (x0 t0 t1 t2 p0 v0 g0 ta : Nat) (f g : Nat → Int32) (Ls : Nat → List Nat) (hT : RT Ls f g) (tl : Nat → Int32) (pp qq : Nat) (hp : pp < 8) (hq : qq < 8) : Met l yX_sampledChainEstimate wX_sampledChainEstimate rm_X_sampledChainEstimate (zz_P D vwCl [(cI, .int), (cB, .boolean)] [.ref x0, .int (nI pp), .int (nI qq)] [(x0, .inr (4, [.ref t0, .ref p0, .ref v0, .ref g0, .ref ta])), (t0, .inr (0, [.ref t1, .ref t2])), (t1, .inl (cI, 400, .inl f)), (t2, .inl (cI, 9, .inl g)), (ta, .inl (cI, 256, .inl tl))] sz) (va_Ql (fun (r : Int64) (u : (Nat → Int32)) => r = lN (16 * chn true obj_ (Ls pp) (Ls qq))) (fun u : (Nat → Int32) => zz_B D vwCl [(cI, .int), (cB, .boolean)] (va_A [(x0, .inr (4, [.ref t0, .ref p0, .ref v0, .ref g0, .ref ta])), (t0, .inr (0, [.ref t1, .ref t2])), (t1, .inl (cI, 400, .inl f)), (t2, .inl (cI, 9, .inl g)), (ta, .inl (cI, 256, .inl tl))] sz) [(x0, .inr (4, [.ref t0, .ref p0, .ref v0, .ref g0, .ref ta])), (t0, .inr (0, [.ref t1, .ref t2])), (t1, .inl (cI, 400, .inl f)), (t2, .inl (cI, 9, .inl g)), (ta, .inl (cI, 256, .inl u))]) (va_A [(x0, .inr (4, [.ref t0, .ref p0, .ref v0, .ref g0, .ref ta])), (t0, .inr (0, [.ref t1, .ref t2])), (t1, .inl (cI, 400, .inl f)), (t2, .inl (cI, 9, .inl g)), (ta, .inl (cI, 256, .inl tl))] sz)) 0 0 (va_A [(x0, .inr (4, [.ref t0, .ref p0, .ref v0, .ref g0, .ref ta])), (t0, .inr (0, [.ref t1, .ref t2])), (t1, .inl (cI, 400, .inl f)), (t2, .inl (cI, 9, .inl g)), (ta, .inl (cI, 256, .inl tl))] sz) := by
  refine Met.ofW (cc := cX_sampledChainEstimate) (maxL := 3) (ret := (some .long)) (by decide) rfl ?_
  intro pg ev s mt args below meth kd s₁ B hml hv
  obtain ⟨rfl, hsz, hP, hK, hD0, hN⟩ := hv
  have hx := B.exec
  have hb := B.bytes
  have hr := B.returns
  have ht : ∀ w ∈ W0, w.before _ s = true := fun w h => atoms_spec (ws := wX_sampledChainEstimate) B.pre w (List.mem_cons_of_mem _ h)
  have hown : s.vm.findClass "StatRows" = some mt.cls := findClass_of_methodNamed B.named
  have hlocks := B.notSynchronized
  subst hsz
  have hD := hD0.self (sz := s.heap.size)
  generalize hAe : va_A [(x0, .inr (4, [.ref t0, .ref p0, .ref v0, .ref g0, .ref ta])), (t0, .inr (0, [.ref t1, .ref t2])), (t1, .inl (cI, 400, .inl f)), (t2, .inl (cI, 9, .inl g)), (ta, .inl (cI, 256, .inl tl))] s.heap.size = A at hD ⊢
  have hA : ∀ q : Nat, s.heap.size ≤ q → A q := fun q h => by rw [← hAe]; exact Or.inr h
  have hS : va_S A s.heap s.heap [] := va_S.rf
  have hP : va_P D vwCl [(x0, .inr (4, [.ref t0, .ref p0, .ref v0, .ref g0, .ref ta])), (t0, .inr (0, [.ref t1, .ref t2])), (t1, .inl (cI, 400, .inl f)), (t2, .inl (cI, 9, .inl g)), (ta, .inl (cI, 256, .inl tl))] s.heap := hP
  have hl := lv_entry ([.ref x0, .int (nI pp), .int (nI qq)]) (n := 3) (Nat.le_of_ble_eq_true rfl)
  rw [lg_entry_eq]
  generalize (lg_sl ([.ref x0, .int (nI pp), .int (nI qq)]) ++ List.replicate (3 - (lg_sl ([.ref x0, .int (nI pp), .int (nI qq)])).length) Slot.unset).toArray = ls at hl ⊢
  have hl : lv_has ls 3 [(0, .ref x0), (1, .int (nI pp)), (2, .int (nI qq))] := hl
  have htp := tr_top (Ls := Ls) hp
  have h400 := hT.2.2.1
  refine lv_aload_n hx hb dX_sampledChainEstimate_0 rfl (lv_at hl 0 rfl) ?_
  refine lv_iload_n hx hb dX_sampledChainEstimate_1 rfl (lv_at hl 1 rfl) ?_
  refine lv_iconst (v := nI 1) hx hb dX_sampledChainEstimate_2 (by decide) ?_
  refine zz_wv (wc := [(x0, .inr (4, [.ref t0, .ref p0, .ref v0, .ref g0, .ref ta])), (t0, .inr (0, [.ref t1, .ref t2])), (t1, .inl (cI, 400, .inl f)), (t2, .inl (cI, 9, .inl g)), (ta, .inl (cI, 256, .inl tl))]) (wr := []) (va_runV (As := [.int (nI pp), .int (nI 1)]) (rest := []) ⟨hx, hb, hml, hown, ht⟩ (c_X_tallyObjects l D cI cB s.heap.size x0 t0 t1 t2 p0 v0 g0 ta f g Ls hT tl pp hp true) (cwV 2 ht (gd_V wd185 wd187 wp8 wd1 wd188) rfl rfl rfl (by decide +kernel) ⟨Nat.le_of_ble_eq_true rfl, Nat.le_of_ble_eq_true rfl⟩) (zz_P_V hN hK (hP.sub (ws' := [(x0, .inr (4, [.ref t0, .ref p0, .ref v0, .ref g0, .ref ta])), (t0, .inr (0, [.ref t1, .ref t2])), (t1, .inl (cI, 400, .inl f)), (t2, .inl (cI, 9, .inl g)), (ta, .inl (cI, 256, .inl tl))]) [0, 1, 2, 3, 4] rfl) (hD.sub (ws' := [(x0, .inr (4, [.ref t0, .ref p0, .ref v0, .ref g0, .ref ta])), (t0, .inr (0, [.ref t1, .ref t2])), (t1, .inl (cI, 400, .inl f)), (t2, .inl (cI, 9, .inl g)), (ta, .inl (cI, 256, .inl tl))]) [0, 1, 2, 3, 4] (by decide) rfl) 4 0 rfl rfl) rfl rfl hl.1 rfl (lv_room (Nat.le_of_ble_eq_true rfl)) dX_sampledChainEstimate_3 ⟨Nat.le_of_ble_eq_true rfl, Nat.le_of_ble_eq_true rfl⟩) hP hD hS hA [0, 1, 2, 3, 4] [] rfl rfl (by decide) (by decide) (fun u3 H locs hq3 hP hD hS => ?_)
  have hP := hP.sub (ws' := [(x0, .inr (4, [.ref t0, .ref p0, .ref v0, .ref g0, .ref ta])), (t0, .inr (0, [.ref t1, .ref t2])), (t1, .inl (cI, 400, .inl f)), (t2, .inl (cI, 9, .inl g)), (ta, .inl (cI, 256, .inl u3))]) [0, 1, 2, 3, 4] rfl
  have hD := hD.sub (ws' := [(x0, .inr (4, [.ref t0, .ref p0, .ref v0, .ref g0, .ref ta])), (t0, .inr (0, [.ref t1, .ref t2])), (t1, .inl (cI, 400, .inl f)), (t2, .inl (cI, 9, .inl g)), (ta, .inl (cI, 256, .inl u3))]) [0, 1, 2, 3, 4] (by decide) rfl
  refine lv_ldc2 (v := 16) hx hb hown (ht _ wd283) dX_sampledChainEstimate_6 ?_
  refine zz_topl (y := lN 16) (rfl) ?_
  refine lv_aload_n hx hb dX_sampledChainEstimate_9 rfl (lv_at hl 0 rfl) ?_
  refine lv_iload_n hx hb dX_sampledChainEstimate_10 rfl (lv_at hl 2 rfl) ?_
  refine lv_iconst (v := nI 1) hx hb dX_sampledChainEstimate_11 (by decide) ?_
  refine zz_cl (v := lN (chn true obj_ (Ls pp) (Ls qq))) (W.runV (As := [.int (nI qq), .int (nI 1)]) (rest := [.long (lN 16)]) ⟨hx, hb, hml, hown, ht⟩ (c_X_sumAtSubjects l D cI cB x0 t0 t1 t2 p0 v0 g0 ta f g Ls hT u3 (fun v => 0 + (Ls pp).countP (fun c => okf true c && obj_ c == v)) hq3 (fun v _ => by have := cpl (fun c => okf true c && obj_ c == v) (Ls pp); show 0 + _ < 1000; omega) qq hq true) (cwV 2 ht (gd_V wd207 wd209 wp9 wd1 wd210) rfl rfl rfl (by decide +kernel) ⟨Nat.le_of_ble_eq_true rfl, Nat.le_of_ble_eq_true rfl⟩) (zz_R_V hN hK (hP.sub (ws' := [(x0, .inr (4, [.ref t0, .ref p0, .ref v0, .ref g0, .ref ta])), (t0, .inr (0, [.ref t1, .ref t2])), (t1, .inl (cI, 400, .inl f)), (t2, .inl (cI, 9, .inl g)), (ta, .inl (cI, 256, .inl u3))]) [0, 1, 2, 3, 4] rfl) 4 0 rfl rfl) rfl rfl hl.1 rfl (lv_room (Nat.le_of_ble_eq_true rfl)) dX_sampledChainEstimate_12 ⟨Nat.le_of_ble_eq_true rfl, Nat.le_of_ble_eq_true rfl⟩) ?_
  refine lv_lmul hx hb dX_sampledChainEstimate_15 ?_
  refine zz_topl (y := lN (16 * (chn true obj_ (Ls pp) (Ls qq)))) (lN_mul 16 (chn true obj_ (Ls pp) (Ls qq))) ?_
  exact zz_lretW (v := lN (16 * (chn true obj_ (Ls pp) (Ls qq)))) (w1 := fun u : (Nat → Int32) => [(x0, .inr (4, [.ref t0, .ref p0, .ref v0, .ref g0, .ref ta])), (t0, .inr (0, [.ref t1, .ref t2])), (t1, .inl (cI, 400, .inl f)), (t2, .inl (cI, 9, .inl g)), (ta, .inl (cI, 256, .inl u))]) u3 hx hb hr hlocks (rfl) hP hK hD hS dX_sampledChainEstimate_16

abbrev rm_X_chain : Room := { frames := 3, cells := 0, slots := 0, locals := 68 }
set_option maxHeartbeats 4000000 in
set_option maxRecDepth 100000 in
theorem c_X_chain (l : Launch) (D : va_G) (cI cB : ClassId) (sz : Nat) (x0 t0 t1 t2 p0 v0 g0 ta : Nat) (f g : Nat → Int32) (Ls : Nat → List Nat) (hT : RT Ls f g) (tl : Nat → Int32) (p1 p2 : Int32) : Met l yX_chain wX_chain rm_X_chain (zz_P D vwCl [(cI, .int), (cB, .boolean)] [.ref x0, .int p1, .int p2] [(x0, .inr (4, [.ref t0, .ref p0, .ref v0, .ref g0, .ref ta])), (t0, .inr (0, [.ref t1, .ref t2])), (t1, .inl (cI, 400, .inl f)), (t2, .inl (cI, 9, .inl g)), (ta, .inl (cI, 256, .inl tl))] sz) (va_Ql (fun (r : Int64) (u : (Nat → Int32)) => ((inr_ 8 p1 && inr_ 8 p2) = false ∧ r = -1) ∨ ∃ pp qq, pp < 8 ∧ qq < 8 ∧ p1 = nI pp ∧ p2 = nI qq ∧ r = lN (chn false obj_ (Ls pp) (Ls qq))) (fun u : (Nat → Int32) => zz_B D vwCl [(cI, .int), (cB, .boolean)] (va_A [(x0, .inr (4, [.ref t0, .ref p0, .ref v0, .ref g0, .ref ta])), (t0, .inr (0, [.ref t1, .ref t2])), (t1, .inl (cI, 400, .inl f)), (t2, .inl (cI, 9, .inl g)), (ta, .inl (cI, 256, .inl tl))] sz) [(x0, .inr (4, [.ref t0, .ref p0, .ref v0, .ref g0, .ref ta])), (t0, .inr (0, [.ref t1, .ref t2])), (t1, .inl (cI, 400, .inl f)), (t2, .inl (cI, 9, .inl g)), (ta, .inl (cI, 256, .inl u))]) (va_A [(x0, .inr (4, [.ref t0, .ref p0, .ref v0, .ref g0, .ref ta])), (t0, .inr (0, [.ref t1, .ref t2])), (t1, .inl (cI, 400, .inl f)), (t2, .inl (cI, 9, .inl g)), (ta, .inl (cI, 256, .inl tl))] sz)) 0 0 (va_A [(x0, .inr (4, [.ref t0, .ref p0, .ref v0, .ref g0, .ref ta])), (t0, .inr (0, [.ref t1, .ref t2])), (t1, .inl (cI, 400, .inl f)), (t2, .inl (cI, 9, .inl g)), (ta, .inl (cI, 256, .inl tl))] sz) := by
  refine Met.ofW (cc := cX_chain) (maxL := 3) (ret := (some .long)) (by decide) rfl ?_
  intro pg ev s mt args below meth kd s₁ B hml hv
  obtain ⟨rfl, hsz, hP, hK, hD0, hN⟩ := hv
  have hx := B.exec
  have hb := B.bytes
  have hr := B.returns
  have ht : ∀ w ∈ W0, w.before _ s = true := fun w h => atoms_spec (ws := wX_chain) B.pre w (List.mem_cons_of_mem _ h)
  have hown : s.vm.findClass "StatRows" = some mt.cls := findClass_of_methodNamed B.named
  have hlocks := B.notSynchronized
  subst hsz
  have hD := hD0.self (sz := s.heap.size)
  generalize hAe : va_A [(x0, .inr (4, [.ref t0, .ref p0, .ref v0, .ref g0, .ref ta])), (t0, .inr (0, [.ref t1, .ref t2])), (t1, .inl (cI, 400, .inl f)), (t2, .inl (cI, 9, .inl g)), (ta, .inl (cI, 256, .inl tl))] s.heap.size = A at hD ⊢
  have hA : ∀ q : Nat, s.heap.size ≤ q → A q := fun q h => by rw [← hAe]; exact Or.inr h
  have hS : va_S A s.heap s.heap [] := va_S.rf
  have hP : va_P D vwCl [(x0, .inr (4, [.ref t0, .ref p0, .ref v0, .ref g0, .ref ta])), (t0, .inr (0, [.ref t1, .ref t2])), (t1, .inl (cI, 400, .inl f)), (t2, .inl (cI, 9, .inl g)), (ta, .inl (cI, 256, .inl tl))] s.heap := hP
  have hl := lv_entry ([.ref x0, .int p1, .int p2]) (n := 3) (Nat.le_of_ble_eq_true rfl)
  rw [lg_entry_eq]
  generalize (lg_sl ([.ref x0, .int p1, .int p2]) ++ List.replicate (3 - (lg_sl ([.ref x0, .int p1, .int p2])).length) Slot.unset).toArray = ls at hl ⊢
  have hl : lv_has ls 3 [(0, .ref x0), (1, .int p1), (2, .int p2)] := hl
  have h400 := hT.2.2.1
  have bl0 := btl (inr_ 8 p1)
  have bl1 := btl (inr_ 8 p2)
  refine lv_iload_n hx hb dX_chain_0 rfl (lv_at hl 1 rfl) ?_
  refine zz_ci (v := nI ((inr_ 8 p1).toNat)) (W.runS (As := [.int p1]) (rest := []) ⟨hx, hb, hml, hown, ht⟩ (c_X_isPredicate l p1) (va_cwS 1 ht (gd_S wd103 wd104 wd1 wd105) rfl rfl rfl (by decide +kernel) ⟨Nat.le_of_ble_eq_true rfl, Nat.le_of_ble_eq_true rfl⟩) zz_N_S rfl rfl hl.1 rfl (lv_room (Nat.le_of_ble_eq_true rfl)) dX_chain_1 ⟨Nat.le_of_ble_eq_true rfl, Nat.le_of_ble_eq_true rfl⟩) ?_
  refine lv_if_eq (tgt := 14) hx hb dX_chain_4 (by decide) (fun c4 => ?_) (fun c4 => ?_)
  · -- taken
    have c4 : (inr_ 8 p1).toNat = 0 := (nI_eq (a := (inr_ 8 p1).toNat) (b := 0) (by omega) (by omega)).mp c4
    have hbb : (inr_ 8 p1 && inr_ 8 p2) = false := by rw [bt0 c4]; rfl
    refine lv_ldc2 (v := (-1)) hx hb hown (ht _ wd206) dX_chain_14 ?_
    exact zz_lretW (v := (-1)) (w1 := fun u : (Nat → Int32) => [(x0, .inr (4, [.ref t0, .ref p0, .ref v0, .ref g0, .ref ta])), (t0, .inr (0, [.ref t1, .ref t2])), (t1, .inl (cI, 400, .inl f)), (t2, .inl (cI, 9, .inl g)), (ta, .inl (cI, 256, .inl u))]) tl hx hb hr hlocks (Or.inl ⟨hbb, rfl⟩) hP hK hD hS dX_chain_17
  · -- not taken
    have c4 : ¬ ((inr_ 8 p1).toNat = 0) := fun h => c4 ((nI_eq (a := (inr_ 8 p1).toNat) (b := 0) (by omega) (by omega)).mpr h)
    have hb1 : inr_ 8 p1 = true := bt1 c4
    refine lv_iload_n hx hb dX_chain_7 rfl (lv_at hl 2 rfl) ?_
    refine zz_ci (v := nI ((inr_ 8 p2).toNat)) (W.runS (As := [.int p2]) (rest := []) ⟨hx, hb, hml, hown, ht⟩ (c_X_isPredicate l p2) (va_cwS 1 ht (gd_S wd103 wd104 wd1 wd105) rfl rfl rfl (by decide +kernel) ⟨Nat.le_of_ble_eq_true rfl, Nat.le_of_ble_eq_true rfl⟩) zz_N_S rfl rfl hl.1 rfl (lv_room (Nat.le_of_ble_eq_true rfl)) dX_chain_8 ⟨Nat.le_of_ble_eq_true rfl, Nat.le_of_ble_eq_true rfl⟩) ?_
    refine lv_if_ne (tgt := 18) hx hb dX_chain_11 (by decide) (fun c11 => ?_) (fun c11 => ?_)
    · -- taken
      have c11 : ¬ ((inr_ 8 p2).toNat = 0) := fun h => c11 ((nI_eq (a := (inr_ 8 p2).toNat) (b := 0) (by omega) (by omega)).mpr h)
      have hb2 : inr_ 8 p2 = true := bt1 c11
      obtain ⟨pp, hpp, epp⟩ := inr_t (by decide) hb1
      rw [epp] at hl
      obtain ⟨qq, hqq, eqq⟩ := inr_t (by decide) hb2
      rw [eqq] at hl
      have htp := tr_top (Ls := Ls) hpp
      refine lv_aload_n hx hb dX_chain_18 rfl (lv_at hl 0 rfl) ?_
      refine lv_iload_n hx hb dX_chain_19 rfl (lv_at hl 1 rfl) ?_
      refine lv_iconst (v := nI 0) hx hb dX_chain_20 (by decide) ?_
      refine zz_wv (wc := [(x0, .inr (4, [.ref t0, .ref p0, .ref v0, .ref g0, .ref ta])), (t0, .inr (0, [.ref t1, .ref t2])), (t1, .inl (cI, 400, .inl f)), (t2, .inl (cI, 9, .inl g)), (ta, .inl (cI, 256, .inl tl))]) (wr := []) (va_runV (As := [.int (nI pp), .int (nI 0)]) (rest := []) ⟨hx, hb, hml, hown, ht⟩ (c_X_tallyObjects l D cI cB s.heap.size x0 t0 t1 t2 p0 v0 g0 ta f g Ls hT tl pp hpp false) (cwV 2 ht (gd_V wd185 wd187 wp8 wd1 wd188) rfl rfl rfl (by decide +kernel) ⟨Nat.le_of_ble_eq_true rfl, Nat.le_of_ble_eq_true rfl⟩) (zz_P_V hN hK (hP.sub (ws' := [(x0, .inr (4, [.ref t0, .ref p0, .ref v0, .ref g0, .ref ta])), (t0, .inr (0, [.ref t1, .ref t2])), (t1, .inl (cI, 400, .inl f)), (t2, .inl (cI, 9, .inl g)), (ta, .inl (cI, 256, .inl tl))]) [0, 1, 2, 3, 4] rfl) (hD.sub (ws' := [(x0, .inr (4, [.ref t0, .ref p0, .ref v0, .ref g0, .ref ta])), (t0, .inr (0, [.ref t1, .ref t2])), (t1, .inl (cI, 400, .inl f)), (t2, .inl (cI, 9, .inl g)), (ta, .inl (cI, 256, .inl tl))]) [0, 1, 2, 3, 4] (by decide) rfl) 4 0 rfl rfl) rfl rfl hl.1 rfl (lv_room (Nat.le_of_ble_eq_true rfl)) dX_chain_21 ⟨Nat.le_of_ble_eq_true rfl, Nat.le_of_ble_eq_true rfl⟩) hP hD hS hA [0, 1, 2, 3, 4] [] rfl rfl (by decide) (by decide) (fun u21 H locs hq21 hP hD hS => ?_)
      have hP := hP.sub (ws' := [(x0, .inr (4, [.ref t0, .ref p0, .ref v0, .ref g0, .ref ta])), (t0, .inr (0, [.ref t1, .ref t2])), (t1, .inl (cI, 400, .inl f)), (t2, .inl (cI, 9, .inl g)), (ta, .inl (cI, 256, .inl u21))]) [0, 1, 2, 3, 4] rfl
      have hD := hD.sub (ws' := [(x0, .inr (4, [.ref t0, .ref p0, .ref v0, .ref g0, .ref ta])), (t0, .inr (0, [.ref t1, .ref t2])), (t1, .inl (cI, 400, .inl f)), (t2, .inl (cI, 9, .inl g)), (ta, .inl (cI, 256, .inl u21))]) [0, 1, 2, 3, 4] (by decide) rfl
      refine lv_aload_n hx hb dX_chain_24 rfl (lv_at hl 0 rfl) ?_
      refine lv_iload_n hx hb dX_chain_25 rfl (lv_at hl 2 rfl) ?_
      refine lv_iconst (v := nI 0) hx hb dX_chain_26 (by decide) ?_
      refine zz_cl (v := lN (chn false obj_ (Ls pp) (Ls qq))) (W.runV (As := [.int (nI qq), .int (nI 0)]) (rest := []) ⟨hx, hb, hml, hown, ht⟩ (c_X_sumAtSubjects l D cI cB x0 t0 t1 t2 p0 v0 g0 ta f g Ls hT u21 (fun v => 0 + (Ls pp).countP (fun c => okf false c && obj_ c == v)) hq21 (fun v _ => by have := cpl (fun c => okf false c && obj_ c == v) (Ls pp); show 0 + _ < 1000; omega) qq hqq false) (cwV 2 ht (gd_V wd207 wd209 wp9 wd1 wd210) rfl rfl rfl (by decide +kernel) ⟨Nat.le_of_ble_eq_true rfl, Nat.le_of_ble_eq_true rfl⟩) (zz_R_V hN hK (hP.sub (ws' := [(x0, .inr (4, [.ref t0, .ref p0, .ref v0, .ref g0, .ref ta])), (t0, .inr (0, [.ref t1, .ref t2])), (t1, .inl (cI, 400, .inl f)), (t2, .inl (cI, 9, .inl g)), (ta, .inl (cI, 256, .inl u21))]) [0, 1, 2, 3, 4] rfl) 4 0 rfl rfl) rfl rfl hl.1 rfl (lv_room (Nat.le_of_ble_eq_true rfl)) dX_chain_27 ⟨Nat.le_of_ble_eq_true rfl, Nat.le_of_ble_eq_true rfl⟩) ?_
      exact zz_lretW (v := lN (chn false obj_ (Ls pp) (Ls qq))) (w1 := fun u : (Nat → Int32) => [(x0, .inr (4, [.ref t0, .ref p0, .ref v0, .ref g0, .ref ta])), (t0, .inr (0, [.ref t1, .ref t2])), (t1, .inl (cI, 400, .inl f)), (t2, .inl (cI, 9, .inl g)), (ta, .inl (cI, 256, .inl u))]) u21 hx hb hr hlocks (Or.inr ⟨pp, qq, hpp, hqq, epp, eqq, rfl⟩) hP hK hD hS dX_chain_30
    · -- not taken
      have c11 : (inr_ 8 p2).toNat = 0 := (nI_eq (a := (inr_ 8 p2).toNat) (b := 0) (by omega) (by omega)).mp c11
      have hbb : (inr_ 8 p1 && inr_ 8 p2) = false := by rw [hb1, bt0 (b := inr_ 8 p2) (by omega)]; rfl
      refine lv_ldc2 (v := (-1)) hx hb hown (ht _ wd206) dX_chain_14 ?_
      exact zz_lretW (v := (-1)) (w1 := fun u : (Nat → Int32) => [(x0, .inr (4, [.ref t0, .ref p0, .ref v0, .ref g0, .ref ta])), (t0, .inr (0, [.ref t1, .ref t2])), (t1, .inl (cI, 400, .inl f)), (t2, .inl (cI, 9, .inl g)), (ta, .inl (cI, 256, .inl u))]) tl hx hb hr hlocks (Or.inl ⟨hbb, rfl⟩) hP hK hD hS dX_chain_17

abbrev rm_X_star : Room := { frames := 3, cells := 0, slots := 0, locals := 68 }
set_option maxHeartbeats 4000000 in
set_option maxRecDepth 100000 in
theorem c_X_star (l : Launch) (D : va_G) (cI cB : ClassId) (sz : Nat) (x0 t0 t1 t2 p0 v0 g0 ta : Nat) (f g : Nat → Int32) (Ls : Nat → List Nat) (hT : RT Ls f g) (tl : Nat → Int32) (p1 p2 : Int32) : Met l yX_star wX_star rm_X_star (zz_P D vwCl [(cI, .int), (cB, .boolean)] [.ref x0, .int p1, .int p2] [(x0, .inr (4, [.ref t0, .ref p0, .ref v0, .ref g0, .ref ta])), (t0, .inr (0, [.ref t1, .ref t2])), (t1, .inl (cI, 400, .inl f)), (t2, .inl (cI, 9, .inl g)), (ta, .inl (cI, 256, .inl tl))] sz) (va_Ql (fun (r : Int64) (u : (Nat → Int32)) => ((inr_ 8 p1 && inr_ 8 p2) = false ∧ r = -1) ∨ ∃ pp qq, pp < 8 ∧ qq < 8 ∧ p1 = nI pp ∧ p2 = nI qq ∧ r = lN (chn false sub_ (Ls pp) (Ls qq))) (fun u : (Nat → Int32) => zz_B D vwCl [(cI, .int), (cB, .boolean)] (va_A [(x0, .inr (4, [.ref t0, .ref p0, .ref v0, .ref g0, .ref ta])), (t0, .inr (0, [.ref t1, .ref t2])), (t1, .inl (cI, 400, .inl f)), (t2, .inl (cI, 9, .inl g)), (ta, .inl (cI, 256, .inl tl))] sz) [(x0, .inr (4, [.ref t0, .ref p0, .ref v0, .ref g0, .ref ta])), (t0, .inr (0, [.ref t1, .ref t2])), (t1, .inl (cI, 400, .inl f)), (t2, .inl (cI, 9, .inl g)), (ta, .inl (cI, 256, .inl u))]) (va_A [(x0, .inr (4, [.ref t0, .ref p0, .ref v0, .ref g0, .ref ta])), (t0, .inr (0, [.ref t1, .ref t2])), (t1, .inl (cI, 400, .inl f)), (t2, .inl (cI, 9, .inl g)), (ta, .inl (cI, 256, .inl tl))] sz)) 0 0 (va_A [(x0, .inr (4, [.ref t0, .ref p0, .ref v0, .ref g0, .ref ta])), (t0, .inr (0, [.ref t1, .ref t2])), (t1, .inl (cI, 400, .inl f)), (t2, .inl (cI, 9, .inl g)), (ta, .inl (cI, 256, .inl tl))] sz) := by
  refine Met.ofW (cc := cX_star) (maxL := 3) (ret := (some .long)) (by decide) rfl ?_
  intro pg ev s mt args below meth kd s₁ B hml hv
  obtain ⟨rfl, hsz, hP, hK, hD0, hN⟩ := hv
  have hx := B.exec
  have hb := B.bytes
  have hr := B.returns
  have ht : ∀ w ∈ W0, w.before _ s = true := fun w h => atoms_spec (ws := wX_star) B.pre w (List.mem_cons_of_mem _ h)
  have hown : s.vm.findClass "StatRows" = some mt.cls := findClass_of_methodNamed B.named
  have hlocks := B.notSynchronized
  subst hsz
  have hD := hD0.self (sz := s.heap.size)
  generalize hAe : va_A [(x0, .inr (4, [.ref t0, .ref p0, .ref v0, .ref g0, .ref ta])), (t0, .inr (0, [.ref t1, .ref t2])), (t1, .inl (cI, 400, .inl f)), (t2, .inl (cI, 9, .inl g)), (ta, .inl (cI, 256, .inl tl))] s.heap.size = A at hD ⊢
  have hA : ∀ q : Nat, s.heap.size ≤ q → A q := fun q h => by rw [← hAe]; exact Or.inr h
  have hS : va_S A s.heap s.heap [] := va_S.rf
  have hP : va_P D vwCl [(x0, .inr (4, [.ref t0, .ref p0, .ref v0, .ref g0, .ref ta])), (t0, .inr (0, [.ref t1, .ref t2])), (t1, .inl (cI, 400, .inl f)), (t2, .inl (cI, 9, .inl g)), (ta, .inl (cI, 256, .inl tl))] s.heap := hP
  have hl := lv_entry ([.ref x0, .int p1, .int p2]) (n := 3) (Nat.le_of_ble_eq_true rfl)
  rw [lg_entry_eq]
  generalize (lg_sl ([.ref x0, .int p1, .int p2]) ++ List.replicate (3 - (lg_sl ([.ref x0, .int p1, .int p2])).length) Slot.unset).toArray = ls at hl ⊢
  have hl : lv_has ls 3 [(0, .ref x0), (1, .int p1), (2, .int p2)] := hl
  have h400 := hT.2.2.1
  have bl0 := btl (inr_ 8 p1)
  have bl1 := btl (inr_ 8 p2)
  refine lv_iload_n hx hb dX_star_0 rfl (lv_at hl 1 rfl) ?_
  refine zz_ci (v := nI ((inr_ 8 p1).toNat)) (W.runS (As := [.int p1]) (rest := []) ⟨hx, hb, hml, hown, ht⟩ (c_X_isPredicate l p1) (va_cwS 1 ht (gd_S wd103 wd104 wd1 wd105) rfl rfl rfl (by decide +kernel) ⟨Nat.le_of_ble_eq_true rfl, Nat.le_of_ble_eq_true rfl⟩) zz_N_S rfl rfl hl.1 rfl (lv_room (Nat.le_of_ble_eq_true rfl)) dX_star_1 ⟨Nat.le_of_ble_eq_true rfl, Nat.le_of_ble_eq_true rfl⟩) ?_
  refine lv_if_eq (tgt := 14) hx hb dX_star_4 (by decide) (fun c4 => ?_) (fun c4 => ?_)
  · -- taken
    have c4 : (inr_ 8 p1).toNat = 0 := (nI_eq (a := (inr_ 8 p1).toNat) (b := 0) (by omega) (by omega)).mp c4
    have hbb : (inr_ 8 p1 && inr_ 8 p2) = false := by rw [bt0 c4]; rfl
    refine lv_ldc2 (v := (-1)) hx hb hown (ht _ wd206) dX_star_14 ?_
    exact zz_lretW (v := (-1)) (w1 := fun u : (Nat → Int32) => [(x0, .inr (4, [.ref t0, .ref p0, .ref v0, .ref g0, .ref ta])), (t0, .inr (0, [.ref t1, .ref t2])), (t1, .inl (cI, 400, .inl f)), (t2, .inl (cI, 9, .inl g)), (ta, .inl (cI, 256, .inl u))]) tl hx hb hr hlocks (Or.inl ⟨hbb, rfl⟩) hP hK hD hS dX_star_17
  · -- not taken
    have c4 : ¬ ((inr_ 8 p1).toNat = 0) := fun h => c4 ((nI_eq (a := (inr_ 8 p1).toNat) (b := 0) (by omega) (by omega)).mpr h)
    have hb1 : inr_ 8 p1 = true := bt1 c4
    refine lv_iload_n hx hb dX_star_7 rfl (lv_at hl 2 rfl) ?_
    refine zz_ci (v := nI ((inr_ 8 p2).toNat)) (W.runS (As := [.int p2]) (rest := []) ⟨hx, hb, hml, hown, ht⟩ (c_X_isPredicate l p2) (va_cwS 1 ht (gd_S wd103 wd104 wd1 wd105) rfl rfl rfl (by decide +kernel) ⟨Nat.le_of_ble_eq_true rfl, Nat.le_of_ble_eq_true rfl⟩) zz_N_S rfl rfl hl.1 rfl (lv_room (Nat.le_of_ble_eq_true rfl)) dX_star_8 ⟨Nat.le_of_ble_eq_true rfl, Nat.le_of_ble_eq_true rfl⟩) ?_
    refine lv_if_ne (tgt := 18) hx hb dX_star_11 (by decide) (fun c11 => ?_) (fun c11 => ?_)
    · -- taken
      have c11 : ¬ ((inr_ 8 p2).toNat = 0) := fun h => c11 ((nI_eq (a := (inr_ 8 p2).toNat) (b := 0) (by omega) (by omega)).mpr h)
      have hb2 : inr_ 8 p2 = true := bt1 c11
      obtain ⟨pp, hpp, epp⟩ := inr_t (by decide) hb1
      rw [epp] at hl
      obtain ⟨qq, hqq, eqq⟩ := inr_t (by decide) hb2
      rw [eqq] at hl
      have htp := tr_top (Ls := Ls) hpp
      refine lv_aload_n hx hb dX_star_18 rfl (lv_at hl 0 rfl) ?_
      refine zz_wv (wc := [(x0, .inr (4, [.ref t0, .ref p0, .ref v0, .ref g0, .ref ta])), (ta, .inl (cI, 256, .inl tl))]) (wr := [(t0, .inr (0, [.ref t1, .ref t2])), (t1, .inl (cI, 400, .inl f)), (t2, .inl (cI, 9, .inl g))]) (va_runV (As := []) (rest := []) ⟨hx, hb, hml, hown, ht⟩ (c_X_clearTally l D cI cB s.heap.size x0 t0 t1 t2 p0 v0 g0 ta tl) (cwV 0 ht (gd_V wd160 wd162 wp4 wd1 wd163) rfl rfl rfl (by decide +kernel) ⟨Nat.le_of_ble_eq_true rfl, Nat.le_of_ble_eq_true rfl⟩) (zz_P_V hN hK (hP.sub (ws' := [(x0, .inr (4, [.ref t0, .ref p0, .ref v0, .ref g0, .ref ta])), (ta, .inl (cI, 256, .inl tl))]) [0, 4] rfl) (hD.sub (ws' := [(x0, .inr (4, [.ref t0, .ref p0, .ref v0, .ref g0, .ref ta])), (ta, .inl (cI, 256, .inl tl))]) [0, 4] (by decide) rfl) 4 0 rfl rfl) rfl rfl hl.1 rfl (lv_room (Nat.le_of_ble_eq_true rfl)) dX_star_19 ⟨Nat.le_of_ble_eq_true rfl, Nat.le_of_ble_eq_true rfl⟩) hP hD hS hA [0, 4] [1, 2, 3] rfl rfl (by decide) (by decide) (fun u19 H locs hq19 hP hD hS => ?_)
      have hP := hP.sub (ws' := [(x0, .inr (4, [.ref t0, .ref p0, .ref v0, .ref g0, .ref ta])), (t0, .inr (0, [.ref t1, .ref t2])), (t1, .inl (cI, 400, .inl f)), (t2, .inl (cI, 9, .inl g)), (ta, .inl (cI, 256, .inl u19))]) [3, 0, 1, 2, 4] rfl
      have hD := hD.sub (ws' := [(x0, .inr (4, [.ref t0, .ref p0, .ref v0, .ref g0, .ref ta])), (t0, .inr (0, [.ref t1, .ref t2])), (t1, .inl (cI, 400, .inl f)), (t2, .inl (cI, 9, .inl g)), (ta, .inl (cI, 256, .inl u19))]) [3, 0, 1, 2, 4] (by decide) rfl
      refine lv_aload_n hx hb dX_star_22 rfl (lv_at hl 0 rfl) ?_
      refine lv_iload_n hx hb dX_star_23 rfl (lv_at hl 1 rfl) ?_
      refine zz_wv (wc := [(x0, .inr (4, [.ref t0, .ref p0, .ref v0, .ref g0, .ref ta])), (t0, .inr (0, [.ref t1, .ref t2])), (t1, .inl (cI, 400, .inl f)), (t2, .inl (cI, 9, .inl g)), (ta, .inl (cI, 256, .inl u19))]) (wr := []) (va_runV (As := [.int (nI pp)]) (rest := []) ⟨hx, hb, hml, hown, ht⟩ (c_X_tallySubjects l D cI cB H.size x0 t0 t1 t2 p0 v0 g0 ta f g Ls hT u19 (fun _ => 0) hq19 pp hpp) (cwV 1 ht (gd_V wd167 wd169 wp5 wd1 wd170) rfl rfl rfl (by decide +kernel) ⟨Nat.le_of_ble_eq_true rfl, Nat.le_of_ble_eq_true rfl⟩) (zz_P_V hN hK (hP.sub (ws' := [(x0, .inr (4, [.ref t0, .ref p0, .ref v0, .ref g0, .ref ta])), (t0, .inr (0, [.ref t1, .ref t2])), (t1, .inl (cI, 400, .inl f)), (t2, .inl (cI, 9, .inl g)), (ta, .inl (cI, 256, .inl u19))]) [0, 1, 2, 3, 4] rfl) (hD.sub (ws' := [(x0, .inr (4, [.ref t0, .ref p0, .ref v0, .ref g0, .ref ta])), (t0, .inr (0, [.ref t1, .ref t2])), (t1, .inl (cI, 400, .inl f)), (t2, .inl (cI, 9, .inl g)), (ta, .inl (cI, 256, .inl u19))]) [0, 1, 2, 3, 4] (by decide) rfl) 4 0 rfl rfl) rfl rfl hl.1 rfl (lv_room (Nat.le_of_ble_eq_true rfl)) dX_star_24 ⟨Nat.le_of_ble_eq_true rfl, Nat.le_of_ble_eq_true rfl⟩) hP hD hS hA [0, 1, 2, 3, 4] [] rfl rfl (by decide) (by decide) (fun u24 H locs hq24 hP hD hS => ?_)
      have hP := hP.sub (ws' := [(x0, .inr (4, [.ref t0, .ref p0, .ref v0, .ref g0, .ref ta])), (t0, .inr (0, [.ref t1, .ref t2])), (t1, .inl (cI, 400, .inl f)), (t2, .inl (cI, 9, .inl g)), (ta, .inl (cI, 256, .inl u24))]) [0, 1, 2, 3, 4] rfl
      have hD := hD.sub (ws' := [(x0, .inr (4, [.ref t0, .ref p0, .ref v0, .ref g0, .ref ta])), (t0, .inr (0, [.ref t1, .ref t2])), (t1, .inl (cI, 400, .inl f)), (t2, .inl (cI, 9, .inl g)), (ta, .inl (cI, 256, .inl u24))]) [0, 1, 2, 3, 4] (by decide) rfl
      refine lv_aload_n hx hb dX_star_27 rfl (lv_at hl 0 rfl) ?_
      refine lv_iload_n hx hb dX_star_28 rfl (lv_at hl 2 rfl) ?_
      refine lv_iconst (v := nI 0) hx hb dX_star_29 (by decide) ?_
      refine zz_cl (v := lN (chn false sub_ (Ls pp) (Ls qq))) (W.runV (As := [.int (nI qq), .int (nI 0)]) (rest := []) ⟨hx, hb, hml, hown, ht⟩ (c_X_sumAtSubjects l D cI cB x0 t0 t1 t2 p0 v0 g0 ta f g Ls hT u24 (fun v => 0 + (Ls pp).countP (fun c => sub_ c == v)) hq24 (fun v _ => by have := cpl (fun c => sub_ c == v) (Ls pp); show 0 + _ < 1000; omega) qq hqq false) (cwV 2 ht (gd_V wd207 wd209 wp9 wd1 wd210) rfl rfl rfl (by decide +kernel) ⟨Nat.le_of_ble_eq_true rfl, Nat.le_of_ble_eq_true rfl⟩) (zz_R_V hN hK (hP.sub (ws' := [(x0, .inr (4, [.ref t0, .ref p0, .ref v0, .ref g0, .ref ta])), (t0, .inr (0, [.ref t1, .ref t2])), (t1, .inl (cI, 400, .inl f)), (t2, .inl (cI, 9, .inl g)), (ta, .inl (cI, 256, .inl u24))]) [0, 1, 2, 3, 4] rfl) 4 0 rfl rfl) rfl rfl hl.1 rfl (lv_room (Nat.le_of_ble_eq_true rfl)) dX_star_30 ⟨Nat.le_of_ble_eq_true rfl, Nat.le_of_ble_eq_true rfl⟩) ?_
      exact zz_lretW (v := lN (chn false sub_ (Ls pp) (Ls qq))) (w1 := fun u : (Nat → Int32) => [(x0, .inr (4, [.ref t0, .ref p0, .ref v0, .ref g0, .ref ta])), (t0, .inr (0, [.ref t1, .ref t2])), (t1, .inl (cI, 400, .inl f)), (t2, .inl (cI, 9, .inl g)), (ta, .inl (cI, 256, .inl u))]) u24 hx hb hr hlocks (Or.inr ⟨pp, qq, hpp, hqq, epp, eqq, rfl⟩) hP hK hD hS dX_star_33
    · -- not taken
      have c11 : (inr_ 8 p2).toNat = 0 := (nI_eq (a := (inr_ 8 p2).toNat) (b := 0) (by omega) (by omega)).mp c11
      have hbb : (inr_ 8 p1 && inr_ 8 p2) = false := by rw [hb1, bt0 (b := inr_ 8 p2) (by omega)]; rfl
      refine lv_ldc2 (v := (-1)) hx hb hown (ht _ wd206) dX_star_14 ?_
      exact zz_lretW (v := (-1)) (w1 := fun u : (Nat → Int32) => [(x0, .inr (4, [.ref t0, .ref p0, .ref v0, .ref g0, .ref ta])), (t0, .inr (0, [.ref t1, .ref t2])), (t1, .inl (cI, 400, .inl f)), (t2, .inl (cI, 9, .inl g)), (ta, .inl (cI, 256, .inl u))]) tl hx hb hr hlocks (Or.inl ⟨hbb, rfl⟩) hP hK hD hS dX_star_17

abbrev rm_X_bucket : Room := { frames := 2, cells := 0, slots := 0, locals := 48 }
set_option maxHeartbeats 4000000 in
set_option maxRecDepth 100000 in
theorem c_X_bucket (l : Launch) (D : va_G) (cI cB : ClassId) (x0 t0 t1 t2 p0 v0 g0 ta : Nat) (f g : Nat → Int32) (Ls : Nat → List Nat) (hT : RT Ls f g) (p1 fr to : Int32) : Met l yX_bucket wX_bucket rm_X_bucket (zz_R D vwCl [(cI, .int), (cB, .boolean)] [.ref x0, .int p1, .int fr, .int to] [(x0, .inr (4, [.ref t0, .ref p0, .ref v0, .ref g0, .ref ta])), (t0, .inr (0, [.ref t1, .ref t2])), (t1, .inl (cI, 400, .inl f)), (t2, .inl (cI, 9, .inl g))]) (vp_Si (fun r : Int32 => (inr_ 8 p1 = false ∧ r = -1) ∨ ∃ pp, pp < 8 ∧ p1 = nI pp ∧ r = nI ((Ls pp).countP (fun c => btw fr to (obj_ c))))) 0 0 (fun _ => False) := by
  refine Met.ofW (cc := cX_bucket) (maxL := 4) (ret := (some .int)) (by decide) rfl ?_
  intro pg ev s mt args below meth kd s₁ B hml hv
  obtain ⟨rfl, hP, hK, hN⟩ := hv
  have hx := B.exec
  have hb := B.bytes
  have hr := B.returns
  have ht : ∀ w ∈ W0, w.before _ s = true := fun w h => atoms_spec (ws := wX_bucket) B.pre w (List.mem_cons_of_mem _ h)
  have hown : s.vm.findClass "StatRows" = some mt.cls := findClass_of_methodNamed B.named
  have hlocks := B.notSynchronized
  have hl := lv_entry ([.ref x0, .int p1, .int fr, .int to]) (n := 4) (Nat.le_of_ble_eq_true rfl)
  rw [lg_entry_eq]
  generalize (lg_sl ([.ref x0, .int p1, .int fr, .int to]) ++ List.replicate (4 - (lg_sl ([.ref x0, .int p1, .int fr, .int to])).length) Slot.unset).toArray = ls at hl ⊢
  have hl : lv_has ls 4 [(0, .ref x0), (1, .int p1), (2, .int fr), (3, .int to)] := hl
  have h400 := hT.2.2.1
  have bl0 := btl (inr_ 8 p1)
  refine lv_iload_n hx hb dX_bucket_0 rfl (lv_at hl 1 rfl) ?_
  refine zz_ci (v := nI ((inr_ 8 p1).toNat)) (W.runS (As := [.int p1]) (rest := []) ⟨hx, hb, hml, hown, ht⟩ (c_X_isPredicate l p1) (va_cwS 1 ht (gd_S wd103 wd104 wd1 wd105) rfl rfl rfl (by decide +kernel) ⟨Nat.le_of_ble_eq_true rfl, Nat.le_of_ble_eq_true rfl⟩) zz_N_S rfl rfl hl.1 rfl (lv_room (Nat.le_of_ble_eq_true rfl)) dX_bucket_1 ⟨Nat.le_of_ble_eq_true rfl, Nat.le_of_ble_eq_true rfl⟩) ?_
  refine lv_if_ne (tgt := 9) hx hb dX_bucket_4 (by decide) (fun c4 => ?_) (fun c4 => ?_)
  · -- taken
    have c4 : ¬ ((inr_ 8 p1).toNat = 0) := fun h => c4 ((nI_eq (a := (inr_ 8 p1).toNat) (b := 0) (by omega) (by omega)).mpr h)
    have hb1 : inr_ 8 p1 = true := bt1 c4
    obtain ⟨pp, hpp, epp⟩ := inr_t (by decide) hb1
    rw [epp] at hl
    have htp := tr_top (Ls := Ls) hpp
    refine lv_aload_n hx hb dX_bucket_9 rfl (lv_at hl 0 rfl) ?_
    refine lv_iload_n hx hb dX_bucket_10 rfl (lv_at hl 1 rfl) ?_
    refine lv_iload_n hx hb dX_bucket_11 rfl (lv_at hl 2 rfl) ?_
    refine lv_iload_n hx hb dX_bucket_12 rfl (lv_at hl 3 rfl) ?_
    refine zz_ci (v := nI ((Ls pp).countP (fun c => btw fr to (obj_ c)))) (W.runV (As := [.int (nI pp), .int fr, .int to]) (rest := []) ⟨hx, hb, hml, hown, ht⟩ (c_X_withObjectBetween l D cI cB x0 t0 t1 t2 p0 v0 g0 ta f g Ls hT pp hpp fr to) (cwV 3 ht (gd_V wd219 wd221 wp10 wd1 wd222) rfl rfl rfl (by decide +kernel) ⟨Nat.le_of_ble_eq_true rfl, Nat.le_of_ble_eq_true rfl⟩) (zz_R_V hN hK (hP.sub (ws' := [(x0, .inr (4, [.ref t0, .ref p0, .ref v0, .ref g0, .ref ta])), (t0, .inr (0, [.ref t1, .ref t2])), (t1, .inl (cI, 400, .inl f)), (t2, .inl (cI, 9, .inl g))]) [0, 1, 2, 3] rfl) 4 0 rfl rfl) rfl rfl hl.1 rfl (lv_room (Nat.le_of_ble_eq_true rfl)) dX_bucket_13 ⟨Nat.le_of_ble_eq_true rfl, Nat.le_of_ble_eq_true rfl⟩) ?_
    exact zz_iretR (v := nI ((Ls pp).countP (fun c => btw fr to (obj_ c)))) hx hb hr hlocks (Or.inr ⟨pp, hpp, epp, rfl⟩) dX_bucket_16
  · -- not taken
    have c4 : (inr_ 8 p1).toNat = 0 := (nI_eq (a := (inr_ 8 p1).toNat) (b := 0) (by omega) (by omega)).mp c4
    have hb1 : inr_ 8 p1 = false := bt0 (by omega)
    refine lv_iconst (v := (-1)) hx hb dX_bucket_7 (by decide) ?_
    exact zz_iretR (v := (-1)) hx hb hr hlocks (Or.inl ⟨hb1, rfl⟩) dX_bucket_8

abbrev rm_X_count : Room := { frames := 4, cells := 0, slots := 0, locals := 88 }
set_option maxHeartbeats 4000000 in
set_option maxRecDepth 100000 in
theorem c_X_count (l : Launch) (D : va_G) (cI cB : ClassId) (sz : Nat) (x0 t0 t1 t2 p0 v0 g0 ta : Nat) (f g : Nat → Int32) (Ls : Nat → List Nat) (hT : RT Ls f g) (tl : Nat → Int32) (p1 wh : Int32) : Met l yX_count wX_count rm_X_count (zz_P D vwCl [(cI, .int), (cB, .boolean)] [.ref x0, .int p1, .int wh] [(x0, .inr (4, [.ref t0, .ref p0, .ref v0, .ref g0, .ref ta])), (t0, .inr (0, [.ref t1, .ref t2])), (t1, .inl (cI, 400, .inl f)), (t2, .inl (cI, 9, .inl g)), (ta, .inl (cI, 256, .inl tl))] sz) (va_Qi (fun (r : Int32) (u : (Nat → Int32)) => ((inr_ 8 p1 = false ∨ (wh ≠ nI 0 ∧ wh ≠ nI 1 ∧ wh ≠ nI 2)) ∧ r = -1) ∨ ∃ pp, pp < 8 ∧ p1 = nI pp ∧ ((wh = nI 0 ∧ r = nI (Ls pp).length) ∨ (wh = nI 1 ∧ r = nI (cnt (anyk sub_ (Ls pp)) 256)) ∨ (wh = nI 2 ∧ r = nI (cnt (anyk obj_ (Ls pp)) 256)))) (fun u : (Nat → Int32) => zz_B D vwCl [(cI, .int), (cB, .boolean)] (va_A [(x0, .inr (4, [.ref t0, .ref p0, .ref v0, .ref g0, .ref ta])), (t0, .inr (0, [.ref t1, .ref t2])), (t1, .inl (cI, 400, .inl f)), (t2, .inl (cI, 9, .inl g)), (ta, .inl (cI, 256, .inl tl))] sz) [(x0, .inr (4, [.ref t0, .ref p0, .ref v0, .ref g0, .ref ta])), (t0, .inr (0, [.ref t1, .ref t2])), (t1, .inl (cI, 400, .inl f)), (t2, .inl (cI, 9, .inl g)), (ta, .inl (cI, 256, .inl u))]) (va_A [(x0, .inr (4, [.ref t0, .ref p0, .ref v0, .ref g0, .ref ta])), (t0, .inr (0, [.ref t1, .ref t2])), (t1, .inl (cI, 400, .inl f)), (t2, .inl (cI, 9, .inl g)), (ta, .inl (cI, 256, .inl tl))] sz)) 0 0 (va_A [(x0, .inr (4, [.ref t0, .ref p0, .ref v0, .ref g0, .ref ta])), (t0, .inr (0, [.ref t1, .ref t2])), (t1, .inl (cI, 400, .inl f)), (t2, .inl (cI, 9, .inl g)), (ta, .inl (cI, 256, .inl tl))] sz) := by
  refine Met.ofW (cc := cX_count) (maxL := 3) (ret := (some .int)) (by decide) rfl ?_
  intro pg ev s mt args below meth kd s₁ B hml hv
  obtain ⟨rfl, hsz, hP, hK, hD0, hN⟩ := hv
  have hx := B.exec
  have hb := B.bytes
  have hr := B.returns
  have ht : ∀ w ∈ W0, w.before _ s = true := fun w h => atoms_spec (ws := wX_count) B.pre w (List.mem_cons_of_mem _ h)
  have hown : s.vm.findClass "StatRows" = some mt.cls := findClass_of_methodNamed B.named
  have hlocks := B.notSynchronized
  subst hsz
  have hD := hD0.self (sz := s.heap.size)
  generalize hAe : va_A [(x0, .inr (4, [.ref t0, .ref p0, .ref v0, .ref g0, .ref ta])), (t0, .inr (0, [.ref t1, .ref t2])), (t1, .inl (cI, 400, .inl f)), (t2, .inl (cI, 9, .inl g)), (ta, .inl (cI, 256, .inl tl))] s.heap.size = A at hD ⊢
  have hA : ∀ q : Nat, s.heap.size ≤ q → A q := fun q h => by rw [← hAe]; exact Or.inr h
  have hS : va_S A s.heap s.heap [] := va_S.rf
  have hP : va_P D vwCl [(x0, .inr (4, [.ref t0, .ref p0, .ref v0, .ref g0, .ref ta])), (t0, .inr (0, [.ref t1, .ref t2])), (t1, .inl (cI, 400, .inl f)), (t2, .inl (cI, 9, .inl g)), (ta, .inl (cI, 256, .inl tl))] s.heap := hP
  have hl := lv_entry ([.ref x0, .int p1, .int wh]) (n := 3) (Nat.le_of_ble_eq_true rfl)
  rw [lg_entry_eq]
  generalize (lg_sl ([.ref x0, .int p1, .int wh]) ++ List.replicate (3 - (lg_sl ([.ref x0, .int p1, .int wh])).length) Slot.unset).toArray = ls at hl ⊢
  have hl : lv_has ls 3 [(0, .ref x0), (1, .int p1), (2, .int wh)] := hl
  have h400 := hT.2.2.1
  have bl0 := btl (inr_ 8 p1)
  refine lv_iload_n hx hb dX_count_0 rfl (lv_at hl 1 rfl) ?_
  refine zz_ci (v := nI ((inr_ 8 p1).toNat)) (W.runS (As := [.int p1]) (rest := []) ⟨hx, hb, hml, hown, ht⟩ (c_X_isPredicate l p1) (va_cwS 1 ht (gd_S wd103 wd104 wd1 wd105) rfl rfl rfl (by decide +kernel) ⟨Nat.le_of_ble_eq_true rfl, Nat.le_of_ble_eq_true rfl⟩) zz_N_S rfl rfl hl.1 rfl (lv_room (Nat.le_of_ble_eq_true rfl)) dX_count_1 ⟨Nat.le_of_ble_eq_true rfl, Nat.le_of_ble_eq_true rfl⟩) ?_
  refine lv_if_ne (tgt := 9) hx hb dX_count_4 (by decide) (fun c4 => ?_) (fun c4 => ?_)
  · -- taken
    have c4 : ¬ ((inr_ 8 p1).toNat = 0) := fun h => c4 ((nI_eq (a := (inr_ 8 p1).toNat) (b := 0) (by omega) (by omega)).mpr h)
    have hb1 : inr_ 8 p1 = true := bt1 c4
    obtain ⟨pp, hpp, epp⟩ := inr_t (by decide) hb1
    rw [epp] at hl
    have htp := tr_top (Ls := Ls) hpp
    refine lv_iload_n hx hb dX_count_9 rfl (lv_at hl 2 rfl) ?_
    by_cases t10_0 : wh = nI 0
    · refine zz_top t10_0 ?_
      refine lv_tableIn (tgt := 36) hx hb dX_count_10 (by decide) (by decide) (by first | rfl | decide) (by decide) ?_
      refine lv_aload_n hx hb dX_count_36 rfl (lv_at hl 0 rfl) ?_
      refine va_get (D := D) (ci := 4) (v := .ref t0) (C := "StatRows") (T := TX) (N := 5) hx hb ht inX hown hK hP 0 rfl rfl 0 (by decide) (ht _ wd77) (fun _ h9 => h9) rfl dX_count_37 ?_
      refine lv_iload_n hx hb dX_count_40 rfl (lv_at hl 1 rfl) ?_
      refine zz_ci (v := nI (tr_off Ls pp + (Ls pp).length - tr_off Ls pp)) (W.runV (As := [.int (nI pp)]) (rest := []) ⟨hx, hb, hml, hown, ht⟩ (c_T_sizeOf l D cI cB t0 t1 t2 f g pp (tr_off Ls pp) (tr_off Ls pp + (Ls pp).length) hpp (hT.1 pp (by omega)) (hT.1 (pp + 1) (by omega)) (by omega)) (cwV 1 ht (gd_V wd152 wd153 wd154 wd2 wd155) rfl rfl rfl (by decide +kernel) ⟨Nat.le_of_ble_eq_true rfl, Nat.le_of_ble_eq_true rfl⟩) (zz_R_V hN hK (hP.sub (ws' := [(t0, .inr (0, [.ref t1, .ref t2])), (t1, .inl (cI, 400, .inl f)), (t2, .inl (cI, 9, .inl g))]) [1, 2, 3] rfl) 0 0 rfl rfl) rfl rfl hl.1 rfl (lv_room (Nat.le_of_ble_eq_true rfl)) dX_count_41 ⟨Nat.le_of_ble_eq_true rfl, Nat.le_of_ble_eq_true rfl⟩) ?_
      refine zz_top (y := nI ((Ls pp).length)) (congrArg nI (by omega)) ?_
      exact zz_iretW (v := nI ((Ls pp).length)) (w1 := fun u : (Nat → Int32) => [(x0, .inr (4, [.ref t0, .ref p0, .ref v0, .ref g0, .ref ta])), (t0, .inr (0, [.ref t1, .ref t2])), (t1, .inl (cI, 400, .inl f)), (t2, .inl (cI, 9, .inl g)), (ta, .inl (cI, 256, .inl u))]) tl hx hb hr hlocks (Or.inr ⟨pp, hpp, epp, Or.inl ⟨t10_0, rfl⟩⟩) hP hK hD hS dX_count_44
    by_cases t10_1 : wh = nI 1
    · refine zz_top t10_1 ?_
      refine lv_tableIn (tgt := 45) hx hb dX_count_10 (by decide) (by decide) (by first | rfl | decide) (by decide) ?_
      refine lv_aload_n hx hb dX_count_45 rfl (lv_at hl 0 rfl) ?_
      refine lv_iload_n hx hb dX_count_46 rfl (lv_at hl 1 rfl) ?_
      refine zz_wi (wc := [(x0, .inr (4, [.ref t0, .ref p0, .ref v0, .ref g0, .ref ta])), (t0, .inr (0, [.ref t1, .ref t2])), (t1, .inl (cI, 400, .inl f)), (t2, .inl (cI, 9, .inl g)), (ta, .inl (cI, 256, .inl tl))]) (wr := []) (va_runV (As := [.int (nI pp)]) (rest := []) ⟨hx, hb, hml, hown, ht⟩ (c_X_subjectsOf l D cI cB s.heap.size x0 t0 t1 t2 p0 v0 g0 ta f g Ls hT tl pp hpp) (cwV 1 ht (gd_V wd156 wd158 wp3 wd1 wd159) rfl rfl rfl (by decide +kernel) ⟨Nat.le_of_ble_eq_true rfl, Nat.le_of_ble_eq_true rfl⟩) (zz_P_V hN hK (hP.sub (ws' := [(x0, .inr (4, [.ref t0, .ref p0, .ref v0, .ref g0, .ref ta])), (t0, .inr (0, [.ref t1, .ref t2])), (t1, .inl (cI, 400, .inl f)), (t2, .inl (cI, 9, .inl g)), (ta, .inl (cI, 256, .inl tl))]) [0, 1, 2, 3, 4] rfl) (hD.sub (ws' := [(x0, .inr (4, [.ref t0, .ref p0, .ref v0, .ref g0, .ref ta])), (t0, .inr (0, [.ref t1, .ref t2])), (t1, .inl (cI, 400, .inl f)), (t2, .inl (cI, 9, .inl g)), (ta, .inl (cI, 256, .inl tl))]) [0, 1, 2, 3, 4] (by decide) rfl) 4 0 rfl rfl) rfl rfl hl.1 rfl (lv_room (Nat.le_of_ble_eq_true rfl)) dX_count_47 ⟨Nat.le_of_ble_eq_true rfl, Nat.le_of_ble_eq_true rfl⟩) hP hD hS hA [0, 1, 2, 3, 4] [] rfl rfl (by decide) (by decide) (fun r47 u47 H locs hq47 hP hD hS => ?_)
      have hP := hP.sub (ws' := [(x0, .inr (4, [.ref t0, .ref p0, .ref v0, .ref g0, .ref ta])), (t0, .inr (0, [.ref t1, .ref t2])), (t1, .inl (cI, 400, .inl f)), (t2, .inl (cI, 9, .inl g)), (ta, .inl (cI, 256, .inl u47))]) [0, 1, 2, 3, 4] rfl
      have hD := hD.sub (ws' := [(x0, .inr (4, [.ref t0, .ref p0, .ref v0, .ref g0, .ref ta])), (t0, .inr (0, [.ref t1, .ref t2])), (t1, .inl (cI, 400, .inl f)), (t2, .inl (cI, 9, .inl g)), (ta, .inl (cI, 256, .inl u47))]) [0, 1, 2, 3, 4] (by decide) rfl
      refine zz_top (y := nI (cnt (anyk sub_ (Ls pp)) 256)) (hq47) ?_
      exact zz_iretW (v := nI (cnt (anyk sub_ (Ls pp)) 256)) (w1 := fun u : (Nat → Int32) => [(x0, .inr (4, [.ref t0, .ref p0, .ref v0, .ref g0, .ref ta])), (t0, .inr (0, [.ref t1, .ref t2])), (t1, .inl (cI, 400, .inl f)), (t2, .inl (cI, 9, .inl g)), (ta, .inl (cI, 256, .inl u))]) u47 hx hb hr hlocks (Or.inr ⟨pp, hpp, epp, Or.inr (Or.inl ⟨t10_1, rfl⟩)⟩) hP hK hD hS dX_count_50
    by_cases t10_2 : wh = nI 2
    · refine zz_top t10_2 ?_
      refine lv_tableIn (tgt := 51) hx hb dX_count_10 (by decide) (by decide) (by first | rfl | decide) (by decide) ?_
      refine lv_aload_n hx hb dX_count_51 rfl (lv_at hl 0 rfl) ?_
      refine lv_iload_n hx hb dX_count_52 rfl (lv_at hl 1 rfl) ?_
      refine zz_wi (wc := [(x0, .inr (4, [.ref t0, .ref p0, .ref v0, .ref g0, .ref ta])), (t0, .inr (0, [.ref t1, .ref t2])), (t1, .inl (cI, 400, .inl f)), (t2, .inl (cI, 9, .inl g)), (ta, .inl (cI, 256, .inl tl))]) (wr := []) (va_runV (As := [.int (nI pp)]) (rest := []) ⟨hx, hb, hml, hown, ht⟩ (c_X_objectsOf l D cI cB s.heap.size x0 t0 t1 t2 p0 v0 g0 ta f g Ls hT tl pp hpp) (cwV 1 ht (gd_V wd181 wd183 wp7 wd1 wd184) rfl rfl rfl (by decide +kernel) ⟨Nat.le_of_ble_eq_true rfl, Nat.le_of_ble_eq_true rfl⟩) (zz_P_V hN hK (hP.sub (ws' := [(x0, .inr (4, [.ref t0, .ref p0, .ref v0, .ref g0, .ref ta])), (t0, .inr (0, [.ref t1, .ref t2])), (t1, .inl (cI, 400, .inl f)), (t2, .inl (cI, 9, .inl g)), (ta, .inl (cI, 256, .inl tl))]) [0, 1, 2, 3, 4] rfl) (hD.sub (ws' := [(x0, .inr (4, [.ref t0, .ref p0, .ref v0, .ref g0, .ref ta])), (t0, .inr (0, [.ref t1, .ref t2])), (t1, .inl (cI, 400, .inl f)), (t2, .inl (cI, 9, .inl g)), (ta, .inl (cI, 256, .inl tl))]) [0, 1, 2, 3, 4] (by decide) rfl) 4 0 rfl rfl) rfl rfl hl.1 rfl (lv_room (Nat.le_of_ble_eq_true rfl)) dX_count_53 ⟨Nat.le_of_ble_eq_true rfl, Nat.le_of_ble_eq_true rfl⟩) hP hD hS hA [0, 1, 2, 3, 4] [] rfl rfl (by decide) (by decide) (fun r53 u53 H locs hq53 hP hD hS => ?_)
      have hP := hP.sub (ws' := [(x0, .inr (4, [.ref t0, .ref p0, .ref v0, .ref g0, .ref ta])), (t0, .inr (0, [.ref t1, .ref t2])), (t1, .inl (cI, 400, .inl f)), (t2, .inl (cI, 9, .inl g)), (ta, .inl (cI, 256, .inl u53))]) [0, 1, 2, 3, 4] rfl
      have hD := hD.sub (ws' := [(x0, .inr (4, [.ref t0, .ref p0, .ref v0, .ref g0, .ref ta])), (t0, .inr (0, [.ref t1, .ref t2])), (t1, .inl (cI, 400, .inl f)), (t2, .inl (cI, 9, .inl g)), (ta, .inl (cI, 256, .inl u53))]) [0, 1, 2, 3, 4] (by decide) rfl
      refine zz_top (y := nI (cnt (anyk obj_ (Ls pp)) 256)) (hq53) ?_
      exact zz_iretW (v := nI (cnt (anyk obj_ (Ls pp)) 256)) (w1 := fun u : (Nat → Int32) => [(x0, .inr (4, [.ref t0, .ref p0, .ref v0, .ref g0, .ref ta])), (t0, .inr (0, [.ref t1, .ref t2])), (t1, .inl (cI, 400, .inl f)), (t2, .inl (cI, 9, .inl g)), (ta, .inl (cI, 256, .inl u))]) u53 hx hb hr hlocks (Or.inr ⟨pp, hpp, epp, Or.inr (Or.inr ⟨t10_2, rfl⟩)⟩) hP hK hD hS dX_count_56
    have hout10 : (wh).toInt < 0 ∨ 2 < (wh).toInt := zz_tout 0 2 (by decide) (fun k hk1 hk2 q => by
      rcases (show k = 0 ∨ k = 1 ∨ k = 2 by omega) with rfl | rfl | rfl
      · exact t10_0 q
      · exact t10_1 q
      · exact t10_2 q)
    refine lv_tableOut (tgt := 57) hx hb dX_count_10 hout10 (by decide) ?_
    refine lv_iconst (v := (-1)) hx hb dX_count_57 (by decide) ?_
    exact zz_iretW (v := (-1)) (w1 := fun u : (Nat → Int32) => [(x0, .inr (4, [.ref t0, .ref p0, .ref v0, .ref g0, .ref ta])), (t0, .inr (0, [.ref t1, .ref t2])), (t1, .inl (cI, 400, .inl f)), (t2, .inl (cI, 9, .inl g)), (ta, .inl (cI, 256, .inl u))]) tl hx hb hr hlocks (Or.inl ⟨Or.inr ⟨t10_0, t10_1, t10_2⟩, rfl⟩) hP hK hD hS dX_count_58
  · -- not taken
    have c4 : (inr_ 8 p1).toNat = 0 := (nI_eq (a := (inr_ 8 p1).toNat) (b := 0) (by omega) (by omega)).mp c4
    have hb1 : inr_ 8 p1 = false := bt0 (by omega)
    refine lv_iconst (v := (-1)) hx hb dX_count_7 (by decide) ?_
    exact zz_iretW (v := (-1)) (w1 := fun u : (Nat → Int32) => [(x0, .inr (4, [.ref t0, .ref p0, .ref v0, .ref g0, .ref ta])), (t0, .inr (0, [.ref t1, .ref t2])), (t1, .inl (cI, 400, .inl f)), (t2, .inl (cI, 9, .inl g)), (ta, .inl (cI, 256, .inl u))]) tl hx hb hr hlocks (Or.inl ⟨Or.inl hb1, rfl⟩) hP hK hD hS dX_count_8

abbrev rm_X_triple : Room := { frames := 3, cells := 0, slots := 0, locals := 68 }
set_option maxHeartbeats 4000000 in
set_option maxRecDepth 100000 in
theorem c_X_triple (l : Launch) (D : va_G) (cI cB : ClassId) (sz : Nat) (x0 t0 t1 t2 p0 v0 g0 ta : Nat) (f g : Nat → Int32) (Ls : Nat → List Nat) (hT : RT Ls f g) (s1 p1 o1 : Int32) : Met l yX_triple wX_triple rm_X_triple (zz_P D vwCl [(cI, .int), (cB, .boolean)] [.ref x0, .int s1, .int p1, .int o1] [(x0, .inr (4, [.ref t0, .ref p0, .ref v0, .ref g0, .ref ta])), (t0, .inr (0, [.ref t1, .ref t2])), (t1, .inl (cI, 400, .inl f)), (t2, .inl (cI, 9, .inl g))] sz) (va_Qi (fun (r : Int32) (u : ((Nat → Int32) × (Nat → Int32))) => ((inr_ 256 s1 && inr_ 8 p1 && inr_ 256 o1) = false ∧ r = -1 ∧ RT Ls u.1 u.2) ∨ ∃ ss pp oo, ss < 256 ∧ pp < 8 ∧ oo < 256 ∧ s1 = nI ss ∧ p1 = nI pp ∧ o1 = nI oo ∧ (((256 * ss + oo ∈ Ls pp) ∧ r = nI 0 ∧ RT Ls u.1 u.2) ∨ ((256 * ss + oo ∉ Ls pp) ∧ tr_off Ls 8 = 400 ∧ r = -3 ∧ RT Ls u.1 u.2) ∨ ((256 * ss + oo ∉ Ls pp) ∧ tr_off Ls 8 < 400 ∧ r = nI 1 ∧ ∃ k, k ≤ (Ls pp).length ∧ RT (tr_ins Ls pp k (256 * ss + oo)) u.1 u.2))) (fun u : ((Nat → Int32) × (Nat → Int32)) => zz_B D vwCl [(cI, .int), (cB, .boolean)] (va_A [(x0, .inr (4, [.ref t0, .ref p0, .ref v0, .ref g0, .ref ta])), (t0, .inr (0, [.ref t1, .ref t2])), (t1, .inl (cI, 400, .inl f)), (t2, .inl (cI, 9, .inl g))] sz) [(x0, .inr (4, [.ref t0, .ref p0, .ref v0, .ref g0, .ref ta])), (t0, .inr (0, [.ref t1, .ref t2])), (t1, .inl (cI, 400, .inl u.1)), (t2, .inl (cI, 9, .inl u.2))]) (va_A [(x0, .inr (4, [.ref t0, .ref p0, .ref v0, .ref g0, .ref ta])), (t0, .inr (0, [.ref t1, .ref t2])), (t1, .inl (cI, 400, .inl f)), (t2, .inl (cI, 9, .inl g))] sz)) 0 0 (va_A [(x0, .inr (4, [.ref t0, .ref p0, .ref v0, .ref g0, .ref ta])), (t0, .inr (0, [.ref t1, .ref t2])), (t1, .inl (cI, 400, .inl f)), (t2, .inl (cI, 9, .inl g))] sz) := by
  refine Met.ofW (cc := cX_triple) (maxL := 4) (ret := (some .int)) (by decide) rfl ?_
  intro pg ev s mt args below meth kd s₁ B hml hv
  obtain ⟨rfl, hsz, hP, hK, hD0, hN⟩ := hv
  have hx := B.exec
  have hb := B.bytes
  have hr := B.returns
  have ht : ∀ w ∈ W0, w.before _ s = true := fun w h => atoms_spec (ws := wX_triple) B.pre w (List.mem_cons_of_mem _ h)
  have hown : s.vm.findClass "StatRows" = some mt.cls := findClass_of_methodNamed B.named
  have hlocks := B.notSynchronized
  subst hsz
  have hD := hD0.self (sz := s.heap.size)
  generalize hAe : va_A [(x0, .inr (4, [.ref t0, .ref p0, .ref v0, .ref g0, .ref ta])), (t0, .inr (0, [.ref t1, .ref t2])), (t1, .inl (cI, 400, .inl f)), (t2, .inl (cI, 9, .inl g))] s.heap.size = A at hD ⊢
  have hA : ∀ q : Nat, s.heap.size ≤ q → A q := fun q h => by rw [← hAe]; exact Or.inr h
  have hS : va_S A s.heap s.heap [] := va_S.rf
  have hP : va_P D vwCl [(x0, .inr (4, [.ref t0, .ref p0, .ref v0, .ref g0, .ref ta])), (t0, .inr (0, [.ref t1, .ref t2])), (t1, .inl (cI, 400, .inl f)), (t2, .inl (cI, 9, .inl g))] s.heap := hP
  have hl := lv_entry ([.ref x0, .int s1, .int p1, .int o1]) (n := 4) (Nat.le_of_ble_eq_true rfl)
  rw [lg_entry_eq]
  generalize (lg_sl ([.ref x0, .int s1, .int p1, .int o1]) ++ List.replicate (4 - (lg_sl ([.ref x0, .int s1, .int p1, .int o1])).length) Slot.unset).toArray = ls at hl ⊢
  have hl : lv_has ls 4 [(0, .ref x0), (1, .int s1), (2, .int p1), (3, .int o1)] := hl
  have h400 := hT.2.2.1
  have bl0 := btl ((inr_ 256 s1 && inr_ 8 p1 && inr_ 256 o1))
  refine lv_iload_n hx hb dX_triple_0 rfl (lv_at hl 1 rfl) ?_
  refine lv_iload_n hx hb dX_triple_1 rfl (lv_at hl 2 rfl) ?_
  refine lv_iload_n hx hb dX_triple_2 rfl (lv_at hl 3 rfl) ?_
  refine zz_ci (v := nI ((inr_ 256 s1 && inr_ 8 p1 && inr_ 256 o1).toNat)) (W.runS (As := [.int s1, .int p1, .int o1]) (rest := []) ⟨hx, hb, hml, hown, ht⟩ (c_X_isTriple l s1 p1 o1) (va_cwS 3 ht (gd_S wd97 wd98 wd1 wd99) rfl rfl rfl (by decide +kernel) ⟨Nat.le_of_ble_eq_true rfl, Nat.le_of_ble_eq_true rfl⟩) zz_N_S rfl rfl hl.1 rfl (lv_room (Nat.le_of_ble_eq_true rfl)) dX_triple_3 ⟨Nat.le_of_ble_eq_true rfl, Nat.le_of_ble_eq_true rfl⟩) ?_
  refine lv_if_ne (tgt := 11) hx hb dX_triple_6 (by decide) (fun c6 => ?_) (fun c6 => ?_)
  · -- taken
    have c6 : ¬ ((inr_ 256 s1 && inr_ 8 p1 && inr_ 256 o1).toNat = 0) := fun h => c6 ((nI_eq (a := (inr_ 256 s1 && inr_ 8 p1 && inr_ 256 o1).toNat) (b := 0) (by omega) (by omega)).mpr h)
    have hb1 := bt1 c6
    simp only [Bool.and_eq_true] at hb1
    obtain ⟨⟨hb2, hb3⟩, hb4⟩ := hb1
    obtain ⟨ss, hss, ess⟩ := inr_t (by decide) hb2
    rw [ess] at hl
    obtain ⟨pp, hpp, epp⟩ := inr_t (by decide) hb3
    rw [epp] at hl
    obtain ⟨oo, hoo, eoo⟩ := inr_t (by decide) hb4
    rw [eoo] at hl
    obtain ⟨k, hk, h1, h2⟩ := tr_place (Ls pp) (256 * ss + oo)
    have hmem := tr_mem (hT.2.2.2.2 pp hpp) h1 h2
    refine lv_aload_n hx hb dX_triple_11 rfl (lv_at hl 0 rfl) ?_
    refine va_get (D := D) (ci := 4) (v := .ref t0) (C := "StatRows") (T := TX) (N := 5) hx hb ht inX hown hK hP 0 rfl rfl 0 (by decide) (ht _ wd77) (fun _ h9 => h9) rfl dX_triple_12 ?_
    refine lv_iload_n hx hb dX_triple_15 rfl (lv_at hl 2 rfl) ?_
    refine lv_iload_n hx hb dX_triple_16 rfl (lv_at hl 1 rfl) ?_
    refine lv_iload_n hx hb dX_triple_17 rfl (lv_at hl 3 rfl) ?_
    refine zz_ci (v := nI (256 * ss + oo)) (W.runS (As := [.int (nI ss), .int (nI oo)]) (rest := [.int (nI pp), .ref t0]) ⟨hx, hb, hml, hown, ht⟩ (c_X_pair l ss oo) (va_cwS 2 ht (gd_S wd106 wd107 wd1 wd108) rfl rfl rfl (by decide +kernel) ⟨Nat.le_of_ble_eq_true rfl, Nat.le_of_ble_eq_true rfl⟩) zz_N_S rfl rfl hl.1 rfl (lv_room (Nat.le_of_ble_eq_true rfl)) dX_triple_18 ⟨Nat.le_of_ble_eq_true rfl, Nat.le_of_ble_eq_true rfl⟩) ?_
    refine zz_wi (wc := [(t0, .inr (0, [.ref t1, .ref t2])), (t1, .inl (cI, 400, .inl f)), (t2, .inl (cI, 9, .inl g))]) (wr := [(x0, .inr (4, [.ref t0, .ref p0, .ref v0, .ref g0, .ref ta]))]) (va_runV (As := [.int (nI pp), .int (nI (256 * ss + oo))]) (rest := []) ⟨hx, hb, hml, hown, ht⟩ (c_T_put l D cI cB s.heap.size t0 t1 t2 f g Ls hT pp (256 * ss + oo) k hpp (by omega) hk h1 h2) (cwV 2 ht (gd_V wd109 wd110 wd111 wd2 wd112) rfl rfl rfl (by decide +kernel) ⟨Nat.le_of_ble_eq_true rfl, Nat.le_of_ble_eq_true rfl⟩) (zz_P_V hN hK (hP.sub (ws' := [(t0, .inr (0, [.ref t1, .ref t2])), (t1, .inl (cI, 400, .inl f)), (t2, .inl (cI, 9, .inl g))]) [1, 2, 3] rfl) (hD.sub (ws' := [(t0, .inr (0, [.ref t1, .ref t2])), (t1, .inl (cI, 400, .inl f)), (t2, .inl (cI, 9, .inl g))]) [1, 2, 3] (by decide) rfl) 0 0 rfl rfl) rfl rfl hl.1 rfl (lv_room (Nat.le_of_ble_eq_true rfl)) dX_triple_21 ⟨Nat.le_of_ble_eq_true rfl, Nat.le_of_ble_eq_true rfl⟩) hP hD hS hA [1, 2, 3] [0] rfl rfl (by decide) (by decide) (fun r21 u21 H locs hq21 hP hD hS => ?_)
    have hP := hP.sub (ws' := [(x0, .inr (4, [.ref t0, .ref p0, .ref v0, .ref g0, .ref ta])), (t0, .inr (0, [.ref t1, .ref t2])), (t1, .inl (cI, 400, .inl u21.1)), (t2, .inl (cI, 9, .inl u21.2))]) [0, 1, 2, 3] rfl
    have hD := hD.sub (ws' := [(x0, .inr (4, [.ref t0, .ref p0, .ref v0, .ref g0, .ref ta])), (t0, .inr (0, [.ref t1, .ref t2])), (t1, .inl (cI, 400, .inl u21.1)), (t2, .inl (cI, 9, .inl u21.2))]) [0, 1, 2, 3] (by decide) rfl
    exact zz_iretW (v := r21) (w1 := fun u : ((Nat → Int32) × (Nat → Int32)) => [(x0, .inr (4, [.ref t0, .ref p0, .ref v0, .ref g0, .ref ta])), (t0, .inr (0, [.ref t1, .ref t2])), (t1, .inl (cI, 400, .inl u.1)), (t2, .inl (cI, 9, .inl u.2))]) (u21.1, u21.2) hx hb hr hlocks (Or.inr ⟨ss, pp, oo, hss, hpp, hoo, ess, epp, eoo, by
      rcases hq21 with ⟨a, b, c, d⟩ | ⟨a, ⟨b, c, d⟩ | ⟨b, c, d⟩⟩
      · exact Or.inl ⟨hmem.mp ⟨a, b⟩, c, d⟩
      · exact Or.inr (Or.inl ⟨fun q => a (hmem.mpr q), b, c, d⟩)
      · exact Or.inr (Or.inr ⟨fun q => a (hmem.mpr q), b, c, k, hk, d⟩)⟩) hP hK hD hS dX_triple_24
  · -- not taken
    have c6 : (inr_ 256 s1 && inr_ 8 p1 && inr_ 256 o1).toNat = 0 := (nI_eq (a := (inr_ 256 s1 && inr_ 8 p1 && inr_ 256 o1).toNat) (b := 0) (by omega) (by omega)).mp c6
    have hb1 : (inr_ 256 s1 && inr_ 8 p1 && inr_ 256 o1) = false := bt0 (by omega)
    refine lv_iconst (v := (-1)) hx hb dX_triple_9 (by decide) ?_
    exact zz_iretW (v := (-1)) (w1 := fun u : ((Nat → Int32) × (Nat → Int32)) => [(x0, .inr (4, [.ref t0, .ref p0, .ref v0, .ref g0, .ref ta])), (t0, .inr (0, [.ref t1, .ref t2])), (t1, .inl (cI, 400, .inl u.1)), (t2, .inl (cI, 9, .inl u.2))]) (f, g) hx hb hr hlocks (Or.inl ⟨hb1, rfl, hT⟩) hP hK hD hS dX_triple_10

abbrev rm_X_drop : Room := { frames := 3, cells := 0, slots := 0, locals := 68 }
set_option maxHeartbeats 4000000 in
set_option maxRecDepth 100000 in
theorem c_X_drop (l : Launch) (D : va_G) (cI cB : ClassId) (sz : Nat) (x0 t0 t1 t2 p0 v0 g0 ta : Nat) (f g : Nat → Int32) (Ls : Nat → List Nat) (hT : RT Ls f g) (s1 p1 o1 : Int32) : Met l yX_drop wX_drop rm_X_drop (zz_P D vwCl [(cI, .int), (cB, .boolean)] [.ref x0, .int s1, .int p1, .int o1] [(x0, .inr (4, [.ref t0, .ref p0, .ref v0, .ref g0, .ref ta])), (t0, .inr (0, [.ref t1, .ref t2])), (t1, .inl (cI, 400, .inl f)), (t2, .inl (cI, 9, .inl g))] sz) (va_Qi (fun (r : Int32) (u : ((Nat → Int32) × (Nat → Int32))) => ((inr_ 256 s1 && inr_ 8 p1 && inr_ 256 o1) = false ∧ r = -1 ∧ RT Ls u.1 u.2) ∨ ∃ ss pp oo, ss < 256 ∧ pp < 8 ∧ oo < 256 ∧ s1 = nI ss ∧ p1 = nI pp ∧ o1 = nI oo ∧ (((256 * ss + oo ∉ Ls pp) ∧ r = nI 0 ∧ RT Ls u.1 u.2) ∨ ((256 * ss + oo ∈ Ls pp) ∧ r = nI 1 ∧ ∃ k, k < (Ls pp).length ∧ (Ls pp).getD k 0 = 256 * ss + oo ∧ RT (tr_del Ls pp k) u.1 u.2))) (fun u : ((Nat → Int32) × (Nat → Int32)) => zz_B D vwCl [(cI, .int), (cB, .boolean)] (va_A [(x0, .inr (4, [.ref t0, .ref p0, .ref v0, .ref g0, .ref ta])), (t0, .inr (0, [.ref t1, .ref t2])), (t1, .inl (cI, 400, .inl f)), (t2, .inl (cI, 9, .inl g))] sz) [(x0, .inr (4, [.ref t0, .ref p0, .ref v0, .ref g0, .ref ta])), (t0, .inr (0, [.ref t1, .ref t2])), (t1, .inl (cI, 400, .inl u.1)), (t2, .inl (cI, 9, .inl u.2))]) (va_A [(x0, .inr (4, [.ref t0, .ref p0, .ref v0, .ref g0, .ref ta])), (t0, .inr (0, [.ref t1, .ref t2])), (t1, .inl (cI, 400, .inl f)), (t2, .inl (cI, 9, .inl g))] sz)) 0 0 (va_A [(x0, .inr (4, [.ref t0, .ref p0, .ref v0, .ref g0, .ref ta])), (t0, .inr (0, [.ref t1, .ref t2])), (t1, .inl (cI, 400, .inl f)), (t2, .inl (cI, 9, .inl g))] sz) := by
  refine Met.ofW (cc := cX_drop) (maxL := 4) (ret := (some .int)) (by decide) rfl ?_
  intro pg ev s mt args below meth kd s₁ B hml hv
  obtain ⟨rfl, hsz, hP, hK, hD0, hN⟩ := hv
  have hx := B.exec
  have hb := B.bytes
  have hr := B.returns
  have ht : ∀ w ∈ W0, w.before _ s = true := fun w h => atoms_spec (ws := wX_drop) B.pre w (List.mem_cons_of_mem _ h)
  have hown : s.vm.findClass "StatRows" = some mt.cls := findClass_of_methodNamed B.named
  have hlocks := B.notSynchronized
  subst hsz
  have hD := hD0.self (sz := s.heap.size)
  generalize hAe : va_A [(x0, .inr (4, [.ref t0, .ref p0, .ref v0, .ref g0, .ref ta])), (t0, .inr (0, [.ref t1, .ref t2])), (t1, .inl (cI, 400, .inl f)), (t2, .inl (cI, 9, .inl g))] s.heap.size = A at hD ⊢
  have hA : ∀ q : Nat, s.heap.size ≤ q → A q := fun q h => by rw [← hAe]; exact Or.inr h
  have hS : va_S A s.heap s.heap [] := va_S.rf
  have hP : va_P D vwCl [(x0, .inr (4, [.ref t0, .ref p0, .ref v0, .ref g0, .ref ta])), (t0, .inr (0, [.ref t1, .ref t2])), (t1, .inl (cI, 400, .inl f)), (t2, .inl (cI, 9, .inl g))] s.heap := hP
  have hl := lv_entry ([.ref x0, .int s1, .int p1, .int o1]) (n := 4) (Nat.le_of_ble_eq_true rfl)
  rw [lg_entry_eq]
  generalize (lg_sl ([.ref x0, .int s1, .int p1, .int o1]) ++ List.replicate (4 - (lg_sl ([.ref x0, .int s1, .int p1, .int o1])).length) Slot.unset).toArray = ls at hl ⊢
  have hl : lv_has ls 4 [(0, .ref x0), (1, .int s1), (2, .int p1), (3, .int o1)] := hl
  have h400 := hT.2.2.1
  have bl0 := btl ((inr_ 256 s1 && inr_ 8 p1 && inr_ 256 o1))
  refine lv_iload_n hx hb dX_drop_0 rfl (lv_at hl 1 rfl) ?_
  refine lv_iload_n hx hb dX_drop_1 rfl (lv_at hl 2 rfl) ?_
  refine lv_iload_n hx hb dX_drop_2 rfl (lv_at hl 3 rfl) ?_
  refine zz_ci (v := nI ((inr_ 256 s1 && inr_ 8 p1 && inr_ 256 o1).toNat)) (W.runS (As := [.int s1, .int p1, .int o1]) (rest := []) ⟨hx, hb, hml, hown, ht⟩ (c_X_isTriple l s1 p1 o1) (va_cwS 3 ht (gd_S wd97 wd98 wd1 wd99) rfl rfl rfl (by decide +kernel) ⟨Nat.le_of_ble_eq_true rfl, Nat.le_of_ble_eq_true rfl⟩) zz_N_S rfl rfl hl.1 rfl (lv_room (Nat.le_of_ble_eq_true rfl)) dX_drop_3 ⟨Nat.le_of_ble_eq_true rfl, Nat.le_of_ble_eq_true rfl⟩) ?_
  refine lv_if_ne (tgt := 11) hx hb dX_drop_6 (by decide) (fun c6 => ?_) (fun c6 => ?_)
  · -- taken
    have c6 : ¬ ((inr_ 256 s1 && inr_ 8 p1 && inr_ 256 o1).toNat = 0) := fun h => c6 ((nI_eq (a := (inr_ 256 s1 && inr_ 8 p1 && inr_ 256 o1).toNat) (b := 0) (by omega) (by omega)).mpr h)
    have hb1 := bt1 c6
    simp only [Bool.and_eq_true] at hb1
    obtain ⟨⟨hb2, hb3⟩, hb4⟩ := hb1
    obtain ⟨ss, hss, ess⟩ := inr_t (by decide) hb2
    rw [ess] at hl
    obtain ⟨pp, hpp, epp⟩ := inr_t (by decide) hb3
    rw [epp] at hl
    obtain ⟨oo, hoo, eoo⟩ := inr_t (by decide) hb4
    rw [eoo] at hl
    obtain ⟨k, hk, h1, h2⟩ := tr_place (Ls pp) (256 * ss + oo)
    have hmem := tr_mem (hT.2.2.2.2 pp hpp) h1 h2
    refine lv_aload_n hx hb dX_drop_11 rfl (lv_at hl 0 rfl) ?_
    refine va_get (D := D) (ci := 4) (v := .ref t0) (C := "StatRows") (T := TX) (N := 5) hx hb ht inX hown hK hP 0 rfl rfl 0 (by decide) (ht _ wd77) (fun _ h9 => h9) rfl dX_drop_12 ?_
    refine lv_iload_n hx hb dX_drop_15 rfl (lv_at hl 2 rfl) ?_
    refine lv_iload_n hx hb dX_drop_16 rfl (lv_at hl 1 rfl) ?_
    refine lv_iload_n hx hb dX_drop_17 rfl (lv_at hl 3 rfl) ?_
    refine zz_ci (v := nI (256 * ss + oo)) (W.runS (As := [.int (nI ss), .int (nI oo)]) (rest := [.int (nI pp), .ref t0]) ⟨hx, hb, hml, hown, ht⟩ (c_X_pair l ss oo) (va_cwS 2 ht (gd_S wd106 wd107 wd1 wd108) rfl rfl rfl (by decide +kernel) ⟨Nat.le_of_ble_eq_true rfl, Nat.le_of_ble_eq_true rfl⟩) zz_N_S rfl rfl hl.1 rfl (lv_room (Nat.le_of_ble_eq_true rfl)) dX_drop_18 ⟨Nat.le_of_ble_eq_true rfl, Nat.le_of_ble_eq_true rfl⟩) ?_
    refine zz_wi (wc := [(t0, .inr (0, [.ref t1, .ref t2])), (t1, .inl (cI, 400, .inl f)), (t2, .inl (cI, 9, .inl g))]) (wr := [(x0, .inr (4, [.ref t0, .ref p0, .ref v0, .ref g0, .ref ta]))]) (va_runV (As := [.int (nI pp), .int (nI (256 * ss + oo))]) (rest := []) ⟨hx, hb, hml, hown, ht⟩ (c_T_remove l D cI cB s.heap.size t0 t1 t2 f g Ls hT pp (256 * ss + oo) k hpp (by omega) hk h1 h2) (cwV 2 ht (gd_V wd144 wd145 wd146 wd2 wd147) rfl rfl rfl (by decide +kernel) ⟨Nat.le_of_ble_eq_true rfl, Nat.le_of_ble_eq_true rfl⟩) (zz_P_V hN hK (hP.sub (ws' := [(t0, .inr (0, [.ref t1, .ref t2])), (t1, .inl (cI, 400, .inl f)), (t2, .inl (cI, 9, .inl g))]) [1, 2, 3] rfl) (hD.sub (ws' := [(t0, .inr (0, [.ref t1, .ref t2])), (t1, .inl (cI, 400, .inl f)), (t2, .inl (cI, 9, .inl g))]) [1, 2, 3] (by decide) rfl) 0 0 rfl rfl) rfl rfl hl.1 rfl (lv_room (Nat.le_of_ble_eq_true rfl)) dX_drop_21 ⟨Nat.le_of_ble_eq_true rfl, Nat.le_of_ble_eq_true rfl⟩) hP hD hS hA [1, 2, 3] [0] rfl rfl (by decide) (by decide) (fun r21 u21 H locs hq21 hP hD hS => ?_)
    have hP := hP.sub (ws' := [(x0, .inr (4, [.ref t0, .ref p0, .ref v0, .ref g0, .ref ta])), (t0, .inr (0, [.ref t1, .ref t2])), (t1, .inl (cI, 400, .inl u21.1)), (t2, .inl (cI, 9, .inl u21.2))]) [0, 1, 2, 3] rfl
    have hD := hD.sub (ws' := [(x0, .inr (4, [.ref t0, .ref p0, .ref v0, .ref g0, .ref ta])), (t0, .inr (0, [.ref t1, .ref t2])), (t1, .inl (cI, 400, .inl u21.1)), (t2, .inl (cI, 9, .inl u21.2))]) [0, 1, 2, 3] (by decide) rfl
    exact zz_iretW (v := r21) (w1 := fun u : ((Nat → Int32) × (Nat → Int32)) => [(x0, .inr (4, [.ref t0, .ref p0, .ref v0, .ref g0, .ref ta])), (t0, .inr (0, [.ref t1, .ref t2])), (t1, .inl (cI, 400, .inl u.1)), (t2, .inl (cI, 9, .inl u.2))]) (u21.1, u21.2) hx hb hr hlocks (Or.inr ⟨ss, pp, oo, hss, hpp, hoo, ess, epp, eoo, by
      rcases hq21 with ⟨a, b, c, d⟩ | ⟨a, c, d⟩
      · exact Or.inr ⟨hmem.mp ⟨a, b⟩, c, k, a, b, d⟩
      · exact Or.inl ⟨fun q => a (hmem.mpr q), c, d⟩⟩) hP hK hD hS dX_drop_24
  · -- not taken
    have c6 : (inr_ 256 s1 && inr_ 8 p1 && inr_ 256 o1).toNat = 0 := (nI_eq (a := (inr_ 256 s1 && inr_ 8 p1 && inr_ 256 o1).toNat) (b := 0) (by omega) (by omega)).mp c6
    have hb1 : (inr_ 256 s1 && inr_ 8 p1 && inr_ 256 o1) = false := bt0 (by omega)
    refine lv_iconst (v := (-1)) hx hb dX_drop_9 (by decide) ?_
    exact zz_iretW (v := (-1)) (w1 := fun u : ((Nat → Int32) × (Nat → Int32)) => [(x0, .inr (4, [.ref t0, .ref p0, .ref v0, .ref g0, .ref ta])), (t0, .inr (0, [.ref t1, .ref t2])), (t1, .inl (cI, 400, .inl u.1)), (t2, .inl (cI, 9, .inl u.2))]) (f, g) hx hb hr hlocks (Or.inl ⟨hb1, rfl, hT⟩) hP hK hD hS dX_drop_10
