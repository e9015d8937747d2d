abbrev rm_T_moveStartsAfter : Room := { frames := 0, cells := 0, slots := 0, locals := 0 }
set_option maxHeartbeats 4000000 in
set_option maxRecDepth 100000 in
theorem c_T_moveStartsAfter (l : Launch) (D : va_G) (cI cB : ClassId) (sz : Nat) (q0 q1 q2 : Nat) (f g : Nat → Int32) (pp : Nat) (x : Int32) (hp : pp < 8) : Met l yT_moveStartsAfter wT_moveStartsAfter rm_T_moveStartsAfter (zz_P D vwCl [(cI, .int), (cB, .boolean)] [.ref q0, .int (nI pp), .int x] [(q0, .inr (0, [.ref q1, .ref q2])), (q1, .inl (cI, 400, .inl f)), (q2, .inl (cI, 9, .inl g))] sz) (va_Qv (fun u : (Nat → Int32) => ∀ j, j < 9 → u j = if pp < j then g j + x else g j) (fun u : (Nat → Int32) => zz_B D vwCl [(cI, .int), (cB, .boolean)] (va_A [(q0, .inr (0, [.ref q1, .ref q2])), (q1, .inl (cI, 400, .inl f)), (q2, .inl (cI, 9, .inl g))] sz) [(q0, .inr (0, [.ref q1, .ref q2])), (q1, .inl (cI, 400, .inl f)), (q2, .inl (cI, 9, .inl u))]) (va_A [(q0, .inr (0, [.ref q1, .ref q2])), (q1, .inl (cI, 400, .inl f)), (q2, .inl (cI, 9, .inl g))] sz)) 0 0 (va_A [(q0, .inr (0, [.ref q1, .ref q2])), (q1, .inl (cI, 400, .inl f)), (q2, .inl (cI, 9, .inl g))] sz) := by
  refine Met.ofW (cc := cT_moveStartsAfter) (maxL := 4) (ret := none) (by decide) rfl ?_
  intro pg ev s mt args below meth kd s₁ B hml hv
  obtain ⟨rfl, hsz, hP, hK, hD0, hN⟩ := hv
  have hx := B.exec
  have hb := B.bytes
  have hr := B.returns
  have ht : ∀ w ∈ W0, w.before _ s = true := fun w h => atoms_spec (ws := wT_moveStartsAfter) B.pre w (List.mem_cons_of_mem _ h)
  have hown : s.vm.findClass "StatRows$TripleRow" = some mt.cls := findClass_of_methodNamed B.named
  have hlocks := B.notSynchronized
  subst hsz
  have hD := hD0.self (sz := s.heap.size)
  generalize hAe : va_A [(q0, .inr (0, [.ref q1, .ref q2])), (q1, .inl (cI, 400, .inl f)), (q2, .inl (cI, 9, .inl g))] s.heap.size = A at hD ⊢
  have hA : ∀ q : Nat, s.heap.size ≤ q → A q := fun q h => by rw [← hAe]; exact Or.inr h
  have hS : va_S A s.heap s.heap [] := va_S.rf
  have hP : va_P D vwCl [(q0, .inr (0, [.ref q1, .ref q2])), (q1, .inl (cI, 400, .inl f)), (q2, .inl (cI, 9, .inl g))] s.heap := hP
  have hl := lv_entry ([.ref q0, .int (nI pp), .int x]) (n := 4) (Nat.le_of_ble_eq_true rfl)
  rw [lg_entry_eq]
  generalize (lg_sl ([.ref q0, .int (nI pp), .int x]) ++ List.replicate (4 - (lg_sl ([.ref q0, .int (nI pp), .int x])).length) Slot.unset).toArray = ls at hl ⊢
  have hl : lv_has ls 4 [(0, .ref q0), (1, .int (nI pp)), (2, .int x)] := hl
  refine lv_iload_n hx hb dT_moveStartsAfter_0 rfl (lv_at hl 1 rfl) ?_
  refine lv_iconst (v := nI 1) hx hb dT_moveStartsAfter_1 (by decide) ?_
  refine lv_iadd hx hb dT_moveStartsAfter_2 ?_
  refine zz_top (y := nI (pp + 1)) (nI_add pp 1) ?_
  refine lv_istore_n (lv' := [(3, .int (nI (pp + 1))), (0, .ref q0), (1, .int (nI pp)), (2, .int x)]) hx hb dT_moveStartsAfter_3 rfl hl (by decide) rfl (fun ls hl => ?_)
  have lp4 : ∀ (fu : Nat) (i : Nat) (gg : Nat → Int32) (hi : pp < i ∧ i ≤ 9) (hg : ∀ j, j < 9 → gg j = if pp < j ∧ j < i then g j + x else g j) (hm : 9 - i < fu) (H : Heap) (locs : List Loc) (hP : va_P D vwCl [(q0, .inr (0, [.ref q1, .ref q2])), (q1, .inl (cI, 400, .inl f)), (q2, .inl (cI, 9, .inl gg))] H) (hD : va_D A [(q0, .inr (0, [.ref q1, .ref q2])), (q1, .inl (cI, 400, .inl f)), (q2, .inl (cI, 9, .inl gg))]) (hS : va_S A s.heap H locs) (ls : Array Slot) (hl : lv_has ls 4 [(0, .ref q0), (1, .int (nI pp)), (2, .int x), (3, .int (nI i))]), W pg l ev (headSpec wT_moveStartsAfter rm_T_moveStartsAfter).room s mt (([.ref q0, .int (nI pp), .int x] : List Value).toArray) below meth kd H locs 0 0 (MQ below (va_Qv (fun u : (Nat → Int32) => ∀ j, j < 9 → u j = if pp < j then g j + x else g j) (fun u : (Nat → Int32) => zz_B D vwCl [(cI, .int), (cB, .boolean)] A [(q0, .inr (0, [.ref q1, .ref q2])), (q1, .inl (cI, 400, .inl f)), (q2, .inl (cI, 9, .inl u))]) A) (([.ref q0, .int (nI pp), .int x] : List Value).toArray) s 0 0 A) (F0 mt 4 ls []) := by
    intro fu
    induction fu with
    | zero => intro i gg hi hg hm; exact absurd hm (Nat.not_lt_zero _)
    | succ fu ih4 =>
      intro i gg hi hg hm H locs hP hD hS ls hl
      refine lv_iload_n hx hb dT_moveStartsAfter_4 rfl (lv_at hl 3 rfl) ?_
      refine lv_bipush (v := nI 8) hx hb dT_moveStartsAfter_5 (by decide) ?_
      refine lv_icmp_gt (tgt := 26) hx hb dT_moveStartsAfter_7 (by decide) (fun c7 => ?_) (fun c7 => ?_)
      · -- taken
        have c7 : 8 < i := (nI_ltI (a := 8) (b := i) (by omega) (by omega)).mp c7
        exact zz_vretW (w1 := fun u : (Nat → Int32) => [(q0, .inr (0, [.ref q1, .ref q2])), (q1, .inl (cI, 400, .inl f)), (q2, .inl (cI, 9, .inl u))]) gg hx hb hr hlocks (fun j hj => by
            rw [hg j hj]; by_cases h2 : pp < j
            · rw [if_pos h2, if_pos (by omega)]
            · rw [if_neg h2, if_neg (by omega)]) hP hK hD hS dT_moveStartsAfter_26
      · -- not taken
        have c7 : ¬ (8 < i) := fun h => c7 ((nI_ltI (a := 8) (b := i) (by omega) (by omega)).mpr h)
        refine lv_aload_n hx hb dT_moveStartsAfter_10 rfl (lv_at hl 0 rfl) ?_
        refine va_get (D := D) (ci := 0) (v := .ref q2) (C := "StatRows$TripleRow") (T := TT) (N := 2) hx hb ht inT hown hK hP 0 rfl rfl 1 (by decide) (ht _ wd25) (fun _ h9 => h9) rfl dT_moveStartsAfter_11 ?_
        refine lv_iload_n hx hb dT_moveStartsAfter_14 rfl (lv_at hl 3 rfl) ?_
        refine lv_dup2_11 hx hb dT_moveStartsAfter_15 rfl rfl ?_
        refine zz_iald (k := i) hx hb hK hP 2 0 rfl rfl (by omega) (by decide) dT_moveStartsAfter_16 ?_
        refine lv_iload_n hx hb dT_moveStartsAfter_17 rfl (lv_at hl 2 rfl) ?_
        refine lv_iadd hx hb dT_moveStartsAfter_18 ?_
        refine zz_iast (k := i) hx hb hK hP hD hS 2 0 rfl rfl (by omega) (by decide) dT_moveStartsAfter_19 (fun H locs hP hD hS => ?_)
        have hP : va_P D vwCl [(q0, .inr (0, [.ref q1, .ref q2])), (q1, .inl (cI, 400, .inl f)), (q2, .inl (cI, 9, .inl (upd gg i ((gg i) + x))))] H := hP
        have hD : va_D A [(q0, .inr (0, [.ref q1, .ref q2])), (q1, .inl (cI, 400, .inl f)), (q2, .inl (cI, 9, .inl (upd gg i ((gg i) + x))))] := hD
        refine lv_iinc (v := nI (i + 1)) (lv' := [(3, .int (nI (i + 1))), (0, .ref q0), (1, .int (nI pp)), (2, .int x)]) hx hb dT_moveStartsAfter_20 hl (k := 3) rfl (nI_1 i) (by decide) rfl (fun ls hl => ?_)
        refine lv_goto (tgt := 4) hx hb dT_moveStartsAfter_23 (by decide) ?_
        exact ih4 (i + 1) (upd gg i (gg i + x)) (by omega) (fun j hj => by
          by_cases h : j = i
          · subst h; rw [pk_us, hg j hj, if_neg (by omega), if_pos (by omega)]
          · rw [pk_un h, hg j hj]; by_cases h2 : pp < j ∧ j < i
            · rw [if_pos h2, if_pos (by omega)]
            · rw [if_neg h2, if_neg (by omega)]) (by omega) _ _ hP hD hS ls (lv_sub hl [1, 2, 3, 0] rfl)
  exact lp4 ((9 - (pp + 1)) + 1) (pp + 1) g (by omega) (fun j hj => by rw [if_neg (by omega)]) (Nat.lt_succ_self _) s.heap _ hP hD hS ls (lv_sub hl [1, 2, 3, 0] rfl)

abbrev rm_T_put : Room := { frames := 2, cells := 0, slots := 0, locals := 45 }
set_option maxHeartbeats 4000000 in
set_option maxRecDepth 100000 in
theorem c_T_put (l : Launch) (D : va_G) (cI cB : ClassId) (sz : Nat) (q0 q1 q2 : Nat) (f g : Nat → Int32) (Ls : Nat → List Nat) (hT : RT Ls f g) (pp c k : Nat) (hp : pp < 8) (hc : c < 65536) (hk : k ≤ (Ls pp).length) (h1 : ∀ j, j < k → (Ls pp).getD j 0 < c) (h2 : k < (Ls pp).length → c ≤ (Ls pp).getD k 0) : Met l yT_put wT_put rm_T_put (zz_P D vwCl [(cI, .int), (cB, .boolean)] [.ref q0, .int (nI pp), .int (nI c)] [(q0, .inr (0, [.ref q1, .ref q2])), (q1, .inl (cI, 400, .inl f)), (q2, .inl (cI, 9, .inl g))] sz) (va_Qi (fun (r : Int32) (u : ((Nat → Int32) × (Nat → Int32))) => (k < (Ls pp).length ∧ (Ls pp).getD k 0 = c ∧ r = nI 0 ∧ RT Ls u.1 u.2) ∨ (¬ (k < (Ls pp).length ∧ (Ls pp).getD k 0 = c) ∧ ((tr_off Ls 8 = 400 ∧ r = -3 ∧ RT Ls u.1 u.2) ∨ (tr_off Ls 8 < 400 ∧ r = nI 1 ∧ RT (tr_ins Ls pp k c) u.1 u.2)))) (fun u : ((Nat → Int32) × (Nat → Int32)) => zz_B D vwCl [(cI, .int), (cB, .boolean)] (va_A [(q0, .inr (0, [.ref q1, .ref q2])), (q1, .inl (cI, 400, .inl f)), (q2, .inl (cI, 9, .inl g))] sz) [(q0, .inr (0, [.ref q1, .ref q2])), (q1, .inl (cI, 400, .inl u.1)), (q2, .inl (cI, 9, .inl u.2))]) (va_A [(q0, .inr (0, [.ref q1, .ref q2])), (q1, .inl (cI, 400, .inl f)), (q2, .inl (cI, 9, .inl g))] sz)) 0 0 (va_A [(q0, .inr (0, [.ref q1, .ref q2])), (q1, .inl (cI, 400, .inl f)), (q2, .inl (cI, 9, .inl g))] sz) := by
  refine Met.ofW (cc := cT_put) (maxL := 4) (ret := (some .int)) (by decide) rfl ?_
  intro pg ev s mt args below meth kd s₁ B hml hv
  obtain ⟨rfl, hsz, hP, hK, hD0, hN⟩ := hv
  have hx := B.exec
  have hb := B.bytes
  have hr := B.returns
  have ht : ∀ w ∈ W0, w.before _ s = true := fun w h => atoms_spec (ws := wT_put) B.pre w (List.mem_cons_of_mem _ h)
  have hown : s.vm.findClass "StatRows$TripleRow" = some mt.cls := findClass_of_methodNamed B.named
  have hlocks := B.notSynchronized
  subst hsz
  have hD := hD0.self (sz := s.heap.size)
  generalize hAe : va_A [(q0, .inr (0, [.ref q1, .ref q2])), (q1, .inl (cI, 400, .inl f)), (q2, .inl (cI, 9, .inl g))] s.heap.size = A at hD ⊢
  have hA : ∀ q : Nat, s.heap.size ≤ q → A q := fun q h => by rw [← hAe]; exact Or.inr h
  have hS : va_S A s.heap s.heap [] := va_S.rf
  have hP : va_P D vwCl [(q0, .inr (0, [.ref q1, .ref q2])), (q1, .inl (cI, 400, .inl f)), (q2, .inl (cI, 9, .inl g))] s.heap := hP
  have hl := lv_entry ([.ref q0, .int (nI pp), .int (nI c)]) (n := 4) (Nat.le_of_ble_eq_true rfl)
  rw [lg_entry_eq]
  generalize (lg_sl ([.ref q0, .int (nI pp), .int (nI c)]) ++ List.replicate (4 - (lg_sl ([.ref q0, .int (nI pp), .int (nI c)])).length) Slot.unset).toArray = ls at hl ⊢
  have hl : lv_has ls 4 [(0, .ref q0), (1, .int (nI pp)), (2, .int (nI c))] := hl
  obtain ⟨a1, a2, a3, a4, a5⟩ := id hT
  have htp := tr_top (Ls := Ls) hp
  have h9 := a1 pp (by omega)
  have h10 := a1 (pp + 1) (by omega)
  rw [tr_next] at h10
  have h8 := a1 8 (by omega)
  refine lv_aload_n hx hb dT_put_0 rfl (lv_at hl 0 rfl) ?_
  refine lv_iload_n hx hb dT_put_1 rfl (lv_at hl 1 rfl) ?_
  refine lv_iload_n hx hb dT_put_2 rfl (lv_at hl 2 rfl) ?_
  refine zz_ci (v := nI (tr_off Ls pp + k)) (W.runV (As := [.int (nI pp), .int (nI c)]) (rest := []) ⟨hx, hb, hml, hown, ht⟩ (c_T_placeOf l D cI cB q0 q1 q2 f g pp (tr_off Ls pp) (Ls pp).length c (fun i => (Ls pp).getD i 0) hp h9 h10 (by omega) (a2 pp hp) (a4 pp hp) hc k hk h1 h2) (cwV 2 ht (gd_V wd113 wd115 wp0 wd2 wd116) rfl rfl rfl (by decide +kernel) ⟨Nat.le_of_ble_eq_true rfl, Nat.le_of_ble_eq_true rfl⟩) (zz_R_V hN hK (hP.sub (ws' := [(q0, .inr (0, [.ref q1, .ref q2])), (q1, .inl (cI, 400, .inl f)), (q2, .inl (cI, 9, .inl g))]) [0, 1, 2] rfl) 0 0 rfl rfl) rfl rfl hl.1 rfl (lv_room (Nat.le_of_ble_eq_true rfl)) dT_put_3 ⟨Nat.le_of_ble_eq_true rfl, Nat.le_of_ble_eq_true rfl⟩) ?_
  refine lv_istore_n (lv' := [(3, .int (nI (tr_off Ls pp + k))), (0, .ref q0), (1, .int (nI pp)), (2, .int (nI c))]) hx hb dT_put_6 rfl hl (by decide) rfl (fun ls hl => ?_)
  refine lv_aload_n hx hb dT_put_7 rfl (lv_at hl 1 rfl) ?_
  refine lv_iload_n hx hb dT_put_8 rfl (lv_at hl 0 rfl) ?_
  refine lv_iload_n hx hb dT_put_9 rfl (lv_at hl 2 rfl) ?_
  refine lv_iload_n hx hb dT_put_10 rfl (lv_at hl 3 rfl) ?_
  refine zz_ci (v := nI ((decide (k < (Ls pp).length ∧ (Ls pp).getD k 0 = c)).toNat)) (W.runV (As := [.int (nI (tr_off Ls pp + k)), .int (nI pp), .int (nI c)]) (rest := []) ⟨hx, hb, hml, hown, ht⟩ (c_T_isAt l D cI cB q0 q1 q2 f g pp (tr_off Ls pp) (Ls pp).length c (fun i => (Ls pp).getD i 0) hp h9 h10 (by omega) (a2 pp hp) (a4 pp hp) hc k hk) (cwV 3 ht (gd_V wd125 wd127 wp1 wd2 wd128) rfl rfl rfl (by decide +kernel) ⟨Nat.le_of_ble_eq_true rfl, Nat.le_of_ble_eq_true rfl⟩) (zz_R_V hN hK (hP.sub (ws' := [(q0, .inr (0, [.ref q1, .ref q2])), (q1, .inl (cI, 400, .inl f)), (q2, .inl (cI, 9, .inl g))]) [0, 1, 2] rfl) 0 0 rfl rfl) rfl rfl hl.1 rfl (lv_room (Nat.le_of_ble_eq_true rfl)) dT_put_11 ⟨Nat.le_of_ble_eq_true rfl, Nat.le_of_ble_eq_true rfl⟩) ?_
  have hbl := btl (decide (k < (Ls pp).length ∧ (Ls pp).getD k 0 = c))
  refine lv_if_eq (tgt := 19) hx hb dT_put_14 (by decide) (fun c14 => ?_) (fun c14 => ?_)
  · -- taken
    have c14 : (decide (k < (Ls pp).length ∧ (Ls pp).getD k 0 = c)).toNat = 0 := (nI_eq (a := (decide (k < (Ls pp).length ∧ (Ls pp).getD k 0 = c)).toNat) (b := 0) (by omega) (by omega)).mp c14
    have hin := of_decide_eq_false (bt0 c14)
    refine lv_aload_n hx hb dT_put_19 rfl (lv_at hl 1 rfl) ?_
    refine zz_ci (v := nI (tr_off Ls 8)) (W.runV (As := []) (rest := []) ⟨hx, hb, hml, hown, ht⟩ (c_T_size l D cI cB q0 q1 q2 f g (tr_off Ls 8) h8) (cwV 0 ht (gd_V wd129 wd130 wd131 wd2 wd132) rfl rfl rfl (by decide +kernel) ⟨Nat.le_of_ble_eq_true rfl, Nat.le_of_ble_eq_true rfl⟩) (zz_R_V hN hK (hP.sub (ws' := [(q0, .inr (0, [.ref q1, .ref q2])), (q1, .inl (cI, 400, .inl f)), (q2, .inl (cI, 9, .inl g))]) [0, 1, 2] rfl) 0 0 rfl rfl) rfl rfl hl.1 rfl (lv_room (Nat.le_of_ble_eq_true rfl)) dT_put_20 ⟨Nat.le_of_ble_eq_true rfl, Nat.le_of_ble_eq_true rfl⟩) ?_
    refine lv_sipush (v := nI 400) hx hb dT_put_23 (by decide) ?_
    refine lv_icmp_lt (tgt := 32) hx hb dT_put_26 (by decide) (fun c26 => ?_) (fun c26 => ?_)
    · -- taken
      have c26 : tr_off Ls 8 < 400 := (nI_ltI (a := tr_off Ls 8) (b := 400) (by omega) (by omega)).mp c26
      refine lv_aload_n hx hb dT_put_32 rfl (lv_at hl 1 rfl) ?_
      refine va_get (D := D) (ci := 0) (v := .ref q1) (C := "StatRows$TripleRow") (T := TT) (N := 2) hx hb ht inT hown hK hP 0 rfl rfl 0 (by decide) (ht _ wd24) (fun _ h9 => h9) rfl dT_put_33 ?_
      refine lv_iload_n hx hb dT_put_36 rfl (lv_at hl 0 rfl) ?_
      refine lv_aload_n hx hb dT_put_37 rfl (lv_at hl 1 rfl) ?_
      refine va_get (D := D) (ci := 0) (v := .ref q1) (C := "StatRows$TripleRow") (T := TT) (N := 2) hx hb ht inT hown hK hP 0 rfl rfl 0 (by decide) (ht _ wd24) (fun _ h9 => h9) rfl dT_put_38 ?_
      refine lv_iload_n hx hb dT_put_41 rfl (lv_at hl 0 rfl) ?_
      refine lv_iconst (v := nI 1) hx hb dT_put_42 (by decide) ?_
      refine lv_iadd hx hb dT_put_43 ?_
      refine zz_top (y := nI ((tr_off Ls pp + k) + 1)) (nI_add (tr_off Ls pp + k) 1) ?_
      refine lv_aload_n hx hb dT_put_44 rfl (lv_at hl 1 rfl) ?_
      refine zz_ci (v := nI (tr_off Ls 8)) (W.runV (As := []) (rest := [.int (nI ((tr_off Ls pp + k) + 1)), .ref q1, .int (nI (tr_off Ls pp + k)), .ref q1]) ⟨hx, hb, hml, hown, ht⟩ (c_T_size l D cI cB q0 q1 q2 f g (tr_off Ls 8) h8) (cwV 0 ht (gd_V wd129 wd130 wd131 wd2 wd132) rfl rfl rfl (by decide +kernel) ⟨Nat.le_of_ble_eq_true rfl, Nat.le_of_ble_eq_true rfl⟩) (zz_R_V hN hK (hP.sub (ws' := [(q0, .inr (0, [.ref q1, .ref q2])), (q1, .inl (cI, 400, .inl f)), (q2, .inl (cI, 9, .inl g))]) [0, 1, 2] rfl) 0 0 rfl rfl) rfl rfl hl.1 rfl (lv_room (Nat.le_of_ble_eq_true rfl)) dT_put_45 ⟨Nat.le_of_ble_eq_true rfl, Nat.le_of_ble_eq_true rfl⟩) ?_
      refine lv_iload_n hx hb dT_put_48 rfl (lv_at hl 0 rfl) ?_
      refine lv_isub hx hb dT_put_49 ?_
      refine zz_top (y := nI ((tr_off Ls 8) - (tr_off Ls pp + k))) (pk_sub (a := tr_off Ls 8) (b := tr_off Ls pp + k) (by omega)) ?_
      refine zz_copyi (sp := tr_off Ls pp + k) (dp := (tr_off Ls pp + k) + 1) (n := (tr_off Ls 8) - (tr_off Ls pp + k)) hx hb (hml.trans hl.1.symm) hown (ht _ wd133) (ht _ wd135) (ht _ wd134) (ht _ wd7) hK hP hD hS 1 0 rfl rfl (by decide) (by omega) (by omega) (Nat.le_of_ble_eq_true rfl) (Nat.le_of_ble_eq_true rfl) dT_put_50 (fun H locs hP hD hS => ?_)
      have hP : va_P D vwCl [(q0, .inr (0, [.ref q1, .ref q2])), (q1, .inl (cI, 400, .inl (va_cpy f f (tr_off Ls pp + k) ((tr_off Ls pp + k) + 1) ((tr_off Ls 8) - (tr_off Ls pp + k))))), (q2, .inl (cI, 9, .inl g))] H := hP
      have hD : va_D A [(q0, .inr (0, [.ref q1, .ref q2])), (q1, .inl (cI, 400, .inl (va_cpy f f (tr_off Ls pp + k) ((tr_off Ls pp + k) + 1) ((tr_off Ls 8) - (tr_off Ls pp + k))))), (q2, .inl (cI, 9, .inl g))] := hD
      refine lv_aload_n hx hb dT_put_53 rfl (lv_at hl 1 rfl) ?_
      refine va_get (D := D) (ci := 0) (v := .ref q1) (C := "StatRows$TripleRow") (T := TT) (N := 2) hx hb ht inT hown hK hP 0 rfl rfl 0 (by decide) (ht _ wd24) (fun _ h9 => h9) rfl dT_put_54 ?_
      refine lv_iload_n hx hb dT_put_57 rfl (lv_at hl 0 rfl) ?_
      refine lv_iload_n hx hb dT_put_58 rfl (lv_at hl 3 rfl) ?_
      refine zz_iast (k := tr_off Ls pp + k) hx hb hK hP hD hS 1 0 rfl rfl (by omega) (by decide) dT_put_59 (fun H locs hP hD hS => ?_)
      have hP : va_P D vwCl [(q0, .inr (0, [.ref q1, .ref q2])), (q1, .inl (cI, 400, .inl (upd (va_cpy f f (tr_off Ls pp + k) ((tr_off Ls pp + k) + 1) ((tr_off Ls 8) - (tr_off Ls pp + k))) (tr_off Ls pp + k) (nI c)))), (q2, .inl (cI, 9, .inl g))] H := hP
      have hD : va_D A [(q0, .inr (0, [.ref q1, .ref q2])), (q1, .inl (cI, 400, .inl (upd (va_cpy f f (tr_off Ls pp + k) ((tr_off Ls pp + k) + 1) ((tr_off Ls 8) - (tr_off Ls pp + k))) (tr_off Ls pp + k) (nI c)))), (q2, .inl (cI, 9, .inl g))] := hD
      refine lv_aload_n hx hb dT_put_60 rfl (lv_at hl 1 rfl) ?_
      refine lv_iload_n hx hb dT_put_61 rfl (lv_at hl 2 rfl) ?_
      refine lv_iconst (v := nI 1) hx hb dT_put_62 (by decide) ?_
      refine zz_wv (wc := [(q0, .inr (0, [.ref q1, .ref q2])), (q1, .inl (cI, 400, .inl (upd (va_cpy f f (tr_off Ls pp + k) ((tr_off Ls pp + k) + 1) ((tr_off Ls 8) - (tr_off Ls pp + k))) (tr_off Ls pp + k) (nI c)))), (q2, .inl (cI, 9, .inl g))]) (wr := []) (va_runV (As := [.int (nI pp), .int (nI 1)]) (rest := []) ⟨hx, hb, hml, hown, ht⟩ (c_T_moveStartsAfter l D cI cB H.size q0 q1 q2 _ g pp (nI 1) hp) (cwV 2 ht (gd_V wd136 wd138 wp2 wd2 wd139) rfl rfl rfl (by decide +kernel) ⟨Nat.le_of_ble_eq_true rfl, Nat.le_of_ble_eq_true rfl⟩) (zz_P_V hN hK (hP.sub (ws' := [(q0, .inr (0, [.ref q1, .ref q2])), (q1, .inl (cI, 400, .inl (upd (va_cpy f f (tr_off Ls pp + k) ((tr_off Ls pp + k) + 1) ((tr_off Ls 8) - (tr_off Ls pp + k))) (tr_off Ls pp + k) (nI c)))), (q2, .inl (cI, 9, .inl g))]) [0, 1, 2] rfl) (hD.sub (ws' := [(q0, .inr (0, [.ref q1, .ref q2])), (q1, .inl (cI, 400, .inl (upd (va_cpy f f (tr_off Ls pp + k) ((tr_off Ls pp + k) + 1) ((tr_off Ls 8) - (tr_off Ls pp + k))) (tr_off Ls pp + k) (nI c)))), (q2, .inl (cI, 9, .inl g))]) [0, 1, 2] (by decide) rfl) 0 0 rfl rfl) rfl rfl hl.1 rfl (lv_room (Nat.le_of_ble_eq_true rfl)) dT_put_63 ⟨Nat.le_of_ble_eq_true rfl, Nat.le_of_ble_eq_true rfl⟩) hP hD hS hA [0, 1, 2] [] rfl rfl (by decide) (by decide) (fun u63 H locs hq63 hP hD hS => ?_)
      have hP := hP.sub (ws' := [(q0, .inr (0, [.ref q1, .ref q2])), (q1, .inl (cI, 400, .inl (upd (va_cpy f f (tr_off Ls pp + k) ((tr_off Ls pp + k) + 1) ((tr_off Ls 8) - (tr_off Ls pp + k))) (tr_off Ls pp + k) (nI c)))), (q2, .inl (cI, 9, .inl u63))]) [0, 1, 2] rfl
      have hD := hD.sub (ws' := [(q0, .inr (0, [.ref q1, .ref q2])), (q1, .inl (cI, 400, .inl (upd (va_cpy f f (tr_off Ls pp + k) ((tr_off Ls pp + k) + 1) ((tr_off Ls 8) - (tr_off Ls pp + k))) (tr_off Ls pp + k) (nI c)))), (q2, .inl (cI, 9, .inl u63))]) [0, 1, 2] (by decide) rfl
      have e1 : ∀ j, j < 400 → (upd (va_cpy f f (tr_off Ls pp + k) (tr_off Ls pp + k + 1) (tr_off Ls 8 - (tr_off Ls pp + k))) (tr_off Ls pp + k) (nI c)) j = if j = tr_off Ls pp + k then nI c else if tr_off Ls pp + k < j ∧ j ≤ tr_off Ls 8 then f (j - 1) else f j := fun j hj => by
        by_cases h : j = tr_off Ls pp + k
        · rw [h, pk_us, if_pos rfl]
        · rw [pk_un h, if_neg h]
          by_cases h3 : tr_off Ls pp + k < j ∧ j ≤ tr_off Ls 8
          · rw [if_pos h3, pk_cpy_in (by omega) (by omega)]; congr 1; omega
          · rw [if_neg h3, pk_cpy_out (by omega)]
      have e2 : ∀ j, k ≤ j → j < (Ls pp).length → c < (Ls pp).getD j 0 := fun j hj hj2 => by
        have q1 := h2 (by omega)
        have q2 : (Ls pp).getD k 0 ≠ c := fun q => hin ⟨by omega, q⟩
        rcases Nat.lt_or_ge k j with q | q
        · have := a5 pp hp k j q hj2; omega
        · have : j = k := by omega
          subst this; omega
      refine lv_iconst (v := nI 1) hx hb dT_put_66 (by decide) ?_
      exact zz_iretW (v := nI 1) (w1 := fun u : ((Nat → Int32) × (Nat → Int32)) => [(q0, .inr (0, [.ref q1, .ref q2])), (q1, .inl (cI, 400, .inl u.1)), (q2, .inl (cI, 9, .inl u.2))]) (upd (va_cpy f f (tr_off Ls pp + k) ((tr_off Ls pp + k) + 1) ((tr_off Ls 8) - (tr_off Ls pp + k))) (tr_off Ls pp + k) (nI c), u63) hx hb hr hlocks (Or.inr ⟨hin, Or.inr ⟨by omega, rfl, RT_ins hT hp hc hk h1 e2 (by omega) e1 hq63⟩⟩) hP hK hD hS dT_put_67
    · -- not taken
      have c26 : ¬ (tr_off Ls 8 < 400) := fun h => c26 ((nI_ltI (a := tr_off Ls 8) (b := 400) (by omega) (by omega)).mpr h)
      refine lv_bipush (v := (-3)) hx hb dT_put_29 (by decide) ?_
      exact zz_iretW (v := (-3)) (w1 := fun u : ((Nat → Int32) × (Nat → Int32)) => [(q0, .inr (0, [.ref q1, .ref q2])), (q1, .inl (cI, 400, .inl u.1)), (q2, .inl (cI, 9, .inl u.2))]) (f, g) hx hb hr hlocks (Or.inr ⟨hin, Or.inl ⟨by omega, rfl, hT⟩⟩) hP hK hD hS dT_put_31
  · -- not taken
    have c14 : ¬ ((decide (k < (Ls pp).length ∧ (Ls pp).getD k 0 = c)).toNat = 0) := fun h => c14 ((nI_eq (a := (decide (k < (Ls pp).length ∧ (Ls pp).getD k 0 = c)).toNat) (b := 0) (by omega) (by omega)).mpr h)
    have hin := of_decide_eq_true (bt1 c14)
    refine lv_iconst (v := nI 0) hx hb dT_put_17 (by decide) ?_
    exact zz_iretW (v := nI 0) (w1 := fun u : ((Nat → Int32) × (Nat → Int32)) => [(q0, .inr (0, [.ref q1, .ref q2])), (q1, .inl (cI, 400, .inl u.1)), (q2, .inl (cI, 9, .inl u.2))]) (f, g) hx hb hr hlocks (Or.inl ⟨hin.1, hin.2, rfl, hT⟩) hP hK hD hS dT_put_18

abbrev rm_T_remove : Room := { frames := 2, cells := 0, slots := 0, locals := 45 }
set_option maxHeartbeats 4000000 in
set_option maxRecDepth 100000 in
theorem c_T_remove (l : Launch) (D : va_G) (cI cB : ClassId) (sz : Nat) (q0 q1 q2 : Nat) (f g : Nat → Int32) (Ls : Nat → List Nat) (hT : RT Ls f g) (pp c k : Nat) (hp : pp < 8) (hc : c < 65536) (hk : k ≤ (Ls pp).length) (h1 : ∀ j, j < k → (Ls pp).getD j 0 < c) (h2 : k < (Ls pp).length → c ≤ (Ls pp).getD k 0) : Met l yT_remove wT_remove rm_T_remove (zz_P D vwCl [(cI, .int), (cB, .boolean)] [.ref q0, .int (nI pp), .int (nI c)] [(q0, .inr (0, [.ref q1, .ref q2])), (q1, .inl (cI, 400, .inl f)), (q2, .inl (cI, 9, .inl g))] sz) (va_Qi (fun (r : Int32) (u : ((Nat → Int32) × (Nat → Int32))) => (k < (Ls pp).length ∧ (Ls pp).getD k 0 = c ∧ r = nI 1 ∧ RT (tr_del Ls pp k) u.1 u.2) ∨ (¬ (k < (Ls pp).length ∧ (Ls pp).getD k 0 = c) ∧ r = nI 0 ∧ RT Ls u.1 u.2)) (fun u : ((Nat → Int32) × (Nat → Int32)) => zz_B D vwCl [(cI, .int), (cB, .boolean)] (va_A [(q0, .inr (0, [.ref q1, .ref q2])), (q1, .inl (cI, 400, .inl f)), (q2, .inl (cI, 9, .inl g))] sz) [(q0, .inr (0, [.ref q1, .ref q2])), (q1, .inl (cI, 400, .inl u.1)), (q2, .inl (cI, 9, .inl u.2))]) (va_A [(q0, .inr (0, [.ref q1, .ref q2])), (q1, .inl (cI, 400, .inl f)), (q2, .inl (cI, 9, .inl g))] sz)) 0 0 (va_A [(q0, .inr (0, [.ref q1, .ref q2])), (q1, .inl (cI, 400, .inl f)), (q2, .inl (cI, 9, .inl g))] sz) := by
  refine Met.ofW (cc := cT_remove) (maxL := 4) (ret := (some .int)) (by decide) rfl ?_
  intro pg ev s mt args below meth kd s₁ B hml hv
  obtain ⟨rfl, hsz, hP, hK, hD0, hN⟩ := hv
  have hx := B.exec
  have hb := B.bytes
  have hr := B.returns
  have ht : ∀ w ∈ W0, w.before _ s = true := fun w h => atoms_spec (ws := wT_remove) B.pre w (List.mem_cons_of_mem _ h)
  have hown : s.vm.findClass "StatRows$TripleRow" = some mt.cls := findClass_of_methodNamed B.named
  have hlocks := B.notSynchronized
  subst hsz
  have hD := hD0.self (sz := s.heap.size)
  generalize hAe : va_A [(q0, .inr (0, [.ref q1, .ref q2])), (q1, .inl (cI, 400, .inl f)), (q2, .inl (cI, 9, .inl g))] s.heap.size = A at hD ⊢
  have hA : ∀ q : Nat, s.heap.size ≤ q → A q := fun q h => by rw [← hAe]; exact Or.inr h
  have hS : va_S A s.heap s.heap [] := va_S.rf
  have hP : va_P D vwCl [(q0, .inr (0, [.ref q1, .ref q2])), (q1, .inl (cI, 400, .inl f)), (q2, .inl (cI, 9, .inl g))] s.heap := hP
  have hl := lv_entry ([.ref q0, .int (nI pp), .int (nI c)]) (n := 4) (Nat.le_of_ble_eq_true rfl)
  rw [lg_entry_eq]
  generalize (lg_sl ([.ref q0, .int (nI pp), .int (nI c)]) ++ List.replicate (4 - (lg_sl ([.ref q0, .int (nI pp), .int (nI c)])).length) Slot.unset).toArray = ls at hl ⊢
  have hl : lv_has ls 4 [(0, .ref q0), (1, .int (nI pp)), (2, .int (nI c))] := hl
  obtain ⟨a1, a2, a3, a4, a5⟩ := id hT
  have htp := tr_top (Ls := Ls) hp
  have h9 := a1 pp (by omega)
  have h10 := a1 (pp + 1) (by omega)
  rw [tr_next] at h10
  have h8 := a1 8 (by omega)
  refine lv_aload_n hx hb dT_remove_0 rfl (lv_at hl 0 rfl) ?_
  refine lv_iload_n hx hb dT_remove_1 rfl (lv_at hl 1 rfl) ?_
  refine lv_iload_n hx hb dT_remove_2 rfl (lv_at hl 2 rfl) ?_
  refine zz_ci (v := nI (tr_off Ls pp + k)) (W.runV (As := [.int (nI pp), .int (nI c)]) (rest := []) ⟨hx, hb, hml, hown, ht⟩ (c_T_placeOf l D cI cB q0 q1 q2 f g pp (tr_off Ls pp) (Ls pp).length c (fun i => (Ls pp).getD i 0) hp h9 h10 (by omega) (a2 pp hp) (a4 pp hp) hc k hk h1 h2) (cwV 2 ht (gd_V wd113 wd115 wp0 wd2 wd116) rfl rfl rfl (by decide +kernel) ⟨Nat.le_of_ble_eq_true rfl, Nat.le_of_ble_eq_true rfl⟩) (zz_R_V hN hK (hP.sub (ws' := [(q0, .inr (0, [.ref q1, .ref q2])), (q1, .inl (cI, 400, .inl f)), (q2, .inl (cI, 9, .inl g))]) [0, 1, 2] rfl) 0 0 rfl rfl) rfl rfl hl.1 rfl (lv_room (Nat.le_of_ble_eq_true rfl)) dT_remove_3 ⟨Nat.le_of_ble_eq_true rfl, Nat.le_of_ble_eq_true rfl⟩) ?_
  refine lv_istore_n (lv' := [(3, .int (nI (tr_off Ls pp + k))), (0, .ref q0), (1, .int (nI pp)), (2, .int (nI c))]) hx hb dT_remove_6 rfl hl (by decide) rfl (fun ls hl => ?_)
  refine lv_aload_n hx hb dT_remove_7 rfl (lv_at hl 1 rfl) ?_
  refine lv_iload_n hx hb dT_remove_8 rfl (lv_at hl 0 rfl) ?_
  refine lv_iload_n hx hb dT_remove_9 rfl (lv_at hl 2 rfl) ?_
  refine lv_iload_n hx hb dT_remove_10 rfl (lv_at hl 3 rfl) ?_
  refine zz_ci (v := nI ((decide (k < (Ls pp).length ∧ (Ls pp).getD k 0 = c)).toNat)) (W.runV (As := [.int (nI (tr_off Ls pp + k)), .int (nI pp), .int (nI c)]) (rest := []) ⟨hx, hb, hml, hown, ht⟩ (c_T_isAt l D cI cB q0 q1 q2 f g pp (tr_off Ls pp) (Ls pp).length c (fun i => (Ls pp).getD i 0) hp h9 h10 (by omega) (a2 pp hp) (a4 pp hp) hc k hk) (cwV 3 ht (gd_V wd125 wd127 wp1 wd2 wd128) rfl rfl rfl (by decide +kernel) ⟨Nat.le_of_ble_eq_true rfl, Nat.le_of_ble_eq_true rfl⟩) (zz_R_V hN hK (hP.sub (ws' := [(q0, .inr (0, [.ref q1, .ref q2])), (q1, .inl (cI, 400, .inl f)), (q2, .inl (cI, 9, .inl g))]) [0, 1, 2] rfl) 0 0 rfl rfl) rfl rfl hl.1 rfl (lv_room (Nat.le_of_ble_eq_true rfl)) dT_remove_11 ⟨Nat.le_of_ble_eq_true rfl, Nat.le_of_ble_eq_true rfl⟩) ?_
  have hbl := btl (decide (k < (Ls pp).length ∧ (Ls pp).getD k 0 = c))
  refine lv_if_ne (tgt := 19) hx hb dT_remove_14 (by decide) (fun c14 => ?_) (fun c14 => ?_)
  · -- taken
    have c14 : ¬ ((decide (k < (Ls pp).length ∧ (Ls pp).getD k 0 = c)).toNat = 0) := fun h => c14 ((nI_eq (a := (decide (k < (Ls pp).length ∧ (Ls pp).getD k 0 = c)).toNat) (b := 0) (by omega) (by omega)).mpr h)
    have hin := of_decide_eq_true (bt1 c14)
    refine lv_aload_n hx hb dT_remove_19 rfl (lv_at hl 1 rfl) ?_
    refine va_get (D := D) (ci := 0) (v := .ref q1) (C := "StatRows$TripleRow") (T := TT) (N := 2) hx hb ht inT hown hK hP 0 rfl rfl 0 (by decide) (ht _ wd24) (fun _ h9 => h9) rfl dT_remove_20 ?_
    refine lv_iload_n hx hb dT_remove_23 rfl (lv_at hl 0 rfl) ?_
    refine lv_iconst (v := nI 1) hx hb dT_remove_24 (by decide) ?_
    refine lv_iadd hx hb dT_remove_25 ?_
    refine zz_top (y := nI ((tr_off Ls pp + k) + 1)) (nI_add (tr_off Ls pp + k) 1) ?_
    refine lv_aload_n hx hb dT_remove_26 rfl (lv_at hl 1 rfl) ?_
    refine va_get (D := D) (ci := 0) (v := .ref q1) (C := "StatRows$TripleRow") (T := TT) (N := 2) hx hb ht inT hown hK hP 0 rfl rfl 0 (by decide) (ht _ wd24) (fun _ h9 => h9) rfl dT_remove_27 ?_
    refine lv_iload_n hx hb dT_remove_30 rfl (lv_at hl 0 rfl) ?_
    refine lv_aload_n hx hb dT_remove_31 rfl (lv_at hl 1 rfl) ?_
    refine zz_ci (v := nI (tr_off Ls 8)) (W.runV (As := []) (rest := [.int (nI (tr_off Ls pp + k)), .ref q1, .int (nI ((tr_off Ls pp + k) + 1)), .ref q1]) ⟨hx, hb, hml, hown, ht⟩ (c_T_size l D cI cB q0 q1 q2 f g (tr_off Ls 8) h8) (cwV 0 ht (gd_V wd129 wd130 wd131 wd2 wd132) rfl rfl rfl (by decide +kernel) ⟨Nat.le_of_ble_eq_true rfl, Nat.le_of_ble_eq_true rfl⟩) (zz_R_V hN hK (hP.sub (ws' := [(q0, .inr (0, [.ref q1, .ref q2])), (q1, .inl (cI, 400, .inl f)), (q2, .inl (cI, 9, .inl g))]) [0, 1, 2] rfl) 0 0 rfl rfl) rfl rfl hl.1 rfl (lv_room (Nat.le_of_ble_eq_true rfl)) dT_remove_32 ⟨Nat.le_of_ble_eq_true rfl, Nat.le_of_ble_eq_true rfl⟩) ?_
    refine lv_iload_n hx hb dT_remove_35 rfl (lv_at hl 0 rfl) ?_
    refine lv_isub hx hb dT_remove_36 ?_
    refine zz_top (y := nI ((tr_off Ls 8) - (tr_off Ls pp + k))) (pk_sub (a := tr_off Ls 8) (b := tr_off Ls pp + k) (by omega)) ?_
    refine lv_iconst (v := nI 1) hx hb dT_remove_37 (by decide) ?_
    refine lv_isub hx hb dT_remove_38 ?_
    refine zz_top (y := nI (((tr_off Ls 8) - (tr_off Ls pp + k)) - 1)) (pk_sub (a := (tr_off Ls 8) - (tr_off Ls pp + k)) (b := 1) (by omega)) ?_
    refine zz_copyi (sp := (tr_off Ls pp + k) + 1) (dp := tr_off Ls pp + k) (n := ((tr_off Ls 8) - (tr_off Ls pp + k)) - 1) hx hb (hml.trans hl.1.symm) hown (ht _ wd133) (ht _ wd135) (ht _ wd134) (ht _ wd7) hK hP hD hS 1 0 rfl rfl (by decide) (by omega) (by omega) (Nat.le_of_ble_eq_true rfl) (Nat.le_of_ble_eq_true rfl) dT_remove_39 (fun H locs hP hD hS => ?_)
    have hP : va_P D vwCl [(q0, .inr (0, [.ref q1, .ref q2])), (q1, .inl (cI, 400, .inl (va_cpy f f ((tr_off Ls pp + k) + 1) (tr_off Ls pp + k) (((tr_off Ls 8) - (tr_off Ls pp + k)) - 1)))), (q2, .inl (cI, 9, .inl g))] H := hP
    have hD : va_D A [(q0, .inr (0, [.ref q1, .ref q2])), (q1, .inl (cI, 400, .inl (va_cpy f f ((tr_off Ls pp + k) + 1) (tr_off Ls pp + k) (((tr_off Ls 8) - (tr_off Ls pp + k)) - 1)))), (q2, .inl (cI, 9, .inl g))] := hD
    refine lv_aload_n hx hb dT_remove_42 rfl (lv_at hl 1 rfl) ?_
    refine lv_iload_n hx hb dT_remove_43 rfl (lv_at hl 2 rfl) ?_
    refine lv_iconst (v := (-1)) hx hb dT_remove_44 (by decide) ?_
    refine zz_wv (wc := [(q0, .inr (0, [.ref q1, .ref q2])), (q1, .inl (cI, 400, .inl (va_cpy f f ((tr_off Ls pp + k) + 1) (tr_off Ls pp + k) (((tr_off Ls 8) - (tr_off Ls pp + k)) - 1)))), (q2, .inl (cI, 9, .inl g))]) (wr := []) (va_runV (As := [.int (nI pp), .int (-1)]) (rest := []) ⟨hx, hb, hml, hown, ht⟩ (c_T_moveStartsAfter l D cI cB H.size q0 q1 q2 _ g pp (-1) hp) (cwV 2 ht (gd_V wd136 wd138 wp2 wd2 wd139) rfl rfl rfl (by decide +kernel) ⟨Nat.le_of_ble_eq_true rfl, Nat.le_of_ble_eq_true rfl⟩) (zz_P_V hN hK (hP.sub (ws' := [(q0, .inr (0, [.ref q1, .ref q2])), (q1, .inl (cI, 400, .inl (va_cpy f f ((tr_off Ls pp + k) + 1) (tr_off Ls pp + k) (((tr_off Ls 8) - (tr_off Ls pp + k)) - 1)))), (q2, .inl (cI, 9, .inl g))]) [0, 1, 2] rfl) (hD.sub (ws' := [(q0, .inr (0, [.ref q1, .ref q2])), (q1, .inl (cI, 400, .inl (va_cpy f f ((tr_off Ls pp + k) + 1) (tr_off Ls pp + k) (((tr_off Ls 8) - (tr_off Ls pp + k)) - 1)))), (q2, .inl (cI, 9, .inl g))]) [0, 1, 2] (by decide) rfl) 0 0 rfl rfl) rfl rfl hl.1 rfl (lv_room (Nat.le_of_ble_eq_true rfl)) dT_remove_45 ⟨Nat.le_of_ble_eq_true rfl, Nat.le_of_ble_eq_true rfl⟩) hP hD hS hA [0, 1, 2] [] rfl rfl (by decide) (by decide) (fun u45 H locs hq45 hP hD hS => ?_)
    have hP := hP.sub (ws' := [(q0, .inr (0, [.ref q1, .ref q2])), (q1, .inl (cI, 400, .inl (va_cpy f f ((tr_off Ls pp + k) + 1) (tr_off Ls pp + k) (((tr_off Ls 8) - (tr_off Ls pp + k)) - 1)))), (q2, .inl (cI, 9, .inl u45))]) [0, 1, 2] rfl
    have hD := hD.sub (ws' := [(q0, .inr (0, [.ref q1, .ref q2])), (q1, .inl (cI, 400, .inl (va_cpy f f ((tr_off Ls pp + k) + 1) (tr_off Ls pp + k) (((tr_off Ls 8) - (tr_off Ls pp + k)) - 1)))), (q2, .inl (cI, 9, .inl u45))]) [0, 1, 2] (by decide) rfl
    have e1 : ∀ j, j < 400 → (va_cpy f f (tr_off Ls pp + k + 1) (tr_off Ls pp + k) (tr_off Ls 8 - (tr_off Ls pp + k) - 1)) j = if tr_off Ls pp + k ≤ j ∧ j + 1 < tr_off Ls 8 then f (j + 1) else f j := fun j hj => by
      by_cases h3 : tr_off Ls pp + k ≤ j ∧ j + 1 < tr_off Ls 8
      · rw [if_pos h3, pk_cpy_in (by omega) (by omega)]; congr 1; omega
      · rw [if_neg h3, pk_cpy_out (by omega)]
    refine lv_iconst (v := nI 1) hx hb dT_remove_48 (by decide) ?_
    exact zz_iretW (v := nI 1) (w1 := fun u : ((Nat → Int32) × (Nat → Int32)) => [(q0, .inr (0, [.ref q1, .ref q2])), (q1, .inl (cI, 400, .inl u.1)), (q2, .inl (cI, 9, .inl u.2))]) (va_cpy f f ((tr_off Ls pp + k) + 1) (tr_off Ls pp + k) (((tr_off Ls 8) - (tr_off Ls pp + k)) - 1), u45) hx hb hr hlocks (Or.inl ⟨hin.1, hin.2, rfl, RT_del hT hp hin.1 e1 hq45⟩) hP hK hD hS dT_remove_49
  · -- not taken
    have c14 : (decide (k < (Ls pp).length ∧ (Ls pp).getD k 0 = c)).toNat = 0 := (nI_eq (a := (decide (k < (Ls pp).length ∧ (Ls pp).getD k 0 = c)).toNat) (b := 0) (by omega) (by omega)).mp c14
    have hin := of_decide_eq_false (bt0 (by omega))
    refine lv_iconst (v := nI 0) hx hb dT_remove_17 (by decide) ?_
    exact zz_iretW (v := nI 0) (w1 := fun u : ((Nat → Int32) × (Nat → Int32)) => [(q0, .inr (0, [.ref q1, .ref q2])), (q1, .inl (cI, 400, .inl u.1)), (q2, .inl (cI, 9, .inl u.2))]) (f, g) hx hb hr hlocks (Or.inr ⟨hin, rfl, hT⟩) hP hK hD hS dT_remove_18
