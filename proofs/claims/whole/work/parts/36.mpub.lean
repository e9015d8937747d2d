abbrev rm_M_triple : Room := { frames := 1, cells := 0, slots := 0, locals := 25 }
set_option maxHeartbeats 4000000 in
set_option maxRecDepth 100000 in
theorem c_M_triple (l : Launch) (D : va_G) (cI cB : ClassId) (sz : Nat) (m0 m1 m2 m3 m4 m5 m6 n k e : Nat) (su pd ob : Nat → Int32) (T : List Nat) (hM : RM T su pd ob) (s1 p1 o1 : Int32) : Met l yM_triple wM_triple rm_M_triple (zz_P D vwCl [(cI, .int), (cB, .boolean)] [.ref m0, .int s1, .int p1, .int o1] [(m0, .inr (5, [.int (nI T.length), .ref m1, .ref m2, .ref m3, .int (nI n), .ref m4, .int (nI e), .int (nI k), .ref m5, .ref m6])), (m1, .inl (cI, 400, .inl su)), (m2, .inl (cI, 400, .inl pd)), (m3, .inl (cI, 400, .inl ob))] sz) (va_Qi (fun (r : Int32) (u : ((Nat → Int32) × (Nat → Int32) × (Nat → Int32) × List Nat)) => ((inr_ 256 s1 && inr_ 8 p1 && inr_ 256 o1) = false ∧ r = -1 ∧ u = (su, pd, ob, T)) ∨ ∃ ss pp oo, ss < 256 ∧ pp < 8 ∧ oo < 256 ∧ s1 = nI ss ∧ p1 = nI pp ∧ o1 = nI oo ∧ (((∃ j, j < T.length ∧ T.getD j 0 = 65536 * pp + 256 * ss + oo) ∧ r = nI 0 ∧ u = (su, pd, ob, T)) ∨ ((∀ j, j < T.length → T.getD j 0 ≠ 65536 * pp + 256 * ss + oo) ∧ T.length = 400 ∧ r = -3 ∧ u = (su, pd, ob, T)) ∨ ((∀ j, j < T.length → T.getD j 0 ≠ 65536 * pp + 256 * ss + oo) ∧ T.length < 400 ∧ r = nI 1 ∧ u.2.2.2 = T ++ [65536 * pp + 256 * ss + oo] ∧ RM (T ++ [65536 * pp + 256 * ss + oo]) u.1 u.2.1 u.2.2.1))) (fun u : ((Nat → Int32) × (Nat → Int32) × (Nat → Int32) × List Nat) => zz_B D vwCl [(cI, .int), (cB, .boolean)] (va_A [(m0, .inr (5, [.int (nI T.length), .ref m1, .ref m2, .ref m3, .int (nI n), .ref m4, .int (nI e), .int (nI k), .ref m5, .ref m6])), (m1, .inl (cI, 400, .inl su)), (m2, .inl (cI, 400, .inl pd)), (m3, .inl (cI, 400, .inl ob))] sz) [(m0, .inr (5, [.int (nI u.2.2.2.length), .ref m1, .ref m2, .ref m3, .int (nI n), .ref m4, .int (nI e), .int (nI k), .ref m5, .ref m6])), (m1, .inl (cI, 400, .inl u.1)), (m2, .inl (cI, 400, .inl u.2.1)), (m3, .inl (cI, 400, .inl u.2.2.1))]) (va_A [(m0, .inr (5, [.int (nI T.length), .ref m1, .ref m2, .ref m3, .int (nI n), .ref m4, .int (nI e), .int (nI k), .ref m5, .ref m6])), (m1, .inl (cI, 400, .inl su)), (m2, .inl (cI, 400, .inl pd)), (m3, .inl (cI, 400, .inl ob))] sz)) 0 0 (va_A [(m0, .inr (5, [.int (nI T.length), .ref m1, .ref m2, .ref m3, .int (nI n), .ref m4, .int (nI e), .int (nI k), .ref m5, .ref m6])), (m1, .inl (cI, 400, .inl su)), (m2, .inl (cI, 400, .inl pd)), (m3, .inl (cI, 400, .inl ob))] sz) := by
  refine Met.ofW (cc := cM_triple) (maxL := 4) (ret := (some .int)) (by decide) rfl ?_
  intro pg ev s mt args below meth kd s₁ B hml hv
  obtain ⟨rfl, hsz, hP, hK, hD0, hN⟩ := hv
  have hx := B.exec
  have hb := B.bytes
  have hr := B.returns
  have ht : ∀ w ∈ W0, w.before _ s = true := fun w h => atoms_spec (ws := wM_triple) B.pre w (List.mem_cons_of_mem _ h)
  have hown : s.vm.findClass "StatRowsModel" = some mt.cls := findClass_of_methodNamed B.named
  have hlocks := B.notSynchronized
  subst hsz
  have hD := hD0.self (sz := s.heap.size)
  generalize hAe : va_A [(m0, .inr (5, [.int (nI T.length), .ref m1, .ref m2, .ref m3, .int (nI n), .ref m4, .int (nI e), .int (nI k), .ref m5, .ref m6])), (m1, .inl (cI, 400, .inl su)), (m2, .inl (cI, 400, .inl pd)), (m3, .inl (cI, 400, .inl ob))] s.heap.size = A at hD ⊢
  have hA : ∀ q : Nat, s.heap.size ≤ q → A q := fun q h => by rw [← hAe]; exact Or.inr h
  have hS : va_S A s.heap s.heap [] := va_S.rf
  have hP : va_P D vwCl [(m0, .inr (5, [.int (nI T.length), .ref m1, .ref m2, .ref m3, .int (nI n), .ref m4, .int (nI e), .int (nI k), .ref m5, .ref m6])), (m1, .inl (cI, 400, .inl su)), (m2, .inl (cI, 400, .inl pd)), (m3, .inl (cI, 400, .inl ob))] s.heap := hP
  have hl := lv_entry ([.ref m0, .int s1, .int p1, .int o1]) (n := 4) (Nat.le_of_ble_eq_true rfl)
  rw [lg_entry_eq]
  generalize (lg_sl ([.ref m0, .int s1, .int p1, .int o1]) ++ List.replicate (4 - (lg_sl ([.ref m0, .int s1, .int p1, .int o1])).length) Slot.unset).toArray = ls at hl ⊢
  have hl : lv_has ls 4 [(0, .ref m0), (1, .int s1), (2, .int p1), (3, .int o1)] := hl
  have hM4 := hM.2.1
  have bl0 := btl (inr_ 256 s1)
  have bl1 := btl (inr_ 8 p1)
  have bl2 := btl (inr_ 256 o1)
  refine lv_iload_n hx hb dM_triple_0 rfl (lv_at hl 1 rfl) ?_
  refine zz_ci (v := nI ((inr_ 256 s1).toNat)) (W.runS (As := [.int s1]) (rest := []) ⟨hx, hb, hml, hown, ht⟩ (c_M_isTerm l s1) (va_cwS 1 ht (gd_S wd425 wd426 wd6 wd427) rfl rfl rfl (by decide +kernel) ⟨Nat.le_of_ble_eq_true rfl, Nat.le_of_ble_eq_true rfl⟩) zz_N_S rfl rfl hl.1 rfl (lv_room (Nat.le_of_ble_eq_true rfl)) dM_triple_1 ⟨Nat.le_of_ble_eq_true rfl, Nat.le_of_ble_eq_true rfl⟩) ?_
  refine lv_if_eq (tgt := 21) hx hb dM_triple_4 (by decide) (fun c4 => ?_) (fun c4 => ?_)
  · -- taken
    have c4 : (inr_ 256 s1).toNat = 0 := (nI_eq (a := (inr_ 256 s1).toNat) (b := 0) (by omega) (by omega)).mp c4
    have hs : (inr_ 256 s1 && inr_ 8 p1 && inr_ 256 o1) = false := by rw [bt0 c4]; rfl
    refine lv_iconst (v := (-1)) hx hb dM_triple_21 (by decide) ?_
    exact zz_iretW (v := (-1)) (w1 := fun u : ((Nat → Int32) × (Nat → Int32) × (Nat → Int32) × List Nat) => [(m0, .inr (5, [.int (nI u.2.2.2.length), .ref m1, .ref m2, .ref m3, .int (nI n), .ref m4, .int (nI e), .int (nI k), .ref m5, .ref m6])), (m1, .inl (cI, 400, .inl u.1)), (m2, .inl (cI, 400, .inl u.2.1)), (m3, .inl (cI, 400, .inl u.2.2.1))]) (su, pd, ob, T) hx hb hr hlocks (Or.inl ⟨hs, rfl, rfl⟩) hP hK hD hS dM_triple_22
  · -- not taken
    have c4 : ¬ ((inr_ 256 s1).toNat = 0) := fun h => c4 ((nI_eq (a := (inr_ 256 s1).toNat) (b := 0) (by omega) (by omega)).mpr h)
    have e1 := bt1 c4
    refine lv_iload_n hx hb dM_triple_7 rfl (lv_at hl 2 rfl) ?_
    refine zz_ci (v := nI ((inr_ 8 p1).toNat)) (W.runS (As := [.int p1]) (rest := []) ⟨hx, hb, hml, hown, ht⟩ (c_M_isPredicate l p1) (va_cwS 1 ht (gd_S wd428 wd429 wd6 wd430) rfl rfl rfl (by decide +kernel) ⟨Nat.le_of_ble_eq_true rfl, Nat.le_of_ble_eq_true rfl⟩) zz_N_S rfl rfl hl.1 rfl (lv_room (Nat.le_of_ble_eq_true rfl)) dM_triple_8 ⟨Nat.le_of_ble_eq_true rfl, Nat.le_of_ble_eq_true rfl⟩) ?_
    refine lv_if_eq (tgt := 21) hx hb dM_triple_11 (by decide) (fun c11 => ?_) (fun c11 => ?_)
    · -- taken
      have c11 : (inr_ 8 p1).toNat = 0 := (nI_eq (a := (inr_ 8 p1).toNat) (b := 0) (by omega) (by omega)).mp c11
      have hs : (inr_ 256 s1 && inr_ 8 p1 && inr_ 256 o1) = false := by rw [e1, bt0 c11]; rfl
      refine lv_iconst (v := (-1)) hx hb dM_triple_21 (by decide) ?_
      exact zz_iretW (v := (-1)) (w1 := fun u : ((Nat → Int32) × (Nat → Int32) × (Nat → Int32) × List Nat) => [(m0, .inr (5, [.int (nI u.2.2.2.length), .ref m1, .ref m2, .ref m3, .int (nI n), .ref m4, .int (nI e), .int (nI k), .ref m5, .ref m6])), (m1, .inl (cI, 400, .inl u.1)), (m2, .inl (cI, 400, .inl u.2.1)), (m3, .inl (cI, 400, .inl u.2.2.1))]) (su, pd, ob, T) hx hb hr hlocks (Or.inl ⟨hs, rfl, rfl⟩) hP hK hD hS dM_triple_22
    · -- not taken
      have c11 : ¬ ((inr_ 8 p1).toNat = 0) := fun h => c11 ((nI_eq (a := (inr_ 8 p1).toNat) (b := 0) (by omega) (by omega)).mpr h)
      have e2 := bt1 c11
      refine lv_iload_n hx hb dM_triple_14 rfl (lv_at hl 3 rfl) ?_
      refine zz_ci (v := nI ((inr_ 256 o1).toNat)) (W.runS (As := [.int o1]) (rest := []) ⟨hx, hb, hml, hown, ht⟩ (c_M_isTerm l o1) (va_cwS 1 ht (gd_S wd425 wd426 wd6 wd427) rfl rfl rfl (by decide +kernel) ⟨Nat.le_of_ble_eq_true rfl, Nat.le_of_ble_eq_true rfl⟩) zz_N_S rfl rfl hl.1 rfl (lv_room (Nat.le_of_ble_eq_true rfl)) dM_triple_15 ⟨Nat.le_of_ble_eq_true rfl, Nat.le_of_ble_eq_true rfl⟩) ?_
      refine lv_if_ne (tgt := 23) hx hb dM_triple_18 (by decide) (fun c18 => ?_) (fun c18 => ?_)
      · -- taken
        have c18 : ¬ ((inr_ 256 o1).toNat = 0) := fun h => c18 ((nI_eq (a := (inr_ 256 o1).toNat) (b := 0) (by omega) (by omega)).mpr h)
        have e3 := bt1 c18
        obtain ⟨ss, hss, ess⟩ := inr_t (by decide) e1
        rw [ess] at hl
        obtain ⟨pp, hpp, epp⟩ := inr_t (by decide) e2
        rw [epp] at hl
        obtain ⟨oo, hoo, eoo⟩ := inr_t (by decide) e3
        rw [eoo] at hl
        refine lv_aload_n hx hb dM_triple_23 rfl (lv_at hl 0 rfl) ?_
        refine lv_iload_n hx hb dM_triple_24 rfl (lv_at hl 1 rfl) ?_
        refine lv_iload_n hx hb dM_triple_25 rfl (lv_at hl 2 rfl) ?_
        refine lv_iload_n hx hb dM_triple_26 rfl (lv_at hl 3 rfl) ?_
        refine vp_callSi (W.runV (As := [.int (nI ss), .int (nI pp), .int (nI oo)]) (rest := []) ⟨hx, hb, hml, hown, ht⟩ (c_M_find l D cI cB m0 m1 m2 m3 m4 m5 m6 n k e su pd ob T hM ss pp oo hss hpp hoo) (cwV 3 ht (gd_V wd431 wd433 wp16 wd6 wd434) rfl rfl rfl (by decide +kernel) ⟨Nat.le_of_ble_eq_true rfl, Nat.le_of_ble_eq_true rfl⟩) (zz_R_V hN hK (hP.sub (ws' := [(m0, .inr (5, [.int (nI T.length), .ref m1, .ref m2, .ref m3, .int (nI n), .ref m4, .int (nI e), .int (nI k), .ref m5, .ref m6])), (m1, .inl (cI, 400, .inl su)), (m2, .inl (cI, 400, .inl pd)), (m3, .inl (cI, 400, .inl ob))]) [0, 1, 2, 3] rfl) 5 0 rfl rfl) rfl rfl hl.1 rfl (lv_room (Nat.le_of_ble_eq_true rfl)) dM_triple_27 ⟨Nat.le_of_ble_eq_true rfl, Nat.le_of_ble_eq_true rfl⟩) (fun r27 hr27 => ?_)
        refine lv_if_lt (tgt := 35) hx hb dM_triple_30 (by decide) (fun c30 => ?_) (fun c30 => ?_)
        · -- taken
          have hno : ∀ j, j < T.length → T.getD j 0 ≠ 65536 * pp + 256 * ss + oo := by
            rcases hr27 with ⟨a, b⟩ | ⟨j, a, b, c⟩
            · exact b
            · exact absurd (c ▸ c30) (nI_pos (by omega))
          refine lv_aload_n hx hb dM_triple_35 rfl (lv_at hl 0 rfl) ?_
          refine va_get (D := D) (ci := 5) (v := .int (nI T.length)) (C := "StatRowsModel") (T := TM) (N := 10) hx hb ht inM hown hK hP 0 rfl rfl 0 (by decide) (ht _ wd389) (fun _ h9 => h9) rfl dM_triple_36 ?_
          refine lv_sipush (v := nI 400) hx hb dM_triple_39 (by decide) ?_
          refine lv_icmp_ne (tgt := 48) hx hb dM_triple_42 (by decide) (fun c42 => ?_) (fun c42 => ?_)
          · -- taken
            have c42 : ¬ (T.length = 400) := fun h => c42 ((nI_eq (a := T.length) (b := 400) (by omega) (by omega)).mpr h)
            refine lv_aload_n hx hb dM_triple_48 rfl (lv_at hl 0 rfl) ?_
            refine va_get (D := D) (ci := 5) (v := .ref m1) (C := "StatRowsModel") (T := TM) (N := 10) hx hb ht inM hown hK hP 0 rfl rfl 1 (by decide) (ht _ wd390) (fun _ h9 => h9) rfl dM_triple_49 ?_
            refine lv_aload_n hx hb dM_triple_52 rfl (lv_at hl 0 rfl) ?_
            refine va_get (D := D) (ci := 5) (v := .int (nI T.length)) (C := "StatRowsModel") (T := TM) (N := 10) hx hb ht inM hown hK hP 0 rfl rfl 0 (by decide) (ht _ wd389) (fun _ h9 => h9) rfl dM_triple_53 ?_
            refine lv_iload_n hx hb dM_triple_56 rfl (lv_at hl 1 rfl) ?_
            refine zz_iast (k := T.length) hx hb hK hP hD hS 1 0 rfl rfl (by omega) (by decide) dM_triple_57 (fun H locs hP hD hS => ?_)
            have hP : va_P D vwCl [(m0, .inr (5, [.int (nI T.length), .ref m1, .ref m2, .ref m3, .int (nI n), .ref m4, .int (nI e), .int (nI k), .ref m5, .ref m6])), (m1, .inl (cI, 400, .inl (upd su T.length (nI ss)))), (m2, .inl (cI, 400, .inl pd)), (m3, .inl (cI, 400, .inl ob))] H := hP
            have hD : va_D A [(m0, .inr (5, [.int (nI T.length), .ref m1, .ref m2, .ref m3, .int (nI n), .ref m4, .int (nI e), .int (nI k), .ref m5, .ref m6])), (m1, .inl (cI, 400, .inl (upd su T.length (nI ss)))), (m2, .inl (cI, 400, .inl pd)), (m3, .inl (cI, 400, .inl ob))] := hD
            refine lv_aload_n hx hb dM_triple_58 rfl (lv_at hl 0 rfl) ?_
            refine va_get (D := D) (ci := 5) (v := .ref m2) (C := "StatRowsModel") (T := TM) (N := 10) hx hb ht inM hown hK hP 0 rfl rfl 2 (by decide) (ht _ wd391) (fun _ h9 => h9) rfl dM_triple_59 ?_
            refine lv_aload_n hx hb dM_triple_62 rfl (lv_at hl 0 rfl) ?_
            refine va_get (D := D) (ci := 5) (v := .int (nI T.length)) (C := "StatRowsModel") (T := TM) (N := 10) hx hb ht inM hown hK hP 0 rfl rfl 0 (by decide) (ht _ wd389) (fun _ h9 => h9) rfl dM_triple_63 ?_
            refine lv_iload_n hx hb dM_triple_66 rfl (lv_at hl 2 rfl) ?_
            refine zz_iast (k := T.length) hx hb hK hP hD hS 2 0 rfl rfl (by omega) (by decide) dM_triple_67 (fun H locs hP hD hS => ?_)
            have hP : va_P D vwCl [(m0, .inr (5, [.int (nI T.length), .ref m1, .ref m2, .ref m3, .int (nI n), .ref m4, .int (nI e), .int (nI k), .ref m5, .ref m6])), (m1, .inl (cI, 400, .inl (upd su T.length (nI ss)))), (m2, .inl (cI, 400, .inl (upd pd T.length (nI pp)))), (m3, .inl (cI, 400, .inl ob))] H := hP
            have hD : va_D A [(m0, .inr (5, [.int (nI T.length), .ref m1, .ref m2, .ref m3, .int (nI n), .ref m4, .int (nI e), .int (nI k), .ref m5, .ref m6])), (m1, .inl (cI, 400, .inl (upd su T.length (nI ss)))), (m2, .inl (cI, 400, .inl (upd pd T.length (nI pp)))), (m3, .inl (cI, 400, .inl ob))] := hD
            refine lv_aload_n hx hb dM_triple_68 rfl (lv_at hl 0 rfl) ?_
            refine va_get (D := D) (ci := 5) (v := .ref m3) (C := "StatRowsModel") (T := TM) (N := 10) hx hb ht inM hown hK hP 0 rfl rfl 3 (by decide) (ht _ wd392) (fun _ h9 => h9) rfl dM_triple_69 ?_
            refine lv_aload_n hx hb dM_triple_72 rfl (lv_at hl 0 rfl) ?_
            refine va_get (D := D) (ci := 5) (v := .int (nI T.length)) (C := "StatRowsModel") (T := TM) (N := 10) hx hb ht inM hown hK hP 0 rfl rfl 0 (by decide) (ht _ wd389) (fun _ h9 => h9) rfl dM_triple_73 ?_
            refine lv_iload_n hx hb dM_triple_76 rfl (lv_at hl 3 rfl) ?_
            refine zz_iast (k := T.length) hx hb hK hP hD hS 3 0 rfl rfl (by omega) (by decide) dM_triple_77 (fun H locs hP hD hS => ?_)
            have hP : va_P D vwCl [(m0, .inr (5, [.int (nI T.length), .ref m1, .ref m2, .ref m3, .int (nI n), .ref m4, .int (nI e), .int (nI k), .ref m5, .ref m6])), (m1, .inl (cI, 400, .inl (upd su T.length (nI ss)))), (m2, .inl (cI, 400, .inl (upd pd T.length (nI pp)))), (m3, .inl (cI, 400, .inl (upd ob T.length (nI oo))))] H := hP
            have hD : va_D A [(m0, .inr (5, [.int (nI T.length), .ref m1, .ref m2, .ref m3, .int (nI n), .ref m4, .int (nI e), .int (nI k), .ref m5, .ref m6])), (m1, .inl (cI, 400, .inl (upd su T.length (nI ss)))), (m2, .inl (cI, 400, .inl (upd pd T.length (nI pp)))), (m3, .inl (cI, 400, .inl (upd ob T.length (nI oo))))] := hD
            refine lv_aload_n hx hb dM_triple_78 rfl (lv_at hl 0 rfl) ?_
            refine lv_dup hx hb dM_triple_79 rfl ?_
            refine va_get (D := D) (ci := 5) (v := .int (nI T.length)) (C := "StatRowsModel") (T := TM) (N := 10) hx hb ht inM hown hK hP 0 rfl rfl 0 (by decide) (ht _ wd389) (fun _ h9 => h9) rfl dM_triple_80 ?_
            refine lv_iconst (v := nI 1) hx hb dM_triple_83 (by decide) ?_
            refine lv_iadd hx hb dM_triple_84 ?_
            refine zz_top (y := nI (T.length + 1)) (nI_add T.length 1) ?_
            refine va_put (D := D) (ci := 5) (v := .int (nI (T.length + 1))) (ty := .int) (C := "StatRowsModel") (T := TM) (N := 10) hx hb ht inM tyM okM nmM hown hK hP hD hS 0 rfl rfl 0 (by decide) (ht _ wd389) (fun _ h9 => h9) rfl (by decide +kernel) rfl rfl (Nat.le_of_ble_eq_true rfl) dM_triple_85 (fun H locs hP hD hS => ?_)
            have hP : va_P D vwCl [(m0, .inr (5, [.int (nI (T.length + 1)), .ref m1, .ref m2, .ref m3, .int (nI n), .ref m4, .int (nI e), .int (nI k), .ref m5, .ref m6])), (m1, .inl (cI, 400, .inl (upd su T.length (nI ss)))), (m2, .inl (cI, 400, .inl (upd pd T.length (nI pp)))), (m3, .inl (cI, 400, .inl (upd ob T.length (nI oo))))] H := hP
            have hD : va_D A [(m0, .inr (5, [.int (nI (T.length + 1)), .ref m1, .ref m2, .ref m3, .int (nI n), .ref m4, .int (nI e), .int (nI k), .ref m5, .ref m6])), (m1, .inl (cI, 400, .inl (upd su T.length (nI ss)))), (m2, .inl (cI, 400, .inl (upd pd T.length (nI pp)))), (m3, .inl (cI, 400, .inl (upd ob T.length (nI oo))))] := hD
            rw [show T.length + 1 = (T ++ [65536 * pp + 256 * ss + oo]).length from by simp] at hP hD
            refine lv_iconst (v := nI 1) hx hb dM_triple_88 (by decide) ?_
            exact zz_iretW (v := nI 1) (w1 := fun u : ((Nat → Int32) × (Nat → Int32) × (Nat → Int32) × List Nat) => [(m0, .inr (5, [.int (nI u.2.2.2.length), .ref m1, .ref m2, .ref m3, .int (nI n), .ref m4, .int (nI e), .int (nI k), .ref m5, .ref m6])), (m1, .inl (cI, 400, .inl u.1)), (m2, .inl (cI, 400, .inl u.2.1)), (m3, .inl (cI, 400, .inl u.2.2.1))]) (upd su T.length (nI ss), upd pd T.length (nI pp), upd ob T.length (nI oo), T ++ [65536 * pp + 256 * ss + oo]) hx hb hr hlocks (Or.inr ⟨ss, pp, oo, hss, hpp, hoo, ess, epp, eoo, Or.inr (Or.inr ⟨hno, by omega, rfl, rfl, RM_app hM hss hpp hoo (by omega) hno⟩)⟩) hP hK hD hS dM_triple_89
          · -- not taken
            have c42 : T.length = 400 := (nI_eq (a := T.length) (b := 400) (by omega) (by omega)).mp c42
            refine lv_bipush (v := (-3)) hx hb dM_triple_45 (by decide) ?_
            exact zz_iretW (v := (-3)) (w1 := fun u : ((Nat → Int32) × (Nat → Int32) × (Nat → Int32) × List Nat) => [(m0, .inr (5, [.int (nI u.2.2.2.length), .ref m1, .ref m2, .ref m3, .int (nI n), .ref m4, .int (nI e), .int (nI k), .ref m5, .ref m6])), (m1, .inl (cI, 400, .inl u.1)), (m2, .inl (cI, 400, .inl u.2.1)), (m3, .inl (cI, 400, .inl u.2.2.1))]) (su, pd, ob, T) hx hb hr hlocks (Or.inr ⟨ss, pp, oo, hss, hpp, hoo, ess, epp, eoo, Or.inr (Or.inl ⟨hno, c42, rfl, rfl⟩)⟩) hP hK hD hS dM_triple_47
        · -- not taken
          obtain ⟨j, hj, ej, er⟩ : ∃ j, j < T.length ∧ T.getD j 0 = 65536 * pp + 256 * ss + oo ∧ r27 = nI j := by
            rcases hr27 with ⟨a, b⟩ | h
            · exfalso; rw [a] at c30; exact c30 (by decide)
            · exact h
          refine lv_iconst (v := nI 0) hx hb dM_triple_33 (by decide) ?_
          exact zz_iretW (v := nI 0) (w1 := fun u : ((Nat → Int32) × (Nat → Int32) × (Nat → Int32) × List Nat) => [(m0, .inr (5, [.int (nI u.2.2.2.length), .ref m1, .ref m2, .ref m3, .int (nI n), .ref m4, .int (nI e), .int (nI k), .ref m5, .ref m6])), (m1, .inl (cI, 400, .inl u.1)), (m2, .inl (cI, 400, .inl u.2.1)), (m3, .inl (cI, 400, .inl u.2.2.1))]) (su, pd, ob, T) hx hb hr hlocks (Or.inr ⟨ss, pp, oo, hss, hpp, hoo, ess, epp, eoo, Or.inl ⟨⟨j, hj, ej⟩, rfl, rfl⟩⟩) hP hK hD hS dM_triple_34
      · -- not taken
        have c18 : (inr_ 256 o1).toNat = 0 := (nI_eq (a := (inr_ 256 o1).toNat) (b := 0) (by omega) (by omega)).mp c18
        have hs : (inr_ 256 s1 && inr_ 8 p1 && inr_ 256 o1) = false := by rw [e1, e2, bt0 (b := inr_ 256 o1) (by omega)]; rfl
        refine lv_iconst (v := (-1)) hx hb dM_triple_21 (by decide) ?_
        exact zz_iretW (v := (-1)) (w1 := fun u : ((Nat → Int32) × (Nat → Int32) × (Nat → Int32) × List Nat) => [(m0, .inr (5, [.int (nI u.2.2.2.length), .ref m1, .ref m2, .ref m3, .int (nI n), .ref m4, .int (nI e), .int (nI k), .ref m5, .ref m6])), (m1, .inl (cI, 400, .inl u.1)), (m2, .inl (cI, 400, .inl u.2.1)), (m3, .inl (cI, 400, .inl u.2.2.1))]) (su, pd, ob, T) hx hb hr hlocks (Or.inl ⟨hs, rfl, rfl⟩) hP hK hD hS dM_triple_22

abbrev rm_M_drop : Room := { frames := 1, cells := 0, slots := 0, locals := 25 }
set_option maxHeartbeats 4000000 in
set_option maxRecDepth 100000 in
theorem c_M_drop (l : Launch) (D : va_G) (cI cB : ClassId) (sz : Nat) (m0 m1 m2 m3 m4 m5 m6 n k e : Nat) (su pd ob : Nat → Int32) (T : List Nat) (hM : RM T su pd ob) (s1 p1 o1 : Int32) : Met l yM_drop wM_drop rm_M_drop (zz_P D vwCl [(cI, .int), (cB, .boolean)] [.ref m0, .int s1, .int p1, .int o1] [(m0, .inr (5, [.int (nI T.length), .ref m1, .ref m2, .ref m3, .int (nI n), .ref m4, .int (nI e), .int (nI k), .ref m5, .ref m6])), (m1, .inl (cI, 400, .inl su)), (m2, .inl (cI, 400, .inl pd)), (m3, .inl (cI, 400, .inl ob))] sz) (va_Qi (fun (r : Int32) (u : ((Nat → Int32) × (Nat → Int32) × (Nat → Int32) × List Nat)) => ((inr_ 256 s1 && inr_ 8 p1 && inr_ 256 o1) = false ∧ r = -1 ∧ u = (su, pd, ob, T)) ∨ ∃ ss pp oo, ss < 256 ∧ pp < 8 ∧ oo < 256 ∧ s1 = nI ss ∧ p1 = nI pp ∧ o1 = nI oo ∧ (((∀ j, j < T.length → T.getD j 0 ≠ 65536 * pp + 256 * ss + oo) ∧ r = nI 0 ∧ u = (su, pd, ob, T)) ∨ (∃ j, j < T.length ∧ T.getD j 0 = 65536 * pp + 256 * ss + oo ∧ r = nI 1 ∧ u.2.2.2 = tdel T j ∧ RM (tdel T j) u.1 u.2.1 u.2.2.1))) (fun u : ((Nat → Int32) × (Nat → Int32) × (Nat → Int32) × List Nat) => zz_B D vwCl [(cI, .int), (cB, .boolean)] (va_A [(m0, .inr (5, [.int (nI T.length), .ref m1, .ref m2, .ref m3, .int (nI n), .ref m4, .int (nI e), .int (nI k), .ref m5, .ref m6])), (m1, .inl (cI, 400, .inl su)), (m2, .inl (cI, 400, .inl pd)), (m3, .inl (cI, 400, .inl ob))] sz) [(m0, .inr (5, [.int (nI u.2.2.2.length), .ref m1, .ref m2, .ref m3, .int (nI n), .ref m4, .int (nI e), .int (nI k), .ref m5, .ref m6])), (m1, .inl (cI, 400, .inl u.1)), (m2, .inl (cI, 400, .inl u.2.1)), (m3, .inl (cI, 400, .inl u.2.2.1))]) (va_A [(m0, .inr (5, [.int (nI T.length), .ref m1, .ref m2, .ref m3, .int (nI n), .ref m4, .int (nI e), .int (nI k), .ref m5, .ref m6])), (m1, .inl (cI, 400, .inl su)), (m2, .inl (cI, 400, .inl pd)), (m3, .inl (cI, 400, .inl ob))] sz)) 0 0 (va_A [(m0, .inr (5, [.int (nI T.length), .ref m1, .ref m2, .ref m3, .int (nI n), .ref m4, .int (nI e), .int (nI k), .ref m5, .ref m6])), (m1, .inl (cI, 400, .inl su)), (m2, .inl (cI, 400, .inl pd)), (m3, .inl (cI, 400, .inl ob))] sz) := by
  refine Met.ofW (cc := cM_drop) (maxL := 5) (ret := (some .int)) (by decide) rfl ?_
  intro pg ev s mt args below meth kd s₁ B hml hv
  obtain ⟨rfl, hsz, hP, hK, hD0, hN⟩ := hv
  have hx := B.exec
  have hb := B.bytes
  have hr := B.returns
  have ht : ∀ w ∈ W0, w.before _ s = true := fun w h => atoms_spec (ws := wM_drop) B.pre w (List.mem_cons_of_mem _ h)
  have hown : s.vm.findClass "StatRowsModel" = some mt.cls := findClass_of_methodNamed B.named
  have hlocks := B.notSynchronized
  subst hsz
  have hD := hD0.self (sz := s.heap.size)
  generalize hAe : va_A [(m0, .inr (5, [.int (nI T.length), .ref m1, .ref m2, .ref m3, .int (nI n), .ref m4, .int (nI e), .int (nI k), .ref m5, .ref m6])), (m1, .inl (cI, 400, .inl su)), (m2, .inl (cI, 400, .inl pd)), (m3, .inl (cI, 400, .inl ob))] s.heap.size = A at hD ⊢
  have hA : ∀ q : Nat, s.heap.size ≤ q → A q := fun q h => by rw [← hAe]; exact Or.inr h
  have hS : va_S A s.heap s.heap [] := va_S.rf
  have hP : va_P D vwCl [(m0, .inr (5, [.int (nI T.length), .ref m1, .ref m2, .ref m3, .int (nI n), .ref m4, .int (nI e), .int (nI k), .ref m5, .ref m6])), (m1, .inl (cI, 400, .inl su)), (m2, .inl (cI, 400, .inl pd)), (m3, .inl (cI, 400, .inl ob))] s.heap := hP
  have hl := lv_entry ([.ref m0, .int s1, .int p1, .int o1]) (n := 5) (Nat.le_of_ble_eq_true rfl)
  rw [lg_entry_eq]
  generalize (lg_sl ([.ref m0, .int s1, .int p1, .int o1]) ++ List.replicate (5 - (lg_sl ([.ref m0, .int s1, .int p1, .int o1])).length) Slot.unset).toArray = ls at hl ⊢
  have hl : lv_has ls 5 [(0, .ref m0), (1, .int s1), (2, .int p1), (3, .int o1)] := hl
  have hM4 := hM.2.1
  have bl0 := btl (inr_ 256 s1)
  have bl1 := btl (inr_ 8 p1)
  have bl2 := btl (inr_ 256 o1)
  refine lv_iload_n hx hb dM_drop_0 rfl (lv_at hl 1 rfl) ?_
  refine zz_ci (v := nI ((inr_ 256 s1).toNat)) (W.runS (As := [.int s1]) (rest := []) ⟨hx, hb, hml, hown, ht⟩ (c_M_isTerm l s1) (va_cwS 1 ht (gd_S wd425 wd426 wd6 wd427) rfl rfl rfl (by decide +kernel) ⟨Nat.le_of_ble_eq_true rfl, Nat.le_of_ble_eq_true rfl⟩) zz_N_S rfl rfl hl.1 rfl (lv_room (Nat.le_of_ble_eq_true rfl)) dM_drop_1 ⟨Nat.le_of_ble_eq_true rfl, Nat.le_of_ble_eq_true rfl⟩) ?_
  refine lv_if_eq (tgt := 21) hx hb dM_drop_4 (by decide) (fun c4 => ?_) (fun c4 => ?_)
  · -- taken
    have c4 : (inr_ 256 s1).toNat = 0 := (nI_eq (a := (inr_ 256 s1).toNat) (b := 0) (by omega) (by omega)).mp c4
    have hs : (inr_ 256 s1 && inr_ 8 p1 && inr_ 256 o1) = false := by rw [bt0 c4]; rfl
    refine lv_iconst (v := (-1)) hx hb dM_drop_21 (by decide) ?_
    exact zz_iretW (v := (-1)) (w1 := fun u : ((Nat → Int32) × (Nat → Int32) × (Nat → Int32) × List Nat) => [(m0, .inr (5, [.int (nI u.2.2.2.length), .ref m1, .ref m2, .ref m3, .int (nI n), .ref m4, .int (nI e), .int (nI k), .ref m5, .ref m6])), (m1, .inl (cI, 400, .inl u.1)), (m2, .inl (cI, 400, .inl u.2.1)), (m3, .inl (cI, 400, .inl u.2.2.1))]) (su, pd, ob, T) hx hb hr hlocks (Or.inl ⟨hs, rfl, rfl⟩) hP hK hD hS dM_drop_22
  · -- not taken
    have c4 : ¬ ((inr_ 256 s1).toNat = 0) := fun h => c4 ((nI_eq (a := (inr_ 256 s1).toNat) (b := 0) (by omega) (by omega)).mpr h)
    have e1 := bt1 c4
    refine lv_iload_n hx hb dM_drop_7 rfl (lv_at hl 2 rfl) ?_
    refine zz_ci (v := nI ((inr_ 8 p1).toNat)) (W.runS (As := [.int p1]) (rest := []) ⟨hx, hb, hml, hown, ht⟩ (c_M_isPredicate l p1) (va_cwS 1 ht (gd_S wd428 wd429 wd6 wd430) rfl rfl rfl (by decide +kernel) ⟨Nat.le_of_ble_eq_true rfl, Nat.le_of_ble_eq_true rfl⟩) zz_N_S rfl rfl hl.1 rfl (lv_room (Nat.le_of_ble_eq_true rfl)) dM_drop_8 ⟨Nat.le_of_ble_eq_true rfl, Nat.le_of_ble_eq_true rfl⟩) ?_
    refine lv_if_eq (tgt := 21) hx hb dM_drop_11 (by decide) (fun c11 => ?_) (fun c11 => ?_)
    · -- taken
      have c11 : (inr_ 8 p1).toNat = 0 := (nI_eq (a := (inr_ 8 p1).toNat) (b := 0) (by omega) (by omega)).mp c11
      have hs : (inr_ 256 s1 && inr_ 8 p1 && inr_ 256 o1) = false := by rw [e1, bt0 c11]; rfl
      refine lv_iconst (v := (-1)) hx hb dM_drop_21 (by decide) ?_
      exact zz_iretW (v := (-1)) (w1 := fun u : ((Nat → Int32) × (Nat → Int32) × (Nat → Int32) × List Nat) => [(m0, .inr (5, [.int (nI u.2.2.2.length), .ref m1, .ref m2, .ref m3, .int (nI n), .ref m4, .int (nI e), .int (nI k), .ref m5, .ref m6])), (m1, .inl (cI, 400, .inl u.1)), (m2, .inl (cI, 400, .inl u.2.1)), (m3, .inl (cI, 400, .inl u.2.2.1))]) (su, pd, ob, T) hx hb hr hlocks (Or.inl ⟨hs, rfl, rfl⟩) hP hK hD hS dM_drop_22
    · -- not taken
      have c11 : ¬ ((inr_ 8 p1).toNat = 0) := fun h => c11 ((nI_eq (a := (inr_ 8 p1).toNat) (b := 0) (by omega) (by omega)).mpr h)
      have e2 := bt1 c11
      refine lv_iload_n hx hb dM_drop_14 rfl (lv_at hl 3 rfl) ?_
      refine zz_ci (v := nI ((inr_ 256 o1).toNat)) (W.runS (As := [.int o1]) (rest := []) ⟨hx, hb, hml, hown, ht⟩ (c_M_isTerm l o1) (va_cwS 1 ht (gd_S wd425 wd426 wd6 wd427) rfl rfl rfl (by decide +kernel) ⟨Nat.le_of_ble_eq_true rfl, Nat.le_of_ble_eq_true rfl⟩) zz_N_S rfl rfl hl.1 rfl (lv_room (Nat.le_of_ble_eq_true rfl)) dM_drop_15 ⟨Nat.le_of_ble_eq_true rfl, Nat.le_of_ble_eq_true rfl⟩) ?_
      refine lv_if_ne (tgt := 23) hx hb dM_drop_18 (by decide) (fun c18 => ?_) (fun c18 => ?_)
      · -- taken
        have c18 : ¬ ((inr_ 256 o1).toNat = 0) := fun h => c18 ((nI_eq (a := (inr_ 256 o1).toNat) (b := 0) (by omega) (by omega)).mpr h)
        have e3 := bt1 c18
        obtain ⟨ss, hss, ess⟩ := inr_t (by decide) e1
        rw [ess] at hl
        obtain ⟨pp, hpp, epp⟩ := inr_t (by decide) e2
        rw [epp] at hl
        obtain ⟨oo, hoo, eoo⟩ := inr_t (by decide) e3
        rw [eoo] at hl
        refine lv_aload_n hx hb dM_drop_23 rfl (lv_at hl 0 rfl) ?_
        refine lv_iload_n hx hb dM_drop_24 rfl (lv_at hl 1 rfl) ?_
        refine lv_iload_n hx hb dM_drop_25 rfl (lv_at hl 2 rfl) ?_
        refine lv_iload_n hx hb dM_drop_26 rfl (lv_at hl 3 rfl) ?_
        refine vp_callSi (W.runV (As := [.int (nI ss), .int (nI pp), .int (nI oo)]) (rest := []) ⟨hx, hb, hml, hown, ht⟩ (c_M_find l D cI cB m0 m1 m2 m3 m4 m5 m6 n k e su pd ob T hM ss pp oo hss hpp hoo) (cwV 3 ht (gd_V wd431 wd433 wp16 wd6 wd434) rfl rfl rfl (by decide +kernel) ⟨Nat.le_of_ble_eq_true rfl, Nat.le_of_ble_eq_true rfl⟩) (zz_R_V hN hK (hP.sub (ws' := [(m0, .inr (5, [.int (nI T.length), .ref m1, .ref m2, .ref m3, .int (nI n), .ref m4, .int (nI e), .int (nI k), .ref m5, .ref m6])), (m1, .inl (cI, 400, .inl su)), (m2, .inl (cI, 400, .inl pd)), (m3, .inl (cI, 400, .inl ob))]) [0, 1, 2, 3] rfl) 5 0 rfl rfl) rfl rfl hl.1 rfl (lv_room (Nat.le_of_ble_eq_true rfl)) dM_drop_27 ⟨Nat.le_of_ble_eq_true rfl, Nat.le_of_ble_eq_true rfl⟩) (fun r27 hr27 => ?_)
        refine lv_istore (lv' := [(4, .int r27), (0, .ref m0), (1, .int (nI ss)), (2, .int (nI pp)), (3, .int (nI oo))]) hx hb dM_drop_30 hl (by decide) rfl (fun ls hl => ?_)
        refine lv_iload hx hb dM_drop_32 (lv_at hl 0 rfl) ?_
        refine lv_if_ge (tgt := 39) hx hb dM_drop_34 (by decide) (fun c34 => ?_) (fun c34 => ?_)
        · -- taken
          obtain ⟨j, hj, ej, er⟩ : ∃ j, j < T.length ∧ T.getD j 0 = 65536 * pp + 256 * ss + oo ∧ r27 = nI j := by
            rcases hr27 with ⟨a, b⟩ | h
            · exfalso; rw [a] at c34; exact absurd c34 (by decide)
            · exact h
          rw [er] at hl
          refine lv_aload_n hx hb dM_drop_39 rfl (lv_at hl 1 rfl) ?_
          refine lv_dup hx hb dM_drop_40 rfl ?_
          refine va_get (D := D) (ci := 5) (v := .int (nI T.length)) (C := "StatRowsModel") (T := TM) (N := 10) hx hb ht inM hown hK hP 0 rfl rfl 0 (by decide) (ht _ wd389) (fun _ h9 => h9) rfl dM_drop_41 ?_
          refine lv_iconst (v := nI 1) hx hb dM_drop_44 (by decide) ?_
          refine lv_isub hx hb dM_drop_45 ?_
          refine zz_top (y := nI (T.length - 1)) (pk_sub (a := T.length) (b := 1) (by omega)) ?_
          refine va_put (D := D) (ci := 5) (v := .int (nI (T.length - 1))) (ty := .int) (C := "StatRowsModel") (T := TM) (N := 10) hx hb ht inM tyM okM nmM hown hK hP hD hS 0 rfl rfl 0 (by decide) (ht _ wd389) (fun _ h9 => h9) rfl (by decide +kernel) rfl rfl (Nat.le_of_ble_eq_true rfl) dM_drop_46 (fun H locs hP hD hS => ?_)
          have hP : va_P D vwCl [(m0, .inr (5, [.int (nI (T.length - 1)), .ref m1, .ref m2, .ref m3, .int (nI n), .ref m4, .int (nI e), .int (nI k), .ref m5, .ref m6])), (m1, .inl (cI, 400, .inl su)), (m2, .inl (cI, 400, .inl pd)), (m3, .inl (cI, 400, .inl ob))] H := hP
          have hD : va_D A [(m0, .inr (5, [.int (nI (T.length - 1)), .ref m1, .ref m2, .ref m3, .int (nI n), .ref m4, .int (nI e), .int (nI k), .ref m5, .ref m6])), (m1, .inl (cI, 400, .inl su)), (m2, .inl (cI, 400, .inl pd)), (m3, .inl (cI, 400, .inl ob))] := hD
          refine lv_aload_n hx hb dM_drop_49 rfl (lv_at hl 1 rfl) ?_
          refine va_get (D := D) (ci := 5) (v := .ref m1) (C := "StatRowsModel") (T := TM) (N := 10) hx hb ht inM hown hK hP 0 rfl rfl 1 (by decide) (ht _ wd390) (fun _ h9 => h9) rfl dM_drop_50 ?_
          refine lv_iload hx hb dM_drop_53 (lv_at hl 0 rfl) ?_
          refine lv_aload_n hx hb dM_drop_55 rfl (lv_at hl 1 rfl) ?_
          refine va_get (D := D) (ci := 5) (v := .ref m1) (C := "StatRowsModel") (T := TM) (N := 10) hx hb ht inM hown hK hP 0 rfl rfl 1 (by decide) (ht _ wd390) (fun _ h9 => h9) rfl dM_drop_56 ?_
          refine lv_aload_n hx hb dM_drop_59 rfl (lv_at hl 1 rfl) ?_
          refine va_get (D := D) (ci := 5) (v := .int (nI (T.length - 1))) (C := "StatRowsModel") (T := TM) (N := 10) hx hb ht inM hown hK hP 0 rfl rfl 0 (by decide) (ht _ wd389) (fun _ h9 => h9) rfl dM_drop_60 ?_
          refine zz_iald (k := T.length - 1) hx hb hK hP 1 0 rfl rfl (by omega) (by decide) dM_drop_63 ?_
          refine zz_iast (k := j) hx hb hK hP hD hS 1 0 rfl rfl (by omega) (by decide) dM_drop_64 (fun H locs hP hD hS => ?_)
          have hP : va_P D vwCl [(m0, .inr (5, [.int (nI (T.length - 1)), .ref m1, .ref m2, .ref m3, .int (nI n), .ref m4, .int (nI e), .int (nI k), .ref m5, .ref m6])), (m1, .inl (cI, 400, .inl (upd su j (su (T.length - 1))))), (m2, .inl (cI, 400, .inl pd)), (m3, .inl (cI, 400, .inl ob))] H := hP
          have hD : va_D A [(m0, .inr (5, [.int (nI (T.length - 1)), .ref m1, .ref m2, .ref m3, .int (nI n), .ref m4, .int (nI e), .int (nI k), .ref m5, .ref m6])), (m1, .inl (cI, 400, .inl (upd su j (su (T.length - 1))))), (m2, .inl (cI, 400, .inl pd)), (m3, .inl (cI, 400, .inl ob))] := hD
          refine lv_aload_n hx hb dM_drop_65 rfl (lv_at hl 1 rfl) ?_
          refine va_get (D := D) (ci := 5) (v := .ref m2) (C := "StatRowsModel") (T := TM) (N := 10) hx hb ht inM hown hK hP 0 rfl rfl 2 (by decide) (ht _ wd391) (fun _ h9 => h9) rfl dM_drop_66 ?_
          refine lv_iload hx hb dM_drop_69 (lv_at hl 0 rfl) ?_
          refine lv_aload_n hx hb dM_drop_71 rfl (lv_at hl 1 rfl) ?_
          refine va_get (D := D) (ci := 5) (v := .ref m2) (C := "StatRowsModel") (T := TM) (N := 10) hx hb ht inM hown hK hP 0 rfl rfl 2 (by decide) (ht _ wd391) (fun _ h9 => h9) rfl dM_drop_72 ?_
          refine lv_aload_n hx hb dM_drop_75 rfl (lv_at hl 1 rfl) ?_
          refine va_get (D := D) (ci := 5) (v := .int (nI (T.length - 1))) (C := "StatRowsModel") (T := TM) (N := 10) hx hb ht inM hown hK hP 0 rfl rfl 0 (by decide) (ht _ wd389) (fun _ h9 => h9) rfl dM_drop_76 ?_
          refine zz_iald (k := T.length - 1) hx hb hK hP 2 0 rfl rfl (by omega) (by decide) dM_drop_79 ?_
          refine zz_iast (k := j) hx hb hK hP hD hS 2 0 rfl rfl (by omega) (by decide) dM_drop_80 (fun H locs hP hD hS => ?_)
          have hP : va_P D vwCl [(m0, .inr (5, [.int (nI (T.length - 1)), .ref m1, .ref m2, .ref m3, .int (nI n), .ref m4, .int (nI e), .int (nI k), .ref m5, .ref m6])), (m1, .inl (cI, 400, .inl (upd su j (su (T.length - 1))))), (m2, .inl (cI, 400, .inl (upd pd j (pd (T.length - 1))))), (m3, .inl (cI, 400, .inl ob))] H := hP
          have hD : va_D A [(m0, .inr (5, [.int (nI (T.length - 1)), .ref m1, .ref m2, .ref m3, .int (nI n), .ref m4, .int (nI e), .int (nI k), .ref m5, .ref m6])), (m1, .inl (cI, 400, .inl (upd su j (su (T.length - 1))))), (m2, .inl (cI, 400, .inl (upd pd j (pd (T.length - 1))))), (m3, .inl (cI, 400, .inl ob))] := hD
          refine lv_aload_n hx hb dM_drop_81 rfl (lv_at hl 1 rfl) ?_
          refine va_get (D := D) (ci := 5) (v := .ref m3) (C := "StatRowsModel") (T := TM) (N := 10) hx hb ht inM hown hK hP 0 rfl rfl 3 (by decide) (ht _ wd392) (fun _ h9 => h9) rfl dM_drop_82 ?_
          refine lv_iload hx hb dM_drop_85 (lv_at hl 0 rfl) ?_
          refine lv_aload_n hx hb dM_drop_87 rfl (lv_at hl 1 rfl) ?_
          refine va_get (D := D) (ci := 5) (v := .ref m3) (C := "StatRowsModel") (T := TM) (N := 10) hx hb ht inM hown hK hP 0 rfl rfl 3 (by decide) (ht _ wd392) (fun _ h9 => h9) rfl dM_drop_88 ?_
          refine lv_aload_n hx hb dM_drop_91 rfl (lv_at hl 1 rfl) ?_
          refine va_get (D := D) (ci := 5) (v := .int (nI (T.length - 1))) (C := "StatRowsModel") (T := TM) (N := 10) hx hb ht inM hown hK hP 0 rfl rfl 0 (by decide) (ht _ wd389) (fun _ h9 => h9) rfl dM_drop_92 ?_
          refine zz_iald (k := T.length - 1) hx hb hK hP 3 0 rfl rfl (by omega) (by decide) dM_drop_95 ?_
          refine zz_iast (k := j) hx hb hK hP hD hS 3 0 rfl rfl (by omega) (by decide) dM_drop_96 (fun H locs hP hD hS => ?_)
          have hP : va_P D vwCl [(m0, .inr (5, [.int (nI (T.length - 1)), .ref m1, .ref m2, .ref m3, .int (nI n), .ref m4, .int (nI e), .int (nI k), .ref m5, .ref m6])), (m1, .inl (cI, 400, .inl (upd su j (su (T.length - 1))))), (m2, .inl (cI, 400, .inl (upd pd j (pd (T.length - 1))))), (m3, .inl (cI, 400, .inl (upd ob j (ob (T.length - 1)))))] H := hP
          have hD : va_D A [(m0, .inr (5, [.int (nI (T.length - 1)), .ref m1, .ref m2, .ref m3, .int (nI n), .ref m4, .int (nI e), .int (nI k), .ref m5, .ref m6])), (m1, .inl (cI, 400, .inl (upd su j (su (T.length - 1))))), (m2, .inl (cI, 400, .inl (upd pd j (pd (T.length - 1))))), (m3, .inl (cI, 400, .inl (upd ob j (ob (T.length - 1)))))] := hD
          rw [show T.length - 1 = (tdel T j).length from (tdel_len hj).symm] at hP hD
          refine lv_iconst (v := nI 1) hx hb dM_drop_97 (by decide) ?_
          exact zz_iretW (v := nI 1) (w1 := fun u : ((Nat → Int32) × (Nat → Int32) × (Nat → Int32) × List Nat) => [(m0, .inr (5, [.int (nI u.2.2.2.length), .ref m1, .ref m2, .ref m3, .int (nI n), .ref m4, .int (nI e), .int (nI k), .ref m5, .ref m6])), (m1, .inl (cI, 400, .inl u.1)), (m2, .inl (cI, 400, .inl u.2.1)), (m3, .inl (cI, 400, .inl u.2.2.1))]) (upd su j (su ((tdel T j).length)), upd pd j (pd ((tdel T j).length)), upd ob j (ob ((tdel T j).length)), tdel T j) hx hb hr hlocks (Or.inr ⟨ss, pp, oo, hss, hpp, hoo, ess, epp, eoo, Or.inr ⟨j, hj, ej, rfl, rfl, by
            have h9 := RM_del hM hj
            rw [← tdel_len hj] at h9
            exact h9⟩⟩) hP hK hD hS dM_drop_98
        · -- not taken
          have c34 : r27 < 0 := Classical.not_not.mp (fun q => c34 (i_le.mpr q))
          have hno : ∀ j, j < T.length → T.getD j 0 ≠ 65536 * pp + 256 * ss + oo := by
            rcases hr27 with ⟨a, b⟩ | ⟨j, a, b, c⟩
            · exact b
            · exact absurd (c ▸ c34) (nI_pos (by omega))
          refine lv_iconst (v := nI 0) hx hb dM_drop_37 (by decide) ?_
          exact zz_iretW (v := nI 0) (w1 := fun u : ((Nat → Int32) × (Nat → Int32) × (Nat → Int32) × List Nat) => [(m0, .inr (5, [.int (nI u.2.2.2.length), .ref m1, .ref m2, .ref m3, .int (nI n), .ref m4, .int (nI e), .int (nI k), .ref m5, .ref m6])), (m1, .inl (cI, 400, .inl u.1)), (m2, .inl (cI, 400, .inl u.2.1)), (m3, .inl (cI, 400, .inl u.2.2.1))]) (su, pd, ob, T) hx hb hr hlocks (Or.inr ⟨ss, pp, oo, hss, hpp, hoo, ess, epp, eoo, Or.inl ⟨hno, rfl, rfl⟩⟩) hP hK hD hS dM_drop_38
      · -- not taken
        have c18 : (inr_ 256 o1).toNat = 0 := (nI_eq (a := (inr_ 256 o1).toNat) (b := 0) (by omega) (by omega)).mp c18
        have hs : (inr_ 256 s1 && inr_ 8 p1 && inr_ 256 o1) = false := by rw [e1, e2, bt0 (b := inr_ 256 o1) (by omega)]; rfl
        refine lv_iconst (v := (-1)) hx hb dM_drop_21 (by decide) ?_
        exact zz_iretW (v := (-1)) (w1 := fun u : ((Nat → Int32) × (Nat → Int32) × (Nat → Int32) × List Nat) => [(m0, .inr (5, [.int (nI u.2.2.2.length), .ref m1, .ref m2, .ref m3, .int (nI n), .ref m4, .int (nI e), .int (nI k), .ref m5, .ref m6])), (m1, .inl (cI, 400, .inl u.1)), (m2, .inl (cI, 400, .inl u.2.1)), (m3, .inl (cI, 400, .inl u.2.2.1))]) (su, pd, ob, T) hx hb hr hlocks (Or.inl ⟨hs, rfl, rfl⟩) hP hK hD hS dM_drop_22

abbrev rm_M_count : Room := { frames := 1, cells := 0, slots := 0, locals := 25 }
set_option maxHeartbeats 4000000 in
set_option maxRecDepth 100000 in
theorem c_M_count (l : Launch) (D : va_G) (cI cB : ClassId) (sz : Nat) (m0 m1 m2 m3 m4 m5 m6 n k e : Nat) (su pd ob : Nat → Int32) (T : List Nat) (hM : RM T su pd ob) (se : Nat → Int32) (p1 wh : Int32) : Met l yM_count wM_count rm_M_count (zz_P D vwCl [(cI, .int), (cB, .boolean)] [.ref m0, .int p1, .int wh] [(m0, .inr (5, [.int (nI T.length), .ref m1, .ref m2, .ref m3, .int (nI n), .ref m4, .int (nI e), .int (nI k), .ref m5, .ref m6])), (m1, .inl (cI, 400, .inl su)), (m2, .inl (cI, 400, .inl pd)), (m3, .inl (cI, 400, .inl ob)), (m6, .inl (cB, 256, .inl se))] sz) (va_Qi (fun (r : Int32) (u : (Nat → Int32)) => ((inr_ 8 p1 = false ∨ (wh ≠ nI 0 ∧ wh ≠ nI 1 ∧ wh ≠ nI 2)) ∧ r = -1) ∨ ∃ pp, pp < 8 ∧ p1 = nI pp ∧ ((wh = nI 0 ∧ r = nI (T.countP (isp pp))) ∨ (wh = nI 1 ∧ r = nI (cnt (MA T (2 ^ pp) true) 256)) ∨ (wh = nI 2 ∧ r = nI (cnt (MA T (2 ^ pp) false) 256)))) (fun u : (Nat → Int32) => zz_B D vwCl [(cI, .int), (cB, .boolean)] (va_A [(m0, .inr (5, [.int (nI T.length), .ref m1, .ref m2, .ref m3, .int (nI n), .ref m4, .int (nI e), .int (nI k), .ref m5, .ref m6])), (m1, .inl (cI, 400, .inl su)), (m2, .inl (cI, 400, .inl pd)), (m3, .inl (cI, 400, .inl ob)), (m6, .inl (cB, 256, .inl se))] sz) [(m0, .inr (5, [.int (nI T.length), .ref m1, .ref m2, .ref m3, .int (nI n), .ref m4, .int (nI e), .int (nI k), .ref m5, .ref m6])), (m1, .inl (cI, 400, .inl su)), (m2, .inl (cI, 400, .inl pd)), (m3, .inl (cI, 400, .inl ob)), (m6, .inl (cB, 256, .inl u))]) (va_A [(m0, .inr (5, [.int (nI T.length), .ref m1, .ref m2, .ref m3, .int (nI n), .ref m4, .int (nI e), .int (nI k), .ref m5, .ref m6])), (m1, .inl (cI, 400, .inl su)), (m2, .inl (cI, 400, .inl pd)), (m3, .inl (cI, 400, .inl ob)), (m6, .inl (cB, 256, .inl se))] sz)) 0 0 (va_A [(m0, .inr (5, [.int (nI T.length), .ref m1, .ref m2, .ref m3, .int (nI n), .ref m4, .int (nI e), .int (nI k), .ref m5, .ref m6])), (m1, .inl (cI, 400, .inl su)), (m2, .inl (cI, 400, .inl pd)), (m3, .inl (cI, 400, .inl ob)), (m6, .inl (cB, 256, .inl se))] sz) := by
  refine Met.ofW (cc := cM_count) (maxL := 3) (ret := (some .int)) (by decide) rfl ?_
  intro pg ev s mt args below meth kd s₁ B hml hv
  obtain ⟨rfl, hsz, hP, hK, hD0, hN⟩ := hv
  have hx := B.exec
  have hb := B.bytes
  have hr := B.returns
  have ht : ∀ w ∈ W0, w.before _ s = true := fun w h => atoms_spec (ws := wM_count) B.pre w (List.mem_cons_of_mem _ h)
  have hown : s.vm.findClass "StatRowsModel" = some mt.cls := findClass_of_methodNamed B.named
  have hlocks := B.notSynchronized
  subst hsz
  have hD := hD0.self (sz := s.heap.size)
  generalize hAe : va_A [(m0, .inr (5, [.int (nI T.length), .ref m1, .ref m2, .ref m3, .int (nI n), .ref m4, .int (nI e), .int (nI k), .ref m5, .ref m6])), (m1, .inl (cI, 400, .inl su)), (m2, .inl (cI, 400, .inl pd)), (m3, .inl (cI, 400, .inl ob)), (m6, .inl (cB, 256, .inl se))] s.heap.size = A at hD ⊢
  have hA : ∀ q : Nat, s.heap.size ≤ q → A q := fun q h => by rw [← hAe]; exact Or.inr h
  have hS : va_S A s.heap s.heap [] := va_S.rf
  have hP : va_P D vwCl [(m0, .inr (5, [.int (nI T.length), .ref m1, .ref m2, .ref m3, .int (nI n), .ref m4, .int (nI e), .int (nI k), .ref m5, .ref m6])), (m1, .inl (cI, 400, .inl su)), (m2, .inl (cI, 400, .inl pd)), (m3, .inl (cI, 400, .inl ob)), (m6, .inl (cB, 256, .inl se))] s.heap := hP
  have hl := lv_entry ([.ref m0, .int p1, .int wh]) (n := 3) (Nat.le_of_ble_eq_true rfl)
  rw [lg_entry_eq]
  generalize (lg_sl ([.ref m0, .int p1, .int wh]) ++ List.replicate (3 - (lg_sl ([.ref m0, .int p1, .int wh])).length) Slot.unset).toArray = ls at hl ⊢
  have hl : lv_has ls 3 [(0, .ref m0), (1, .int p1), (2, .int wh)] := hl
  have hM4 := hM.2.1
  have bl0 := btl (inr_ 8 p1)
  refine lv_iload_n hx hb dM_count_0 rfl (lv_at hl 1 rfl) ?_
  refine zz_ci (v := nI ((inr_ 8 p1).toNat)) (W.runS (As := [.int p1]) (rest := []) ⟨hx, hb, hml, hown, ht⟩ (c_M_isPredicate l p1) (va_cwS 1 ht (gd_S wd428 wd429 wd6 wd430) rfl rfl rfl (by decide +kernel) ⟨Nat.le_of_ble_eq_true rfl, Nat.le_of_ble_eq_true rfl⟩) zz_N_S rfl rfl hl.1 rfl (lv_room (Nat.le_of_ble_eq_true rfl)) dM_count_1 ⟨Nat.le_of_ble_eq_true rfl, Nat.le_of_ble_eq_true rfl⟩) ?_
  refine lv_if_eq (tgt := 16) hx hb dM_count_4 (by decide) (fun c4 => ?_) (fun c4 => ?_)
  · -- taken
    have c4 : (inr_ 8 p1).toNat = 0 := (nI_eq (a := (inr_ 8 p1).toNat) (b := 0) (by omega) (by omega)).mp c4
    have hbad : inr_ 8 p1 = false ∨ (wh ≠ nI 0 ∧ wh ≠ nI 1 ∧ wh ≠ nI 2) := Or.inl (bt0 c4)
    refine lv_iconst (v := (-1)) hx hb dM_count_16 (by decide) ?_
    exact zz_iretW (v := (-1)) (w1 := fun u : (Nat → Int32) => [(m0, .inr (5, [.int (nI T.length), .ref m1, .ref m2, .ref m3, .int (nI n), .ref m4, .int (nI e), .int (nI k), .ref m5, .ref m6])), (m1, .inl (cI, 400, .inl su)), (m2, .inl (cI, 400, .inl pd)), (m3, .inl (cI, 400, .inl ob)), (m6, .inl (cB, 256, .inl u))]) se hx hb hr hlocks (Or.inl ⟨hbad, rfl⟩) hP hK hD hS dM_count_17
  · -- not taken
    have c4 : ¬ ((inr_ 8 p1).toNat = 0) := fun h => c4 ((nI_eq (a := (inr_ 8 p1).toNat) (b := 0) (by omega) (by omega)).mpr h)
    have hb1 := bt1 c4
    refine lv_iload_n hx hb dM_count_7 rfl (lv_at hl 2 rfl) ?_
    refine lv_if_lt (tgt := 16) hx hb dM_count_8 (by decide) (fun c8 => ?_) (fun c8 => ?_)
    · -- taken
      have hbad : inr_ 8 p1 = false ∨ (wh ≠ nI 0 ∧ wh ≠ nI 1 ∧ wh ≠ nI 2) := Or.inr ⟨fun q => absurd (q ▸ c8) (by decide), fun q => absurd (q ▸ c8) (by decide), fun q => absurd (q ▸ c8) (by decide)⟩
      refine lv_iconst (v := (-1)) hx hb dM_count_16 (by decide) ?_
      exact zz_iretW (v := (-1)) (w1 := fun u : (Nat → Int32) => [(m0, .inr (5, [.int (nI T.length), .ref m1, .ref m2, .ref m3, .int (nI n), .ref m4, .int (nI e), .int (nI k), .ref m5, .ref m6])), (m1, .inl (cI, 400, .inl su)), (m2, .inl (cI, 400, .inl pd)), (m3, .inl (cI, 400, .inl ob)), (m6, .inl (cB, 256, .inl u))]) se hx hb hr hlocks (Or.inl ⟨hbad, rfl⟩) hP hK hD hS dM_count_17
    · -- not taken
      refine lv_iload_n hx hb dM_count_11 rfl (lv_at hl 2 rfl) ?_
      refine lv_iconst (v := nI 2) hx hb dM_count_12 (by decide) ?_
      refine lv_icmp_le (tgt := 18) hx hb dM_count_13 (by decide) (fun c13 => ?_) (fun c13 => ?_)
      · -- taken
        obtain ⟨pp, hpp, epp⟩ := inr_t (by decide) hb1
        rw [epp] at hl
        have h3 := i3 c8 c13
        refine lv_iload_n hx hb dM_count_18 rfl (lv_at hl 2 rfl) ?_
        refine lv_if_ne (tgt := 30) hx hb dM_count_19 (by decide) (fun c19 => ?_) (fun c19 => ?_)
        · -- taken
          refine lv_aload_n hx hb dM_count_30 rfl (lv_at hl 0 rfl) ?_
          refine lv_iconst (v := nI 1) hx hb dM_count_31 (by decide) ?_
          refine lv_iload_n hx hb dM_count_32 rfl (lv_at hl 1 rfl) ?_
          refine lv_ishl hx hb dM_count_33 ?_
          refine zz_top (y := nI (2 ^ pp)) (zz_shl1 _ hpp) ?_
          refine lv_iload_n hx hb dM_count_34 rfl (lv_at hl 2 rfl) ?_
          refine lv_iconst (v := nI 1) hx hb dM_count_35 (by decide) ?_
          refine lv_icmp_ne (tgt := 43) hx hb dM_count_36 (by decide) (fun c36 => ?_) (fun c36 => ?_)
          · -- taken
            refine lv_iconst (v := nI 0) hx hb dM_count_43 (by decide) ?_
            refine zz_wi (wc := [(m0, .inr (5, [.int (nI T.length), .ref m1, .ref m2, .ref m3, .int (nI n), .ref m4, .int (nI e), .int (nI k), .ref m5, .ref m6])), (m1, .inl (cI, 400, .inl su)), (m2, .inl (cI, 400, .inl pd)), (m3, .inl (cI, 400, .inl ob)), (m6, .inl (cB, 256, .inl se))]) (wr := []) (va_runV (As := [.int (nI (2 ^ pp)), .int (nI false.toNat)]) (rest := []) ⟨hx, hb, hml, hown, ht⟩ (c_M_different l D cI cB s.heap.size m0 m1 m2 m3 m4 m5 m6 n k e su pd ob T hM se (2 ^ pp) (pow8 pp hpp) false) (cwV 2 ht (gd_V wd447 wd449 wp18 wd6 wd450) rfl rfl rfl (by decide +kernel) ⟨Nat.le_of_ble_eq_true rfl, Nat.le_of_ble_eq_true rfl⟩) (zz_P_V hN hK (hP.sub (ws' := [(m0, .inr (5, [.int (nI T.length), .ref m1, .ref m2, .ref m3, .int (nI n), .ref m4, .int (nI e), .int (nI k), .ref m5, .ref m6])), (m1, .inl (cI, 400, .inl su)), (m2, .inl (cI, 400, .inl pd)), (m3, .inl (cI, 400, .inl ob)), (m6, .inl (cB, 256, .inl se))]) [0, 1, 2, 3, 4] rfl) (hD.sub (ws' := [(m0, .inr (5, [.int (nI T.length), .ref m1, .ref m2, .ref m3, .int (nI n), .ref m4, .int (nI e), .int (nI k), .ref m5, .ref m6])), (m1, .inl (cI, 400, .inl su)), (m2, .inl (cI, 400, .inl pd)), (m3, .inl (cI, 400, .inl ob)), (m6, .inl (cB, 256, .inl se))]) [0, 1, 2, 3, 4] (by decide) rfl) 5 0 rfl rfl) rfl rfl hl.1 rfl (lv_room (Nat.le_of_ble_eq_true rfl)) dM_count_44 ⟨Nat.le_of_ble_eq_true rfl, Nat.le_of_ble_eq_true rfl⟩) hP hD hS hA [0, 1, 2, 3, 4] [] rfl rfl (by decide) (by decide) (fun r44 u44 H locs hq44 hP hD hS => ?_)
            have hP := hP.sub (ws' := [(m0, .inr (5, [.int (nI T.length), .ref m1, .ref m2, .ref m3, .int (nI n), .ref m4, .int (nI e), .int (nI k), .ref m5, .ref m6])), (m1, .inl (cI, 400, .inl su)), (m2, .inl (cI, 400, .inl pd)), (m3, .inl (cI, 400, .inl ob)), (m6, .inl (cB, 256, .inl u44))]) [0, 1, 2, 3, 4] rfl
            have hD := hD.sub (ws' := [(m0, .inr (5, [.int (nI T.length), .ref m1, .ref m2, .ref m3, .int (nI n), .ref m4, .int (nI e), .int (nI k), .ref m5, .ref m6])), (m1, .inl (cI, 400, .inl su)), (m2, .inl (cI, 400, .inl pd)), (m3, .inl (cI, 400, .inl ob)), (m6, .inl (cB, 256, .inl u44))]) [0, 1, 2, 3, 4] (by decide) rfl
            refine zz_top (y := nI (cnt (MA T (2 ^ pp) false) 256)) (hq44) ?_
            exact zz_iretW (v := nI (cnt (MA T (2 ^ pp) false) 256)) (w1 := fun u : (Nat → Int32) => [(m0, .inr (5, [.int (nI T.length), .ref m1, .ref m2, .ref m3, .int (nI n), .ref m4, .int (nI e), .int (nI k), .ref m5, .ref m6])), (m1, .inl (cI, 400, .inl su)), (m2, .inl (cI, 400, .inl pd)), (m3, .inl (cI, 400, .inl ob)), (m6, .inl (cB, 256, .inl u))]) u44 hx hb hr hlocks (Or.inr ⟨pp, hpp, epp, Or.inr (Or.inr ⟨(h3.resolve_left c19).resolve_left c36, rfl⟩)⟩) hP hK hD hS dM_count_47
          · -- not taken
            refine lv_iconst (v := nI 1) hx hb dM_count_39 (by decide) ?_
            refine lv_goto (tgt := 44) hx hb dM_count_40 (by decide) ?_
            refine zz_wi (wc := [(m0, .inr (5, [.int (nI T.length), .ref m1, .ref m2, .ref m3, .int (nI n), .ref m4, .int (nI e), .int (nI k), .ref m5, .ref m6])), (m1, .inl (cI, 400, .inl su)), (m2, .inl (cI, 400, .inl pd)), (m3, .inl (cI, 400, .inl ob)), (m6, .inl (cB, 256, .inl se))]) (wr := []) (va_runV (As := [.int (nI (2 ^ pp)), .int (nI true.toNat)]) (rest := []) ⟨hx, hb, hml, hown, ht⟩ (c_M_different l D cI cB s.heap.size m0 m1 m2 m3 m4 m5 m6 n k e su pd ob T hM se (2 ^ pp) (pow8 pp hpp) true) (cwV 2 ht (gd_V wd447 wd449 wp18 wd6 wd450) rfl rfl rfl (by decide +kernel) ⟨Nat.le_of_ble_eq_true rfl, Nat.le_of_ble_eq_true rfl⟩) (zz_P_V hN hK (hP.sub (ws' := [(m0, .inr (5, [.int (nI T.length), .ref m1, .ref m2, .ref m3, .int (nI n), .ref m4, .int (nI e), .int (nI k), .ref m5, .ref m6])), (m1, .inl (cI, 400, .inl su)), (m2, .inl (cI, 400, .inl pd)), (m3, .inl (cI, 400, .inl ob)), (m6, .inl (cB, 256, .inl se))]) [0, 1, 2, 3, 4] rfl) (hD.sub (ws' := [(m0, .inr (5, [.int (nI T.length), .ref m1, .ref m2, .ref m3, .int (nI n), .ref m4, .int (nI e), .int (nI k), .ref m5, .ref m6])), (m1, .inl (cI, 400, .inl su)), (m2, .inl (cI, 400, .inl pd)), (m3, .inl (cI, 400, .inl ob)), (m6, .inl (cB, 256, .inl se))]) [0, 1, 2, 3, 4] (by decide) rfl) 5 0 rfl rfl) rfl rfl hl.1 rfl (lv_room (Nat.le_of_ble_eq_true rfl)) dM_count_44 ⟨Nat.le_of_ble_eq_true rfl, Nat.le_of_ble_eq_true rfl⟩) hP hD hS hA [0, 1, 2, 3, 4] [] rfl rfl (by decide) (by decide) (fun r44 u44 H locs hq44 hP hD hS => ?_)
            have hP := hP.sub (ws' := [(m0, .inr (5, [.int (nI T.length), .ref m1, .ref m2, .ref m3, .int (nI n), .ref m4, .int (nI e), .int (nI k), .ref m5, .ref m6])), (m1, .inl (cI, 400, .inl su)), (m2, .inl (cI, 400, .inl pd)), (m3, .inl (cI, 400, .inl ob)), (m6, .inl (cB, 256, .inl u44))]) [0, 1, 2, 3, 4] rfl
            have hD := hD.sub (ws' := [(m0, .inr (5, [.int (nI T.length), .ref m1, .ref m2, .ref m3, .int (nI n), .ref m4, .int (nI e), .int (nI k), .ref m5, .ref m6])), (m1, .inl (cI, 400, .inl su)), (m2, .inl (cI, 400, .inl pd)), (m3, .inl (cI, 400, .inl ob)), (m6, .inl (cB, 256, .inl u44))]) [0, 1, 2, 3, 4] (by decide) rfl
            refine zz_top (y := nI (cnt (MA T (2 ^ pp) true) 256)) (hq44) ?_
            exact zz_iretW (v := nI (cnt (MA T (2 ^ pp) true) 256)) (w1 := fun u : (Nat → Int32) => [(m0, .inr (5, [.int (nI T.length), .ref m1, .ref m2, .ref m3, .int (nI n), .ref m4, .int (nI e), .int (nI k), .ref m5, .ref m6])), (m1, .inl (cI, 400, .inl su)), (m2, .inl (cI, 400, .inl pd)), (m3, .inl (cI, 400, .inl ob)), (m6, .inl (cB, 256, .inl u))]) u44 hx hb hr hlocks (Or.inr ⟨pp, hpp, epp, Or.inr (Or.inl ⟨c36, rfl⟩)⟩) hP hK hD hS dM_count_47
        · -- not taken
          refine lv_aload_n hx hb dM_count_22 rfl (lv_at hl 0 rfl) ?_
          refine lv_iload_n hx hb dM_count_23 rfl (lv_at hl 1 rfl) ?_
          refine zz_ci (v := nI (T.countP (isp pp))) (W.runV (As := [.int (nI pp)]) (rest := []) ⟨hx, hb, hml, hown, ht⟩ (c_M_countOf l D cI cB m0 m1 m2 m3 m4 m5 m6 n k e su pd ob T hM pp hpp) (cwV 1 ht (gd_V wd443 wd445 wp17 wd6 wd446) rfl rfl rfl (by decide +kernel) ⟨Nat.le_of_ble_eq_true rfl, Nat.le_of_ble_eq_true rfl⟩) (zz_R_V hN hK (hP.sub (ws' := [(m0, .inr (5, [.int (nI T.length), .ref m1, .ref m2, .ref m3, .int (nI n), .ref m4, .int (nI e), .int (nI k), .ref m5, .ref m6])), (m1, .inl (cI, 400, .inl su)), (m2, .inl (cI, 400, .inl pd)), (m3, .inl (cI, 400, .inl ob))]) [0, 1, 2, 3] rfl) 5 0 rfl rfl) rfl rfl hl.1 rfl (lv_room (Nat.le_of_ble_eq_true rfl)) dM_count_24 ⟨Nat.le_of_ble_eq_true rfl, Nat.le_of_ble_eq_true rfl⟩) ?_
          refine lv_goto (tgt := 47) hx hb dM_count_27 (by decide) ?_
          exact zz_iretW (v := nI (T.countP (isp pp))) (w1 := fun u : (Nat → Int32) => [(m0, .inr (5, [.int (nI T.length), .ref m1, .ref m2, .ref m3, .int (nI n), .ref m4, .int (nI e), .int (nI k), .ref m5, .ref m6])), (m1, .inl (cI, 400, .inl su)), (m2, .inl (cI, 400, .inl pd)), (m3, .inl (cI, 400, .inl ob)), (m6, .inl (cB, 256, .inl u))]) se hx hb hr hlocks (Or.inr ⟨pp, hpp, epp, Or.inl ⟨c19, rfl⟩⟩) hP hK hD hS dM_count_47
      · -- not taken
        have hbad : inr_ 8 p1 = false ∨ (wh ≠ nI 0 ∧ wh ≠ nI 1 ∧ wh ≠ nI 2) := Or.inr ⟨fun q => c13 (by rw [q]; decide), fun q => c13 (by rw [q]; decide), fun q => c13 (by rw [q]; decide)⟩
        refine lv_iconst (v := (-1)) hx hb dM_count_16 (by decide) ?_
        exact zz_iretW (v := (-1)) (w1 := fun u : (Nat → Int32) => [(m0, .inr (5, [.int (nI T.length), .ref m1, .ref m2, .ref m3, .int (nI n), .ref m4, .int (nI e), .int (nI k), .ref m5, .ref m6])), (m1, .inl (cI, 400, .inl su)), (m2, .inl (cI, 400, .inl pd)), (m3, .inl (cI, 400, .inl ob)), (m6, .inl (cB, 256, .inl u))]) se hx hb hr hlocks (Or.inl ⟨hbad, rfl⟩) hP hK hD hS dM_count_17

abbrev rm_M_chain : Room := { frames := 3, cells := 0, slots := 0, locals := 72 }
set_option maxHeartbeats 4000000 in
set_option maxRecDepth 100000 in
theorem c_M_chain (l : Launch) (D : va_G) (cI cB : ClassId) (m0 m1 m2 m3 m4 m5 m6 n k e : Nat) (su pd ob : Nat → Int32) (T : List Nat) (hM : RM T su pd ob) (p1 p2 : Int32) : Met l yM_chain wM_chain rm_M_chain (zz_R D vwCl [(cI, .int), (cB, .boolean)] [.ref m0, .int p1, .int p2] [(m0, .inr (5, [.int (nI T.length), .ref m1, .ref m2, .ref m3, .int (nI n), .ref m4, .int (nI e), .int (nI k), .ref m5, .ref m6])), (m1, .inl (cI, 400, .inl su)), (m2, .inl (cI, 400, .inl pd)), (m3, .inl (cI, 400, .inl ob))]) (vp_Sl (fun r : Int64 => ((inr_ 8 p1 && inr_ 8 p2) = false ∧ r = -1) ∨ ∃ pp qq, pp < 8 ∧ qq < 8 ∧ p1 = nI pp ∧ p2 = nI qq ∧ r = lN (sumf (prs T pp qq true false) T))) 0 0 (fun _ => False) := by
  refine Met.ofW (cc := cM_chain) (maxL := 3) (ret := (some .long)) (by decide) rfl ?_
  intro pg ev s mt args below meth kd s₁ B hml hv
  obtain ⟨rfl, hP, hK, hN⟩ := hv
  have hx := B.exec
  have hb := B.bytes
  have hr := B.returns
  have ht : ∀ w ∈ W0, w.before _ s = true := fun w h => atoms_spec (ws := wM_chain) B.pre w (List.mem_cons_of_mem _ h)
  have hown : s.vm.findClass "StatRowsModel" = some mt.cls := findClass_of_methodNamed B.named
  have hlocks := B.notSynchronized
  have hl := lv_entry ([.ref m0, .int p1, .int p2]) (n := 3) (Nat.le_of_ble_eq_true rfl)
  rw [lg_entry_eq]
  generalize (lg_sl ([.ref m0, .int p1, .int p2]) ++ List.replicate (3 - (lg_sl ([.ref m0, .int p1, .int p2])).length) Slot.unset).toArray = ls at hl ⊢
  have hl : lv_has ls 3 [(0, .ref m0), (1, .int p1), (2, .int p2)] := hl
  have hM4 := hM.2.1
  have bl0 := btl (inr_ 8 p1)
  have bl1 := btl (inr_ 8 p2)
  refine lv_iload_n hx hb dM_chain_0 rfl (lv_at hl 1 rfl) ?_
  refine zz_ci (v := nI ((inr_ 8 p1).toNat)) (W.runS (As := [.int p1]) (rest := []) ⟨hx, hb, hml, hown, ht⟩ (c_M_isPredicate l p1) (va_cwS 1 ht (gd_S wd428 wd429 wd6 wd430) rfl rfl rfl (by decide +kernel) ⟨Nat.le_of_ble_eq_true rfl, Nat.le_of_ble_eq_true rfl⟩) zz_N_S rfl rfl hl.1 rfl (lv_room (Nat.le_of_ble_eq_true rfl)) dM_chain_1 ⟨Nat.le_of_ble_eq_true rfl, Nat.le_of_ble_eq_true rfl⟩) ?_
  refine lv_if_eq (tgt := 25) hx hb dM_chain_4 (by decide) (fun c4 => ?_) (fun c4 => ?_)
  · -- taken
    have c4 : (inr_ 8 p1).toNat = 0 := (nI_eq (a := (inr_ 8 p1).toNat) (b := 0) (by omega) (by omega)).mp c4
    have hbb : (inr_ 8 p1 && inr_ 8 p2) = false := by rw [bt0 c4]; rfl
    refine lv_ldc2 (v := (-1)) hx hb hown (ht _ wd468) dM_chain_25 ?_
    exact zz_lretR (v := (-1)) hx hb hr hlocks (Or.inl ⟨hbb, rfl⟩) dM_chain_28
  · -- not taken
    have c4 : ¬ ((inr_ 8 p1).toNat = 0) := fun h => c4 ((nI_eq (a := (inr_ 8 p1).toNat) (b := 0) (by omega) (by omega)).mpr h)
    have hb1 := bt1 c4
    refine lv_iload_n hx hb dM_chain_7 rfl (lv_at hl 2 rfl) ?_
    refine zz_ci (v := nI ((inr_ 8 p2).toNat)) (W.runS (As := [.int p2]) (rest := []) ⟨hx, hb, hml, hown, ht⟩ (c_M_isPredicate l p2) (va_cwS 1 ht (gd_S wd428 wd429 wd6 wd430) rfl rfl rfl (by decide +kernel) ⟨Nat.le_of_ble_eq_true rfl, Nat.le_of_ble_eq_true rfl⟩) zz_N_S rfl rfl hl.1 rfl (lv_room (Nat.le_of_ble_eq_true rfl)) dM_chain_8 ⟨Nat.le_of_ble_eq_true rfl, Nat.le_of_ble_eq_true rfl⟩) ?_
    refine lv_if_eq (tgt := 25) hx hb dM_chain_11 (by decide) (fun c11 => ?_) (fun c11 => ?_)
    · -- taken
      have c11 : (inr_ 8 p2).toNat = 0 := (nI_eq (a := (inr_ 8 p2).toNat) (b := 0) (by omega) (by omega)).mp c11
      have hbb : (inr_ 8 p1 && inr_ 8 p2) = false := by rw [hb1, bt0 c11]; rfl
      refine lv_ldc2 (v := (-1)) hx hb hown (ht _ wd468) dM_chain_25 ?_
      exact zz_lretR (v := (-1)) hx hb hr hlocks (Or.inl ⟨hbb, rfl⟩) dM_chain_28
    · -- not taken
      have c11 : ¬ ((inr_ 8 p2).toNat = 0) := fun h => c11 ((nI_eq (a := (inr_ 8 p2).toNat) (b := 0) (by omega) (by omega)).mpr h)
      have hb2 := bt1 c11
      obtain ⟨pp, hpp, epp⟩ := inr_t (by decide) hb1
      rw [epp] at hl
      obtain ⟨qq, hqq, eqq⟩ := inr_t (by decide) hb2
      rw [eqq] at hl
      refine lv_aload_n hx hb dM_chain_14 rfl (lv_at hl 0 rfl) ?_
      refine lv_iload_n hx hb dM_chain_15 rfl (lv_at hl 1 rfl) ?_
      refine lv_iload_n hx hb dM_chain_16 rfl (lv_at hl 2 rfl) ?_
      refine lv_iconst (v := nI 1) hx hb dM_chain_17 (by decide) ?_
      refine lv_iconst (v := nI 0) hx hb dM_chain_18 (by decide) ?_
      refine zz_cl (v := lN (sumf (prs T pp qq true false) T)) (W.runV (As := [.int (nI pp), .int (nI qq), .int (nI 1), .int (nI 0)]) (rest := []) ⟨hx, hb, hml, hown, ht⟩ (c_M_pairs l D cI cB m0 m1 m2 m3 m4 m5 m6 n k e su pd ob T hM pp qq hpp hqq true false) (cwV 4 ht (gd_V wd455 wd457 wp19 wd6 wd458) rfl rfl rfl (by decide +kernel) ⟨Nat.le_of_ble_eq_true rfl, Nat.le_of_ble_eq_true rfl⟩) (zz_R_V hN hK (hP.sub (ws' := [(m0, .inr (5, [.int (nI T.length), .ref m1, .ref m2, .ref m3, .int (nI n), .ref m4, .int (nI e), .int (nI k), .ref m5, .ref m6])), (m1, .inl (cI, 400, .inl su)), (m2, .inl (cI, 400, .inl pd)), (m3, .inl (cI, 400, .inl ob))]) [0, 1, 2, 3] rfl) 5 0 rfl rfl) rfl rfl hl.1 rfl (lv_room (Nat.le_of_ble_eq_true rfl)) dM_chain_19 ⟨Nat.le_of_ble_eq_true rfl, Nat.le_of_ble_eq_true rfl⟩) ?_
      refine lv_goto (tgt := 28) hx hb dM_chain_22 (by decide) ?_
      exact zz_lretR (v := lN (sumf (prs T pp qq true false) T)) hx hb hr hlocks (Or.inr ⟨pp, qq, hpp, hqq, epp, eqq, rfl⟩) dM_chain_28

abbrev rm_M_star : Room := { frames := 3, cells := 0, slots := 0, locals := 72 }
set_option maxHeartbeats 4000000 in
set_option maxRecDepth 100000 in
theorem c_M_star (l : Launch) (D : va_G) (cI cB : ClassId) (m0 m1 m2 m3 m4 m5 m6 n k e : Nat) (su pd ob : Nat → Int32) (T : List Nat) (hM : RM T su pd ob) (p1 p2 : Int32) : Met l yM_star wM_star rm_M_star (zz_R D vwCl [(cI, .int), (cB, .boolean)] [.ref m0, .int p1, .int p2] [(m0, .inr (5, [.int (nI T.length), .ref m1, .ref m2, .ref m3, .int (nI n), .ref m4, .int (nI e), .int (nI k), .ref m5, .ref m6])), (m1, .inl (cI, 400, .inl su)), (m2, .inl (cI, 400, .inl pd)), (m3, .inl (cI, 400, .inl ob))]) (vp_Sl (fun r : Int64 => ((inr_ 8 p1 && inr_ 8 p2) = false ∧ r = -1) ∨ ∃ pp qq, pp < 8 ∧ qq < 8 ∧ p1 = nI pp ∧ p2 = nI qq ∧ r = lN (sumf (prs T pp qq false false) T))) 0 0 (fun _ => False) := by
  refine Met.ofW (cc := cM_star) (maxL := 3) (ret := (some .long)) (by decide) rfl ?_
  intro pg ev s mt args below meth kd s₁ B hml hv
  obtain ⟨rfl, hP, hK, hN⟩ := hv
  have hx := B.exec
  have hb := B.bytes
  have hr := B.returns
  have ht : ∀ w ∈ W0, w.before _ s = true := fun w h => atoms_spec (ws := wM_star) B.pre w (List.mem_cons_of_mem _ h)
  have hown : s.vm.findClass "StatRowsModel" = some mt.cls := findClass_of_methodNamed B.named
  have hlocks := B.notSynchronized
  have hl := lv_entry ([.ref m0, .int p1, .int p2]) (n := 3) (Nat.le_of_ble_eq_true rfl)
  rw [lg_entry_eq]
  generalize (lg_sl ([.ref m0, .int p1, .int p2]) ++ List.replicate (3 - (lg_sl ([.ref m0, .int p1, .int p2])).length) Slot.unset).toArray = ls at hl ⊢
  have hl : lv_has ls 3 [(0, .ref m0), (1, .int p1), (2, .int p2)] := hl
  have hM4 := hM.2.1
  have bl0 := btl (inr_ 8 p1)
  have bl1 := btl (inr_ 8 p2)
  refine lv_iload_n hx hb dM_star_0 rfl (lv_at hl 1 rfl) ?_
  refine zz_ci (v := nI ((inr_ 8 p1).toNat)) (W.runS (As := [.int p1]) (rest := []) ⟨hx, hb, hml, hown, ht⟩ (c_M_isPredicate l p1) (va_cwS 1 ht (gd_S wd428 wd429 wd6 wd430) rfl rfl rfl (by decide +kernel) ⟨Nat.le_of_ble_eq_true rfl, Nat.le_of_ble_eq_true rfl⟩) zz_N_S rfl rfl hl.1 rfl (lv_room (Nat.le_of_ble_eq_true rfl)) dM_star_1 ⟨Nat.le_of_ble_eq_true rfl, Nat.le_of_ble_eq_true rfl⟩) ?_
  refine lv_if_eq (tgt := 25) hx hb dM_star_4 (by decide) (fun c4 => ?_) (fun c4 => ?_)
  · -- taken
    have c4 : (inr_ 8 p1).toNat = 0 := (nI_eq (a := (inr_ 8 p1).toNat) (b := 0) (by omega) (by omega)).mp c4
    have hbb : (inr_ 8 p1 && inr_ 8 p2) = false := by rw [bt0 c4]; rfl
    refine lv_ldc2 (v := (-1)) hx hb hown (ht _ wd468) dM_star_25 ?_
    exact zz_lretR (v := (-1)) hx hb hr hlocks (Or.inl ⟨hbb, rfl⟩) dM_star_28
  · -- not taken
    have c4 : ¬ ((inr_ 8 p1).toNat = 0) := fun h => c4 ((nI_eq (a := (inr_ 8 p1).toNat) (b := 0) (by omega) (by omega)).mpr h)
    have hb1 := bt1 c4
    refine lv_iload_n hx hb dM_star_7 rfl (lv_at hl 2 rfl) ?_
    refine zz_ci (v := nI ((inr_ 8 p2).toNat)) (W.runS (As := [.int p2]) (rest := []) ⟨hx, hb, hml, hown, ht⟩ (c_M_isPredicate l p2) (va_cwS 1 ht (gd_S wd428 wd429 wd6 wd430) rfl rfl rfl (by decide +kernel) ⟨Nat.le_of_ble_eq_true rfl, Nat.le_of_ble_eq_true rfl⟩) zz_N_S rfl rfl hl.1 rfl (lv_room (Nat.le_of_ble_eq_true rfl)) dM_star_8 ⟨Nat.le_of_ble_eq_true rfl, Nat.le_of_ble_eq_true rfl⟩) ?_
    refine lv_if_eq (tgt := 25) hx hb dM_star_11 (by decide) (fun c11 => ?_) (fun c11 => ?_)
    · -- taken
      have c11 : (inr_ 8 p2).toNat = 0 := (nI_eq (a := (inr_ 8 p2).toNat) (b := 0) (by omega) (by omega)).mp c11
      have hbb : (inr_ 8 p1 && inr_ 8 p2) = false := by rw [hb1, bt0 c11]; rfl
      refine lv_ldc2 (v := (-1)) hx hb hown (ht _ wd468) dM_star_25 ?_
      exact zz_lretR (v := (-1)) hx hb hr hlocks (Or.inl ⟨hbb, rfl⟩) dM_star_28
    · -- not taken
      have c11 : ¬ ((inr_ 8 p2).toNat = 0) := fun h => c11 ((nI_eq (a := (inr_ 8 p2).toNat) (b := 0) (by omega) (by omega)).mpr h)
      have hb2 := bt1 c11
      obtain ⟨pp, hpp, epp⟩ := inr_t (by decide) hb1
      rw [epp] at hl
      obtain ⟨qq, hqq, eqq⟩ := inr_t (by decide) hb2
      rw [eqq] at hl
      refine lv_aload_n hx hb dM_star_14 rfl (lv_at hl 0 rfl) ?_
      refine lv_iload_n hx hb dM_star_15 rfl (lv_at hl 1 rfl) ?_
      refine lv_iload_n hx hb dM_star_16 rfl (lv_at hl 2 rfl) ?_
      refine lv_iconst (v := nI 0) hx hb dM_star_17 (by decide) ?_
      refine lv_iconst (v := nI 0) hx hb dM_star_18 (by decide) ?_
      refine zz_cl (v := lN (sumf (prs T pp qq false false) T)) (W.runV (As := [.int (nI pp), .int (nI qq), .int (nI 0), .int (nI 0)]) (rest := []) ⟨hx, hb, hml, hown, ht⟩ (c_M_pairs l D cI cB m0 m1 m2 m3 m4 m5 m6 n k e su pd ob T hM pp qq hpp hqq false false) (cwV 4 ht (gd_V wd455 wd457 wp19 wd6 wd458) rfl rfl rfl (by decide +kernel) ⟨Nat.le_of_ble_eq_true rfl, Nat.le_of_ble_eq_true rfl⟩) (zz_R_V hN hK (hP.sub (ws' := [(m0, .inr (5, [.int (nI T.length), .ref m1, .ref m2, .ref m3, .int (nI n), .ref m4, .int (nI e), .int (nI k), .ref m5, .ref m6])), (m1, .inl (cI, 400, .inl su)), (m2, .inl (cI, 400, .inl pd)), (m3, .inl (cI, 400, .inl ob))]) [0, 1, 2, 3] rfl) 5 0 rfl rfl) rfl rfl hl.1 rfl (lv_room (Nat.le_of_ble_eq_true rfl)) dM_star_19 ⟨Nat.le_of_ble_eq_true rfl, Nat.le_of_ble_eq_true rfl⟩) ?_
      refine lv_goto (tgt := 28) hx hb dM_star_22 (by decide) ?_
      exact zz_lretR (v := lN (sumf (prs T pp qq false false) T)) hx hb hr hlocks (Or.inr ⟨pp, qq, hpp, hqq, epp, eqq, rfl⟩) dM_star_28

abbrev rm_M_bucket : Room := { frames := 1, cells := 0, slots := 0, locals := 25 }
set_option maxHeartbeats 4000000 in
set_option maxRecDepth 100000 in
theorem c_M_bucket (l : Launch) (D : va_G) (cI cB : ClassId) (m0 m1 m2 m3 m4 m5 m6 n k e : Nat) (su pd ob : Nat → Int32) (T : List Nat) (hM : RM T su pd ob) (p1 fr to : Int32) : Met l yM_bucket wM_bucket rm_M_bucket (zz_R D vwCl [(cI, .int), (cB, .boolean)] [.ref m0, .int p1, .int fr, .int to] [(m0, .inr (5, [.int (nI T.length), .ref m1, .ref m2, .ref m3, .int (nI n), .ref m4, .int (nI e), .int (nI k), .ref m5, .ref m6])), (m1, .inl (cI, 400, .inl su)), (m2, .inl (cI, 400, .inl pd)), (m3, .inl (cI, 400, .inl ob))]) (vp_Si (fun r : Int32 => (inr_ 8 p1 = false ∧ r = -1) ∨ ∃ pp, pp < 8 ∧ p1 = nI pp ∧ r = nI (T.countP (fun C => isp pp C && btw fr to (C % 256))))) 0 0 (fun _ => False) := by
  refine Met.ofW (cc := cM_bucket) (maxL := 4) (ret := (some .int)) (by decide) rfl ?_
  intro pg ev s mt args below meth kd s₁ B hml hv
  obtain ⟨rfl, hP, hK, hN⟩ := hv
  have hx := B.exec
  have hb := B.bytes
  have hr := B.returns
  have ht : ∀ w ∈ W0, w.before _ s = true := fun w h => atoms_spec (ws := wM_bucket) B.pre w (List.mem_cons_of_mem _ h)
  have hown : s.vm.findClass "StatRowsModel" = some mt.cls := findClass_of_methodNamed B.named
  have hlocks := B.notSynchronized
  have hl := lv_entry ([.ref m0, .int p1, .int fr, .int to]) (n := 4) (Nat.le_of_ble_eq_true rfl)
  rw [lg_entry_eq]
  generalize (lg_sl ([.ref m0, .int p1, .int fr, .int to]) ++ List.replicate (4 - (lg_sl ([.ref m0, .int p1, .int fr, .int to])).length) Slot.unset).toArray = ls at hl ⊢
  have hl : lv_has ls 4 [(0, .ref m0), (1, .int p1), (2, .int fr), (3, .int to)] := hl
  have hM4 := hM.2.1
  have bl0 := btl (inr_ 8 p1)
  refine lv_iload_n hx hb dM_bucket_0 rfl (lv_at hl 1 rfl) ?_
  refine zz_ci (v := nI ((inr_ 8 p1).toNat)) (W.runS (As := [.int p1]) (rest := []) ⟨hx, hb, hml, hown, ht⟩ (c_M_isPredicate l p1) (va_cwS 1 ht (gd_S wd428 wd429 wd6 wd430) rfl rfl rfl (by decide +kernel) ⟨Nat.le_of_ble_eq_true rfl, Nat.le_of_ble_eq_true rfl⟩) zz_N_S rfl rfl hl.1 rfl (lv_room (Nat.le_of_ble_eq_true rfl)) dM_bucket_1 ⟨Nat.le_of_ble_eq_true rfl, Nat.le_of_ble_eq_true rfl⟩) ?_
  refine lv_if_eq (tgt := 17) hx hb dM_bucket_4 (by decide) (fun c4 => ?_) (fun c4 => ?_)
  · -- taken
    have c4 : (inr_ 8 p1).toNat = 0 := (nI_eq (a := (inr_ 8 p1).toNat) (b := 0) (by omega) (by omega)).mp c4
    have hb1 : inr_ 8 p1 = false := bt0 c4
    refine lv_iconst (v := (-1)) hx hb dM_bucket_17 (by decide) ?_
    exact zz_iretR (v := (-1)) hx hb hr hlocks (Or.inl ⟨hb1, rfl⟩) dM_bucket_18
  · -- not taken
    have c4 : ¬ ((inr_ 8 p1).toNat = 0) := fun h => c4 ((nI_eq (a := (inr_ 8 p1).toNat) (b := 0) (by omega) (by omega)).mpr h)
    have hb1 := bt1 c4
    obtain ⟨pp, hpp, epp⟩ := inr_t (by decide) hb1
    rw [epp] at hl
    refine lv_aload_n hx hb dM_bucket_7 rfl (lv_at hl 0 rfl) ?_
    refine lv_iload_n hx hb dM_bucket_8 rfl (lv_at hl 1 rfl) ?_
    refine lv_iload_n hx hb dM_bucket_9 rfl (lv_at hl 2 rfl) ?_
    refine lv_iload_n hx hb dM_bucket_10 rfl (lv_at hl 3 rfl) ?_
    refine zz_ci (v := nI (T.countP (fun C => isp pp C && btw fr to (C % 256)))) (W.runV (As := [.int (nI pp), .int fr, .int to]) (rest := []) ⟨hx, hb, hml, hown, ht⟩ (c_M_between l D cI cB m0 m1 m2 m3 m4 m5 m6 n k e su pd ob T hM pp hpp fr to) (cwV 3 ht (gd_V wd477 wd479 wp21 wd6 wd480) rfl rfl rfl (by decide +kernel) ⟨Nat.le_of_ble_eq_true rfl, Nat.le_of_ble_eq_true rfl⟩) (zz_R_V hN hK (hP.sub (ws' := [(m0, .inr (5, [.int (nI T.length), .ref m1, .ref m2, .ref m3, .int (nI n), .ref m4, .int (nI e), .int (nI k), .ref m5, .ref m6])), (m1, .inl (cI, 400, .inl su)), (m2, .inl (cI, 400, .inl pd)), (m3, .inl (cI, 400, .inl ob))]) [0, 1, 2, 3] rfl) 5 0 rfl rfl) rfl rfl hl.1 rfl (lv_room (Nat.le_of_ble_eq_true rfl)) dM_bucket_11 ⟨Nat.le_of_ble_eq_true rfl, Nat.le_of_ble_eq_true rfl⟩) ?_
    refine lv_goto (tgt := 18) hx hb dM_bucket_14 (by decide) ?_
    exact zz_iretR (v := nI (T.countP (fun C => isp pp C && btw fr to (C % 256)))) hx hb hr hlocks (Or.inr ⟨pp, hpp, epp, rfl⟩) dM_bucket_18

abbrev rm_M_quantile : Room := { frames := 1, cells := 0, slots := 0, locals := 25 }
set_option maxHeartbeats 4000000 in
set_option maxRecDepth 100000 in
theorem c_M_quantile (l : Launch) (D : va_G) (cI cB : ClassId) (m0 m1 m2 m3 m4 m5 m6 n k e : Nat) (su pd ob : Nat → Int32) (T : List Nat) (hM : RM T su pd ob) (p1 k1 : Int32) : Met l yM_quantile wM_quantile rm_M_quantile (zz_R D vwCl [(cI, .int), (cB, .boolean)] [.ref m0, .int p1, .int k1] [(m0, .inr (5, [.int (nI T.length), .ref m1, .ref m2, .ref m3, .int (nI n), .ref m4, .int (nI e), .int (nI k), .ref m5, .ref m6])), (m1, .inl (cI, 400, .inl su)), (m2, .inl (cI, 400, .inl pd)), (m3, .inl (cI, 400, .inl ob))]) (vp_Si (fun r : Int32 => (¬ (inr_ 8 p1 = true ∧ ¬ k1 < nI 1 ∧ ¬ nI 8 < k1) ∧ r = -1) ∨ ∃ pp kk, pp < 8 ∧ 1 ≤ kk ∧ kk ≤ 8 ∧ p1 = nI pp ∧ k1 = nI kk ∧ ((T.countP (isp pp) = 0 ∧ r = -2) ∨ (0 < T.countP (isp pp) ∧ ∃ o, o < 256 ∧ r = nI o ∧ (∀ j, j < o → 8 * cbt T pp j < kk * T.countP (isp pp)) ∧ kk * T.countP (isp pp) ≤ 8 * cbt T pp o)))) 0 0 (fun _ => False) := by
  refine Met.ofW (cc := cM_quantile) (maxL := 5) (ret := (some .int)) (by decide) rfl ?_
  intro pg ev s mt args below meth kd s₁ B hml hv
  obtain ⟨rfl, hP, hK, hN⟩ := hv
  have hx := B.exec
  have hb := B.bytes
  have hr := B.returns
  have ht : ∀ w ∈ W0, w.before _ s = true := fun w h => atoms_spec (ws := wM_quantile) B.pre w (List.mem_cons_of_mem _ h)
  have hown : s.vm.findClass "StatRowsModel" = some mt.cls := findClass_of_methodNamed B.named
  have hlocks := B.notSynchronized
  have hl := lv_entry ([.ref m0, .int p1, .int k1]) (n := 5) (Nat.le_of_ble_eq_true rfl)
  rw [lg_entry_eq]
  generalize (lg_sl ([.ref m0, .int p1, .int k1]) ++ List.replicate (5 - (lg_sl ([.ref m0, .int p1, .int k1])).length) Slot.unset).toArray = ls at hl ⊢
  have hl : lv_has ls 5 [(0, .ref m0), (1, .int p1), (2, .int k1)] := hl
  have hM4 := hM.2.1
  have bl0 := btl (inr_ 8 p1)
  refine lv_iload_n hx hb dM_quantile_0 rfl (lv_at hl 1 rfl) ?_
  refine zz_ci (v := nI ((inr_ 8 p1).toNat)) (W.runS (As := [.int p1]) (rest := []) ⟨hx, hb, hml, hown, ht⟩ (c_M_isPredicate l p1) (va_cwS 1 ht (gd_S wd428 wd429 wd6 wd430) rfl rfl rfl (by decide +kernel) ⟨Nat.le_of_ble_eq_true rfl, Nat.le_of_ble_eq_true rfl⟩) zz_N_S rfl rfl hl.1 rfl (lv_room (Nat.le_of_ble_eq_true rfl)) dM_quantile_1 ⟨Nat.le_of_ble_eq_true rfl, Nat.le_of_ble_eq_true rfl⟩) ?_
  refine lv_if_eq (tgt := 18) hx hb dM_quantile_4 (by decide) (fun c4 => ?_) (fun c4 => ?_)
  · -- taken
    have c4 : (inr_ 8 p1).toNat = 0 := (nI_eq (a := (inr_ 8 p1).toNat) (b := 0) (by omega) (by omega)).mp c4
    have hbb : ¬ (inr_ 8 p1 = true ∧ ¬ k1 < nI 1 ∧ ¬ nI 8 < k1) := fun q => by rw [bt0 c4] at q; cases q.1
    refine lv_iconst (v := (-1)) hx hb dM_quantile_18 (by decide) ?_
    exact zz_iretR (v := (-1)) hx hb hr hlocks (Or.inl ⟨hbb, rfl⟩) dM_quantile_19
  · -- not taken
    have c4 : ¬ ((inr_ 8 p1).toNat = 0) := fun h => c4 ((nI_eq (a := (inr_ 8 p1).toNat) (b := 0) (by omega) (by omega)).mpr h)
    have hb1 := bt1 c4
    refine lv_iload_n hx hb dM_quantile_7 rfl (lv_at hl 2 rfl) ?_
    refine lv_iconst (v := nI 1) hx hb dM_quantile_8 (by decide) ?_
    refine lv_icmp_lt (tgt := 18) hx hb dM_quantile_9 (by decide) (fun c9 => ?_) (fun c9 => ?_)
    · -- taken
      have hbb : ¬ (inr_ 8 p1 = true ∧ ¬ k1 < nI 1 ∧ ¬ nI 8 < k1) := fun q => q.2.1 c9
      refine lv_iconst (v := (-1)) hx hb dM_quantile_18 (by decide) ?_
      exact zz_iretR (v := (-1)) hx hb hr hlocks (Or.inl ⟨hbb, rfl⟩) dM_quantile_19
    · -- not taken
      refine lv_iload_n hx hb dM_quantile_12 rfl (lv_at hl 2 rfl) ?_
      refine lv_bipush (v := nI 8) hx hb dM_quantile_13 (by decide) ?_
      refine lv_icmp_le (tgt := 20) hx hb dM_quantile_15 (by decide) (fun c15 => ?_) (fun c15 => ?_)
      · -- taken
        obtain ⟨pp, hpp, epp⟩ := inr_t (by decide) hb1
        rw [epp] at hl
        obtain ⟨kk, hk1, hk8, ekk⟩ := kin c9 (i_le.mp c15)
        rw [ekk] at hl
        have hcl : T.countP (isp pp) ≤ T.length := List.countP_le_length
        have hdue : kk * T.countP (isp pp) ≤ 8 * 400 := Nat.mul_le_mul (by omega) (by omega)
        refine lv_aload_n hx hb dM_quantile_20 rfl (lv_at hl 0 rfl) ?_
        refine lv_iload_n hx hb dM_quantile_21 rfl (lv_at hl 1 rfl) ?_
        refine zz_ci (v := nI (T.countP (isp pp))) (W.runV (As := [.int (nI pp)]) (rest := []) ⟨hx, hb, hml, hown, ht⟩ (c_M_countOf l D cI cB m0 m1 m2 m3 m4 m5 m6 n k e su pd ob T hM pp hpp) (cwV 1 ht (gd_V wd443 wd445 wp17 wd6 wd446) rfl rfl rfl (by decide +kernel) ⟨Nat.le_of_ble_eq_true rfl, Nat.le_of_ble_eq_true rfl⟩) (zz_R_V hN hK (hP.sub (ws' := [(m0, .inr (5, [.int (nI T.length), .ref m1, .ref m2, .ref m3, .int (nI n), .ref m4, .int (nI e), .int (nI k), .ref m5, .ref m6])), (m1, .inl (cI, 400, .inl su)), (m2, .inl (cI, 400, .inl pd)), (m3, .inl (cI, 400, .inl ob))]) [0, 1, 2, 3] rfl) 5 0 rfl rfl) rfl rfl hl.1 rfl (lv_room (Nat.le_of_ble_eq_true rfl)) dM_quantile_22 ⟨Nat.le_of_ble_eq_true rfl, Nat.le_of_ble_eq_true rfl⟩) ?_
        refine lv_istore_n (lv' := [(3, .int (nI (T.countP (isp pp)))), (0, .ref m0), (1, .int (nI pp)), (2, .int (nI kk))]) hx hb dM_quantile_25 rfl hl (by decide) rfl (fun ls hl => ?_)
        refine lv_iload_n hx hb dM_quantile_26 rfl (lv_at hl 0 rfl) ?_
        refine lv_if_ne (tgt := 33) hx hb dM_quantile_27 (by decide) (fun c27 => ?_) (fun c27 => ?_)
        · -- taken
          have c27 : ¬ (T.countP (isp pp) = 0) := fun h => c27 ((nI_eq (a := T.countP (isp pp)) (b := 0) (by omega) (by omega)).mpr h)
          refine lv_iconst (v := nI 0) hx hb dM_quantile_33 (by decide) ?_
          refine lv_istore (lv' := [(4, .int (nI 0)), (3, .int (nI (T.countP (isp pp)))), (0, .ref m0), (1, .int (nI pp)), (2, .int (nI kk))]) hx hb dM_quantile_34 hl (by decide) rfl (fun ls hl => ?_)
          have lp36 : ∀ (fu : Nat) (o : Nat) (ho : o < 256) (hlt : ∀ j, j < o → 8 * cbt T pp j < kk * T.countP (isp pp)) (hm : 256 - o < fu) (ls : Array Slot) (hl : lv_has ls 5 [(0, .ref m0), (1, .int (nI pp)), (2, .int (nI kk)), (3, .int (nI (T.countP (isp pp)))), (4, .int (nI o))]), W pg l ev (headSpec wM_quantile rm_M_quantile).room s mt (([.ref m0, .int p1, .int k1] : List Value).toArray) below meth kd s.heap [] 0 0 (MQ below (vp_Si (fun r : Int32 => (¬ (inr_ 8 p1 = true ∧ ¬ k1 < nI 1 ∧ ¬ nI 8 < k1) ∧ r = -1) ∨ ∃ pp kk, pp < 8 ∧ 1 ≤ kk ∧ kk ≤ 8 ∧ p1 = nI pp ∧ k1 = nI kk ∧ ((T.countP (isp pp) = 0 ∧ r = -2) ∨ (0 < T.countP (isp pp) ∧ ∃ o, o < 256 ∧ r = nI o ∧ (∀ j, j < o → 8 * cbt T pp j < kk * T.countP (isp pp)) ∧ kk * T.countP (isp pp) ≤ 8 * cbt T pp o)))) (([.ref m0, .int p1, .int k1] : List Value).toArray) s 0 0 (fun _ => False)) (F0 mt 36 ls []) := by
            intro fu
            induction fu with
            | zero => intro o ho hlt hm; exact absurd hm (Nat.not_lt_zero _)
            | succ fu ih36 =>
              intro o ho hlt hm ls hl
              refine lv_bipush (v := nI 8) hx hb dM_quantile_36 (by decide) ?_
              refine lv_aload_n hx hb dM_quantile_38 rfl (lv_at hl 0 rfl) ?_
              refine lv_iload_n hx hb dM_quantile_39 rfl (lv_at hl 1 rfl) ?_
              refine lv_iconst (v := nI 0) hx hb dM_quantile_40 (by decide) ?_
              refine lv_iload hx hb dM_quantile_41 (lv_at hl 4 rfl) ?_
              refine zz_ci (v := nI (cbt T pp o)) (W.runV (As := [.int (nI pp), .int (nI 0), .int (nI o)]) (rest := [.int (nI 8)]) ⟨hx, hb, hml, hown, ht⟩ (c_M_between l D cI cB m0 m1 m2 m3 m4 m5 m6 n k e su pd ob T hM pp hpp (nI 0) (nI o)) (cwV 3 ht (gd_V wd477 wd479 wp21 wd6 wd480) rfl rfl rfl (by decide +kernel) ⟨Nat.le_of_ble_eq_true rfl, Nat.le_of_ble_eq_true rfl⟩) (zz_R_V hN hK (hP.sub (ws' := [(m0, .inr (5, [.int (nI T.length), .ref m1, .ref m2, .ref m3, .int (nI n), .ref m4, .int (nI e), .int (nI k), .ref m5, .ref m6])), (m1, .inl (cI, 400, .inl su)), (m2, .inl (cI, 400, .inl pd)), (m3, .inl (cI, 400, .inl ob))]) [0, 1, 2, 3] rfl) 5 0 rfl rfl) rfl rfl hl.1 rfl (lv_room (Nat.le_of_ble_eq_true rfl)) dM_quantile_43 ⟨Nat.le_of_ble_eq_true rfl, Nat.le_of_ble_eq_true rfl⟩) ?_
              have hcb := cbt_le T pp o
              refine lv_imul hx hb dM_quantile_46 ?_
              refine zz_top (y := nI (8 * (cbt T pp o))) (pk_mul 8 (cbt T pp o)) ?_
              refine lv_iload_n hx hb dM_quantile_47 rfl (lv_at hl 2 rfl) ?_
              refine lv_iload_n hx hb dM_quantile_48 rfl (lv_at hl 3 rfl) ?_
              refine lv_imul hx hb dM_quantile_49 ?_
              refine zz_top (y := nI (kk * (T.countP (isp pp)))) (pk_mul kk (T.countP (isp pp))) ?_
              refine lv_icmp_ge (tgt := 59) hx hb dM_quantile_50 (by decide) (fun c50 => ?_) (fun c50 => ?_)
              · -- taken
                have c50 : kk * (T.countP (isp pp)) ≤ 8 * (cbt T pp o) := (nI_leI (a := kk * (T.countP (isp pp))) (b := 8 * (cbt T pp o)) (by omega) (by omega)).mp c50
                refine lv_iload hx hb dM_quantile_59 (lv_at hl 4 rfl) ?_
                exact zz_iretR (v := nI o) hx hb hr hlocks (Or.inr ⟨pp, kk, hpp, hk1, hk8, epp, ekk, Or.inr ⟨by omega, o, ho, rfl, hlt, by omega⟩⟩) dM_quantile_61
              · -- not taken
                have c50 : ¬ (kk * (T.countP (isp pp)) ≤ 8 * (cbt T pp o)) := fun h => c50 ((nI_leI (a := kk * (T.countP (isp pp))) (b := 8 * (cbt T pp o)) (by omega) (by omega)).mpr h)
                refine lv_iinc (v := nI (o + 1)) (lv' := [(4, .int (nI (o + 1))), (0, .ref m0), (1, .int (nI pp)), (2, .int (nI kk)), (3, .int (nI (T.countP (isp pp))))]) hx hb dM_quantile_53 hl (k := 4) rfl (nI_1 o) (by decide) rfl (fun ls hl => ?_)
                refine lv_goto (tgt := 36) hx hb dM_quantile_56 (by decide) ?_
                exact ih36 (o + 1) (by
                  rcases Nat.lt_or_ge (o + 1) 256 with q | q
                  · exact q
                  · exfalso
                    have e5 : o = 255 := by omega
                    rw [e5, cbt_top] at c50
                    have h2 : kk * T.countP (isp pp) ≤ 8 * T.countP (isp pp) := Nat.mul_le_mul_right _ hk8
                    omega) (fun j h => by
                  by_cases q : j = o
                  · rw [q]; omega
                  · exact hlt j (by omega)) (by omega) ls (lv_sub hl [1, 2, 3, 4, 0] rfl)
          exact lp36 ((256 - 0) + 1) 0 (by decide) (fun j h => absurd h (Nat.not_lt_zero _)) (Nat.lt_succ_self _) ls (lv_sub hl [2, 3, 4, 1, 0] rfl)
        · -- not taken
          have c27 : T.countP (isp pp) = 0 := (nI_eq (a := T.countP (isp pp)) (b := 0) (by omega) (by omega)).mp c27
          refine lv_bipush (v := (-2)) hx hb dM_quantile_30 (by decide) ?_
          exact zz_iretR (v := (-2)) hx hb hr hlocks (Or.inr ⟨pp, kk, hpp, hk1, hk8, epp, ekk, Or.inl ⟨by omega, rfl⟩⟩) dM_quantile_32
      · -- not taken
        have hbb : ¬ (inr_ 8 p1 = true ∧ ¬ k1 < nI 1 ∧ ¬ nI 8 < k1) := fun q => c15 (i_le.mpr q.2.2)
        refine lv_iconst (v := (-1)) hx hb dM_quantile_18 (by decide) ?_
        exact zz_iretR (v := (-1)) hx hb hr hlocks (Or.inl ⟨hbb, rfl⟩) dM_quantile_19

abbrev rm_M_register : Room := { frames := 2, cells := 0, slots := 0, locals := 47 }
set_option maxHeartbeats 4000000 in
set_option maxRecDepth 100000 in
theorem c_M_register (l : Launch) (D : va_G) (cI cB : ClassId) (m0 m1 m2 m3 m4 m5 m6 n k e : Nat) (su pd ob : Nat → Int32) (T : List Nat) (hM : RM T su pd ob) (b1 i1 : Int32) : Met l yM_register wM_register rm_M_register (zz_R D vwCl [(cI, .int), (cB, .boolean)] [.ref m0, .int b1, .int i1] [(m0, .inr (5, [.int (nI T.length), .ref m1, .ref m2, .ref m3, .int (nI n), .ref m4, .int (nI e), .int (nI k), .ref m5, .ref m6])), (m1, .inl (cI, 400, .inl su)), (m2, .inl (cI, 400, .inl pd)), (m3, .inl (cI, 400, .inl ob))]) (vp_Si (fun r : Int32 => (¬ (inr_ 256 b1 = true ∧ ¬ i1 < 0 ∧ i1 < nI 16) ∧ r = -1) ∨ ∃ bb ii, bb < 256 ∧ ii < 16 ∧ b1 = nI bb ∧ i1 = nI ii ∧ r = nI (mxf (rgf bb ii) T))) 0 0 (fun _ => False) := by
  refine Met.ofW (cc := cM_register) (maxL := 3) (ret := (some .int)) (by decide) rfl ?_
  intro pg ev s mt args below meth kd s₁ B hml hv
  obtain ⟨rfl, hP, hK, hN⟩ := hv
  have hx := B.exec
  have hb := B.bytes
  have hr := B.returns
  have ht : ∀ w ∈ W0, w.before _ s = true := fun w h => atoms_spec (ws := wM_register) B.pre w (List.mem_cons_of_mem _ h)
  have hown : s.vm.findClass "StatRowsModel" = some mt.cls := findClass_of_methodNamed B.named
  have hlocks := B.notSynchronized
  have hl := lv_entry ([.ref m0, .int b1, .int i1]) (n := 3) (Nat.le_of_ble_eq_true rfl)
  rw [lg_entry_eq]
  generalize (lg_sl ([.ref m0, .int b1, .int i1]) ++ List.replicate (3 - (lg_sl ([.ref m0, .int b1, .int i1])).length) Slot.unset).toArray = ls at hl ⊢
  have hl : lv_has ls 3 [(0, .ref m0), (1, .int b1), (2, .int i1)] := hl
  have hM4 := hM.2.1
  have bl0 := btl (inr_ 256 b1)
  refine lv_iload_n hx hb dM_register_0 rfl (lv_at hl 1 rfl) ?_
  refine zz_ci (v := nI ((inr_ 256 b1).toNat)) (W.runS (As := [.int b1]) (rest := []) ⟨hx, hb, hml, hown, ht⟩ (c_M_areBits l b1) (va_cwS 1 ht (gd_S wd489 wd490 wd6 wd491) rfl rfl rfl (by decide +kernel) ⟨Nat.le_of_ble_eq_true rfl, Nat.le_of_ble_eq_true rfl⟩) zz_N_S rfl rfl hl.1 rfl (lv_room (Nat.le_of_ble_eq_true rfl)) dM_register_1 ⟨Nat.le_of_ble_eq_true rfl, Nat.le_of_ble_eq_true rfl⟩) ?_
  refine lv_if_eq (tgt := 17) hx hb dM_register_4 (by decide) (fun c4 => ?_) (fun c4 => ?_)
  · -- taken
    have c4 : (inr_ 256 b1).toNat = 0 := (nI_eq (a := (inr_ 256 b1).toNat) (b := 0) (by omega) (by omega)).mp c4
    have hnn : ¬ (inr_ 256 b1 = true ∧ ¬ i1 < 0 ∧ i1 < nI 16) := fun q => by rw [bt0 c4] at q; cases q.1
    refine lv_iconst (v := (-1)) hx hb dM_register_17 (by decide) ?_
    refine lv_goto (tgt := 27) hx hb dM_register_18 (by decide) ?_
    exact zz_iretR (v := (-1)) hx hb hr hlocks (Or.inl ⟨hnn, rfl⟩) dM_register_27
  · -- not taken
    have c4 : ¬ ((inr_ 256 b1).toNat = 0) := fun h => c4 ((nI_eq (a := (inr_ 256 b1).toNat) (b := 0) (by omega) (by omega)).mpr h)
    have hb1 := bt1 c4
    refine lv_iload_n hx hb dM_register_7 rfl (lv_at hl 2 rfl) ?_
    refine lv_if_lt (tgt := 17) hx hb dM_register_8 (by decide) (fun c8 => ?_) (fun c8 => ?_)
    · -- taken
      have hnn : ¬ (inr_ 256 b1 = true ∧ ¬ i1 < 0 ∧ i1 < nI 16) := fun q => q.2.1 c8
      refine lv_iconst (v := (-1)) hx hb dM_register_17 (by decide) ?_
      refine lv_goto (tgt := 27) hx hb dM_register_18 (by decide) ?_
      exact zz_iretR (v := (-1)) hx hb hr hlocks (Or.inl ⟨hnn, rfl⟩) dM_register_27
    · -- not taken
      refine lv_iload_n hx hb dM_register_11 rfl (lv_at hl 2 rfl) ?_
      refine lv_bipush (v := nI 15) hx hb dM_register_12 (by decide) ?_
      refine lv_icmp_le (tgt := 21) hx hb dM_register_14 (by decide) (fun c14 => ?_) (fun c14 => ?_)
      · -- taken
        obtain ⟨bb, hbb, ebb⟩ := inr_t (by decide) hb1
        rw [ebb] at hl
        obtain ⟨ii, hii, eii⟩ := zz_in (n := 16) (by decide) c8 (lt_of_le15 c14)
        rw [eii] at hl
        refine lv_aload_n hx hb dM_register_21 rfl (lv_at hl 0 rfl) ?_
        refine lv_iload_n hx hb dM_register_22 rfl (lv_at hl 1 rfl) ?_
        refine lv_iload_n hx hb dM_register_23 rfl (lv_at hl 2 rfl) ?_
        refine zz_ci (v := nI (mxf (rgf bb ii) T)) (W.runV (As := [.int (nI bb), .int (nI ii)]) (rest := []) ⟨hx, hb, hml, hown, ht⟩ (c_M_registerOf l D cI cB m0 m1 m2 m3 m4 m5 m6 n k e su pd ob T hM bb ii hbb hii) (cwV 2 ht (gd_V wd492 wd494 wp22 wd6 wd495) rfl rfl rfl (by decide +kernel) ⟨Nat.le_of_ble_eq_true rfl, Nat.le_of_ble_eq_true rfl⟩) (zz_R_V hN hK (hP.sub (ws' := [(m0, .inr (5, [.int (nI T.length), .ref m1, .ref m2, .ref m3, .int (nI n), .ref m4, .int (nI e), .int (nI k), .ref m5, .ref m6])), (m1, .inl (cI, 400, .inl su)), (m2, .inl (cI, 400, .inl pd)), (m3, .inl (cI, 400, .inl ob))]) [0, 1, 2, 3] rfl) 5 0 rfl rfl) rfl rfl hl.1 rfl (lv_room (Nat.le_of_ble_eq_true rfl)) dM_register_24 ⟨Nat.le_of_ble_eq_true rfl, Nat.le_of_ble_eq_true rfl⟩) ?_
        exact zz_iretR (v := nI (mxf (rgf bb ii) T)) hx hb hr hlocks (Or.inr ⟨bb, ii, hbb, hii, ebb, eii, rfl⟩) dM_register_27
      · -- not taken
        have hnn : ¬ (inr_ 256 b1 = true ∧ ¬ i1 < 0 ∧ i1 < nI 16) := fun q => c14 (le15.mpr q.2.2)
        refine lv_iconst (v := (-1)) hx hb dM_register_17 (by decide) ?_
        refine lv_goto (tgt := 27) hx hb dM_register_18 (by decide) ?_
        exact zz_iretR (v := (-1)) hx hb hr hlocks (Or.inl ⟨hnn, rfl⟩) dM_register_27

abbrev rm_M_distinct : Room := { frames := 2, cells := 0, slots := 0, locals := 47 }
set_option maxHeartbeats 4000000 in
set_option maxRecDepth 100000 in
theorem c_M_distinct (l : Launch) (D : va_G) (cI cB : ClassId) (sz : Nat) (m0 m1 m2 m3 m4 m5 m6 n k e : Nat) (su pd ob : Nat → Int32) (T : List Nat) (hM : RM T su pd ob) (se : Nat → Int32) (b1 d1 : Int32) : Met l yM_distinct wM_distinct rm_M_distinct (zz_P D vwCl [(cI, .int), (cB, .boolean)] [.ref m0, .int b1, .int d1] [(m0, .inr (5, [.int (nI T.length), .ref m1, .ref m2, .ref m3, .int (nI n), .ref m4, .int (nI e), .int (nI k), .ref m5, .ref m6])), (m1, .inl (cI, 400, .inl su)), (m2, .inl (cI, 400, .inl pd)), (m3, .inl (cI, 400, .inl ob)), (m6, .inl (cB, 256, .inl se))] sz) (va_Ql (fun (r : Int64) (u : (Nat → Int32)) => (¬ (inr_ 256 b1 = true ∧ ¬ d1 < 0) ∧ r = -1) ∨ ∃ bb dd, bb < 256 ∧ dd < 2 ^ 31 ∧ b1 = nI bb ∧ d1 = nI dd ∧ r = lN (if cnt (MA T bb true) 256 ≤ dd then cnt (MA T bb true) 256 else abt (fun i => mxf (rgf bb i) T))) (fun u : (Nat → Int32) => zz_B D vwCl [(cI, .int), (cB, .boolean)] (va_A [(m0, .inr (5, [.int (nI T.length), .ref m1, .ref m2, .ref m3, .int (nI n), .ref m4, .int (nI e), .int (nI k), .ref m5, .ref m6])), (m1, .inl (cI, 400, .inl su)), (m2, .inl (cI, 400, .inl pd)), (m3, .inl (cI, 400, .inl ob)), (m6, .inl (cB, 256, .inl se))] sz) [(m0, .inr (5, [.int (nI T.length), .ref m1, .ref m2, .ref m3, .int (nI n), .ref m4, .int (nI e), .int (nI k), .ref m5, .ref m6])), (m1, .inl (cI, 400, .inl su)), (m2, .inl (cI, 400, .inl pd)), (m3, .inl (cI, 400, .inl ob)), (m6, .inl (cB, 256, .inl u))]) (va_A [(m0, .inr (5, [.int (nI T.length), .ref m1, .ref m2, .ref m3, .int (nI n), .ref m4, .int (nI e), .int (nI k), .ref m5, .ref m6])), (m1, .inl (cI, 400, .inl su)), (m2, .inl (cI, 400, .inl pd)), (m3, .inl (cI, 400, .inl ob)), (m6, .inl (cB, 256, .inl se))] sz)) 0 0 (va_A [(m0, .inr (5, [.int (nI T.length), .ref m1, .ref m2, .ref m3, .int (nI n), .ref m4, .int (nI e), .int (nI k), .ref m5, .ref m6])), (m1, .inl (cI, 400, .inl su)), (m2, .inl (cI, 400, .inl pd)), (m3, .inl (cI, 400, .inl ob)), (m6, .inl (cB, 256, .inl se))] sz) := by
  refine Met.ofW (cc := cM_distinct) (maxL := 9) (ret := (some .long)) (by decide) rfl ?_
  intro pg ev s mt args below meth kd s₁ B hml hv
  obtain ⟨rfl, hsz, hP, hK, hD0, hN⟩ := hv
  have hx := B.exec
  have hb := B.bytes
  have hr := B.returns
  have ht : ∀ w ∈ W0, w.before _ s = true := fun w h => atoms_spec (ws := wM_distinct) B.pre w (List.mem_cons_of_mem _ h)
  have hown : s.vm.findClass "StatRowsModel" = some mt.cls := findClass_of_methodNamed B.named
  have hlocks := B.notSynchronized
  subst hsz
  have hD := hD0.self (sz := s.heap.size)
  generalize hAe : va_A [(m0, .inr (5, [.int (nI T.length), .ref m1, .ref m2, .ref m3, .int (nI n), .ref m4, .int (nI e), .int (nI k), .ref m5, .ref m6])), (m1, .inl (cI, 400, .inl su)), (m2, .inl (cI, 400, .inl pd)), (m3, .inl (cI, 400, .inl ob)), (m6, .inl (cB, 256, .inl se))] s.heap.size = A at hD ⊢
  have hA : ∀ q : Nat, s.heap.size ≤ q → A q := fun q h => by rw [← hAe]; exact Or.inr h
  have hS : va_S A s.heap s.heap [] := va_S.rf
  have hP : va_P D vwCl [(m0, .inr (5, [.int (nI T.length), .ref m1, .ref m2, .ref m3, .int (nI n), .ref m4, .int (nI e), .int (nI k), .ref m5, .ref m6])), (m1, .inl (cI, 400, .inl su)), (m2, .inl (cI, 400, .inl pd)), (m3, .inl (cI, 400, .inl ob)), (m6, .inl (cB, 256, .inl se))] s.heap := hP
  have hl := lv_entry ([.ref m0, .int b1, .int d1]) (n := 9) (Nat.le_of_ble_eq_true rfl)
  rw [lg_entry_eq]
  generalize (lg_sl ([.ref m0, .int b1, .int d1]) ++ List.replicate (9 - (lg_sl ([.ref m0, .int b1, .int d1])).length) Slot.unset).toArray = ls at hl ⊢
  have hl : lv_has ls 9 [(0, .ref m0), (1, .int b1), (2, .int d1)] := hl
  have hM4 := hM.2.1
  have bl0 := btl (inr_ 256 b1)
  refine lv_iload_n hx hb dM_distinct_0 rfl (lv_at hl 1 rfl) ?_
  refine zz_ci (v := nI ((inr_ 256 b1).toNat)) (W.runS (As := [.int b1]) (rest := []) ⟨hx, hb, hml, hown, ht⟩ (c_M_areBits l b1) (va_cwS 1 ht (gd_S wd489 wd490 wd6 wd491) rfl rfl rfl (by decide +kernel) ⟨Nat.le_of_ble_eq_true rfl, Nat.le_of_ble_eq_true rfl⟩) zz_N_S rfl rfl hl.1 rfl (lv_room (Nat.le_of_ble_eq_true rfl)) dM_distinct_1 ⟨Nat.le_of_ble_eq_true rfl, Nat.le_of_ble_eq_true rfl⟩) ?_
  refine lv_if_eq (tgt := 11) hx hb dM_distinct_4 (by decide) (fun c4 => ?_) (fun c4 => ?_)
  · -- taken
    have c4 : (inr_ 256 b1).toNat = 0 := (nI_eq (a := (inr_ 256 b1).toNat) (b := 0) (by omega) (by omega)).mp c4
    have hnn : ¬ (inr_ 256 b1 = true ∧ ¬ d1 < 0) := fun q => by rw [bt0 c4] at q; cases q.1
    refine lv_ldc2 (v := (-1)) hx hb hown (ht _ wd468) dM_distinct_11 ?_
    exact zz_lretW (v := (-1)) (w1 := fun u : (Nat → Int32) => [(m0, .inr (5, [.int (nI T.length), .ref m1, .ref m2, .ref m3, .int (nI n), .ref m4, .int (nI e), .int (nI k), .ref m5, .ref m6])), (m1, .inl (cI, 400, .inl su)), (m2, .inl (cI, 400, .inl pd)), (m3, .inl (cI, 400, .inl ob)), (m6, .inl (cB, 256, .inl u))]) se hx hb hr hlocks (Or.inl ⟨hnn, rfl⟩) hP hK hD hS dM_distinct_14
  · -- not taken
    have c4 : ¬ ((inr_ 256 b1).toNat = 0) := fun h => c4 ((nI_eq (a := (inr_ 256 b1).toNat) (b := 0) (by omega) (by omega)).mpr h)
    have hb1 := bt1 c4
    refine lv_iload_n hx hb dM_distinct_7 rfl (lv_at hl 2 rfl) ?_
    refine lv_if_ge (tgt := 15) hx hb dM_distinct_8 (by decide) (fun c8 => ?_) (fun c8 => ?_)
    · -- taken
      obtain ⟨bb, hbb, ebb⟩ := inr_t (by decide) hb1
      rw [ebb] at hl
      obtain ⟨dd, hdd, edd⟩ := nI_of (i_le.mp c8)
      rw [edd] at hl
      have hcl := cnt_le (MA T bb true) 256
      have hf44 := few_lt (zer (fun i => mxf (rgf bb i) T) 16)
      have hs16 := smr_le (fun i => mxf (rgf bb i) T) 16
      refine lv_aload_n hx hb dM_distinct_15 rfl (lv_at hl 0 rfl) ?_
      refine lv_iload_n hx hb dM_distinct_16 rfl (lv_at hl 1 rfl) ?_
      refine lv_iconst (v := nI 1) hx hb dM_distinct_17 (by decide) ?_
      refine zz_wi (wc := [(m0, .inr (5, [.int (nI T.length), .ref m1, .ref m2, .ref m3, .int (nI n), .ref m4, .int (nI e), .int (nI k), .ref m5, .ref m6])), (m1, .inl (cI, 400, .inl su)), (m2, .inl (cI, 400, .inl pd)), (m3, .inl (cI, 400, .inl ob)), (m6, .inl (cB, 256, .inl se))]) (wr := []) (va_runV (As := [.int (nI bb), .int (nI true.toNat)]) (rest := []) ⟨hx, hb, hml, hown, ht⟩ (c_M_different l D cI cB s.heap.size m0 m1 m2 m3 m4 m5 m6 n k e su pd ob T hM se (bb) (hbb) true) (cwV 2 ht (gd_V wd447 wd449 wp18 wd6 wd450) rfl rfl rfl (by decide +kernel) ⟨Nat.le_of_ble_eq_true rfl, Nat.le_of_ble_eq_true rfl⟩) (zz_P_V hN hK (hP.sub (ws' := [(m0, .inr (5, [.int (nI T.length), .ref m1, .ref m2, .ref m3, .int (nI n), .ref m4, .int (nI e), .int (nI k), .ref m5, .ref m6])), (m1, .inl (cI, 400, .inl su)), (m2, .inl (cI, 400, .inl pd)), (m3, .inl (cI, 400, .inl ob)), (m6, .inl (cB, 256, .inl se))]) [0, 1, 2, 3, 4] rfl) (hD.sub (ws' := [(m0, .inr (5, [.int (nI T.length), .ref m1, .ref m2, .ref m3, .int (nI n), .ref m4, .int (nI e), .int (nI k), .ref m5, .ref m6])), (m1, .inl (cI, 400, .inl su)), (m2, .inl (cI, 400, .inl pd)), (m3, .inl (cI, 400, .inl ob)), (m6, .inl (cB, 256, .inl se))]) [0, 1, 2, 3, 4] (by decide) rfl) 5 0 rfl rfl) rfl rfl hl.1 rfl (lv_room (Nat.le_of_ble_eq_true rfl)) dM_distinct_18 ⟨Nat.le_of_ble_eq_true rfl, Nat.le_of_ble_eq_true rfl⟩) hP hD hS hA [0, 1, 2, 3, 4] [] rfl rfl (by decide) (by decide) (fun r18 u18 H locs hq18 hP hD hS => ?_)
      have hP := hP.sub (ws' := [(m0, .inr (5, [.int (nI T.length), .ref m1, .ref m2, .ref m3, .int (nI n), .ref m4, .int (nI e), .int (nI k), .ref m5, .ref m6])), (m1, .inl (cI, 400, .inl su)), (m2, .inl (cI, 400, .inl pd)), (m3, .inl (cI, 400, .inl ob)), (m6, .inl (cB, 256, .inl u18))]) [0, 1, 2, 3, 4] rfl
      have hD := hD.sub (ws' := [(m0, .inr (5, [.int (nI T.length), .ref m1, .ref m2, .ref m3, .int (nI n), .ref m4, .int (nI e), .int (nI k), .ref m5, .ref m6])), (m1, .inl (cI, 400, .inl su)), (m2, .inl (cI, 400, .inl pd)), (m3, .inl (cI, 400, .inl ob)), (m6, .inl (cB, 256, .inl u18))]) [0, 1, 2, 3, 4] (by decide) rfl
      refine zz_top (y := nI (cnt (MA T (bb) true) 256)) (hq18) ?_
      refine lv_istore_n (lv' := [(3, .int (nI (cnt (MA T (bb) true) 256))), (0, .ref m0), (1, .int (nI bb)), (2, .int (nI dd))]) hx hb dM_distinct_21 rfl hl (by decide) rfl (fun ls hl => ?_)
      refine lv_iload_n hx hb dM_distinct_22 rfl (lv_at hl 0 rfl) ?_
      refine lv_iload_n hx hb dM_distinct_23 rfl (lv_at hl 3 rfl) ?_
      refine lv_icmp_gt (tgt := 30) hx hb dM_distinct_24 (by decide) (fun c24 => ?_) (fun c24 => ?_)
      · -- taken
        have c24 : dd < cnt (MA T (bb) true) 256 := (nI_ltI (a := dd) (b := cnt (MA T (bb) true) 256) (by omega) (by omega)).mp c24
        refine lv_iconst (v := nI 0) hx hb dM_distinct_30 (by decide) ?_
        refine lv_istore (lv' := [(4, .int (nI 0)), (3, .int (nI (cnt (MA T (bb) true) 256))), (0, .ref m0), (1, .int (nI bb)), (2, .int (nI dd))]) hx hb dM_distinct_31 hl (by decide) rfl (fun ls hl => ?_)
        refine lv_lconst (v := lN 0) hx hb dM_distinct_33 rfl ?_
        refine lv_lstore (lv' := [(5, .long (lN 0)), (4, .int (nI 0)), (3, .int (nI (cnt (MA T (bb) true) 256))), (0, .ref m0), (1, .int (nI bb)), (2, .int (nI dd))]) hx hb dM_distinct_34 hl (by decide) rfl (fun ls hl => ?_)
        refine lv_iconst (v := nI 0) hx hb dM_distinct_36 (by decide) ?_
        refine lv_istore (lv' := [(7, .int (nI 0)), (5, .long (lN 0)), (4, .int (nI 0)), (3, .int (nI (cnt (MA T (bb) true) 256))), (0, .ref m0), (1, .int (nI bb)), (2, .int (nI dd))]) hx hb dM_distinct_37 hl (by decide) rfl (fun ls hl => ?_)
        have lp39 : ∀ (fu : Nat) (i : Nat) (hi : i ≤ 16) (hm : 16 - i < fu) (H : Heap) (locs : List Loc) (hP : va_P D vwCl [(m0, .inr (5, [.int (nI T.length), .ref m1, .ref m2, .ref m3, .int (nI n), .ref m4, .int (nI e), .int (nI k), .ref m5, .ref m6])), (m1, .inl (cI, 400, .inl su)), (m2, .inl (cI, 400, .inl pd)), (m3, .inl (cI, 400, .inl ob)), (m6, .inl (cB, 256, .inl u18))] H) (hD : va_D A [(m0, .inr (5, [.int (nI T.length), .ref m1, .ref m2, .ref m3, .int (nI n), .ref m4, .int (nI e), .int (nI k), .ref m5, .ref m6])), (m1, .inl (cI, 400, .inl su)), (m2, .inl (cI, 400, .inl pd)), (m3, .inl (cI, 400, .inl ob)), (m6, .inl (cB, 256, .inl u18))]) (hS : va_S A s.heap H locs) (ls : Array Slot) (hl : lv_has ls 9 [(0, .ref m0), (1, .int (nI bb)), (4, .int (nI (zer (fun i => mxf (rgf bb i) T) i))), (5, .long (lN (smr (fun i => mxf (rgf bb i) T) i))), (7, .int (nI i))]), W pg l ev (headSpec wM_distinct rm_M_distinct).room s mt (([.ref m0, .int b1, .int d1] : List Value).toArray) below meth kd H locs 0 0 (MQ below (va_Ql (fun (r : Int64) (u : (Nat → Int32)) => (¬ (inr_ 256 b1 = true ∧ ¬ d1 < 0) ∧ r = -1) ∨ ∃ bb dd, bb < 256 ∧ dd < 2 ^ 31 ∧ b1 = nI bb ∧ d1 = nI dd ∧ r = lN (if cnt (MA T bb true) 256 ≤ dd then cnt (MA T bb true) 256 else abt (fun i => mxf (rgf bb i) T))) (fun u : (Nat → Int32) => zz_B D vwCl [(cI, .int), (cB, .boolean)] A [(m0, .inr (5, [.int (nI T.length), .ref m1, .ref m2, .ref m3, .int (nI n), .ref m4, .int (nI e), .int (nI k), .ref m5, .ref m6])), (m1, .inl (cI, 400, .inl su)), (m2, .inl (cI, 400, .inl pd)), (m3, .inl (cI, 400, .inl ob)), (m6, .inl (cB, 256, .inl u))]) A) (([.ref m0, .int b1, .int d1] : List Value).toArray) s 0 0 A) (F0 mt 39 ls []) := by
          intro fu
          induction fu with
          | zero => intro i hi hm; exact absurd hm (Nat.not_lt_zero _)
          | succ fu ih39 =>
            intro i hi hm H locs hP hD hS ls hl
            have hzl := zer_le (fun i => mxf (rgf bb i) T) i
            have h29 := mx29 bb i T
            refine lv_iload hx hb dM_distinct_39 (lv_at hl 4 rfl) ?_
            refine lv_bipush (v := nI 16) hx hb dM_distinct_41 (by decide) ?_
            refine lv_icmp_ge (tgt := 89) hx hb dM_distinct_43 (by decide) (fun c43 => ?_) (fun c43 => ?_)
            · -- taken
              have c43 : 16 ≤ i := (nI_leI (a := 16) (b := i) (by omega) (by omega)).mp c43
              have e16 : i = 16 := by omega
              subst e16
              refine lv_iload hx hb dM_distinct_89 (lv_at hl 2 rfl) ?_
              refine lv_if_le (tgt := 103) hx hb dM_distinct_91 (by decide) (fun c91 => ?_) (fun c91 => ?_)
              · -- taken
                have c91 : zer (fun i => mxf (rgf bb i) T) 16 ≤ 0 := (nI_leI (a := zer (fun i => mxf (rgf bb i) T) 16) (b := 0) (by omega) (by omega)).mp c91
                refine lv_ldc2 (v := 184992831373312) hx hb hown (ht _ wd503) dM_distinct_103 ?_
                refine zz_topl (y := lN 184992831373312) (rfl) ?_
                refine lv_ldc2 (v := 1000) hx hb hown (ht _ wd504) dM_distinct_106 ?_
                refine zz_topl (y := lN 1000) (rfl) ?_
                refine lv_lload hx hb dM_distinct_109 (lv_at hl 3 rfl) ?_
                refine lv_lmul hx hb dM_distinct_111 ?_
                refine zz_topl (y := lN (1000 * (smr (fun i => mxf (rgf bb i) T) 16))) (lN_mul 1000 (smr (fun i => mxf (rgf bb i) T) 16)) ?_
                refine lv_ldiv hx hb dM_distinct_112 (zz_lne0 (by omega) (by omega)) ?_
                refine zz_topl (y := lN (184992831373312 / (1000 * (smr (fun i => mxf (rgf bb i) T) 16)))) (pk_lDiv (a := 184992831373312) (b := 1000 * (smr (fun i => mxf (rgf bb i) T) 16)) (by omega) (by omega) (by omega)) ?_
                exact zz_lretW (v := lN (184992831373312 / (1000 * (smr (fun i => mxf (rgf bb i) T) 16)))) (w1 := fun u : (Nat → Int32) => [(m0, .inr (5, [.int (nI T.length), .ref m1, .ref m2, .ref m3, .int (nI n), .ref m4, .int (nI e), .int (nI k), .ref m5, .ref m6])), (m1, .inl (cI, 400, .inl su)), (m2, .inl (cI, 400, .inl pd)), (m3, .inl (cI, 400, .inl ob)), (m6, .inl (cB, 256, .inl u))]) u18 hx hb hr hlocks (Or.inr ⟨bb, dd, hbb, hdd, ebb, edd, by rw [if_neg (by omega)]; unfold abt; rw [if_neg (by omega)]⟩) hP hK hD hS dM_distinct_113
              · -- not taken
                have c91 : ¬ (zer (fun i => mxf (rgf bb i) T) 16 ≤ 0) := fun h => c91 ((nI_leI (a := zer (fun i => mxf (rgf bb i) T) 16) (b := 0) (by omega) (by omega)).mpr h)
                refine lv_iload hx hb dM_distinct_94 (lv_at hl 2 rfl) ?_
                refine zz_ci (v := nI (few (zer (fun i => mxf (rgf bb i) T) 16))) (W.runS (As := [.int (nI (zer (fun i => mxf (rgf bb i) T) 16))]) (rest := []) ⟨hx, hb, hml, hown, ht⟩ (c_M_aboutFew l _ hzl) (va_cwS 1 ht (gd_S wd500 wd501 wd6 wd502) rfl rfl rfl (by decide +kernel) ⟨Nat.le_of_ble_eq_true rfl, Nat.le_of_ble_eq_true rfl⟩) zz_N_S rfl rfl hl.1 rfl (lv_room (Nat.le_of_ble_eq_true rfl)) dM_distinct_96 ⟨Nat.le_of_ble_eq_true rfl, Nat.le_of_ble_eq_true rfl⟩) ?_
                refine lv_i2l (v := lN (few (zer (fun i => mxf (rgf bb i) T) 16))) hx hb dM_distinct_99 (nI_l (n := few (zer (fun i => mxf (rgf bb i) T) 16)) (by omega)) ?_
                refine lv_goto (tgt := 113) hx hb dM_distinct_100 (by decide) ?_
                exact zz_lretW (v := lN (few (zer (fun i => mxf (rgf bb i) T) 16))) (w1 := fun u : (Nat → Int32) => [(m0, .inr (5, [.int (nI T.length), .ref m1, .ref m2, .ref m3, .int (nI n), .ref m4, .int (nI e), .int (nI k), .ref m5, .ref m6])), (m1, .inl (cI, 400, .inl su)), (m2, .inl (cI, 400, .inl pd)), (m3, .inl (cI, 400, .inl ob)), (m6, .inl (cB, 256, .inl u))]) u18 hx hb hr hlocks (Or.inr ⟨bb, dd, hbb, hdd, ebb, edd, by rw [if_neg (by omega)]; unfold abt; rw [if_pos (by omega)]⟩) hP hK hD hS dM_distinct_113
            · -- not taken
              have c43 : ¬ (16 ≤ i) := fun h => c43 ((nI_leI (a := 16) (b := i) (by omega) (by omega)).mpr h)
              refine lv_aload_n hx hb dM_distinct_46 rfl (lv_at hl 0 rfl) ?_
              refine lv_iload_n hx hb dM_distinct_47 rfl (lv_at hl 1 rfl) ?_
              refine lv_iload hx hb dM_distinct_48 (lv_at hl 4 rfl) ?_
              refine zz_ci (v := nI (mxf (rgf bb i) T)) (W.runV (As := [.int (nI bb), .int (nI i)]) (rest := []) ⟨hx, hb, hml, hown, ht⟩ (c_M_registerOf l D cI cB m0 m1 m2 m3 m4 m5 m6 n k e su pd ob T hM bb i hbb (by omega)) (cwV 2 ht (gd_V wd492 wd494 wp22 wd6 wd495) rfl rfl rfl (by decide +kernel) ⟨Nat.le_of_ble_eq_true rfl, Nat.le_of_ble_eq_true rfl⟩) (zz_R_V hN hK (hP.sub (ws' := [(m0, .inr (5, [.int (nI T.length), .ref m1, .ref m2, .ref m3, .int (nI n), .ref m4, .int (nI e), .int (nI k), .ref m5, .ref m6])), (m1, .inl (cI, 400, .inl su)), (m2, .inl (cI, 400, .inl pd)), (m3, .inl (cI, 400, .inl ob))]) [0, 1, 2, 3] rfl) 5 0 rfl rfl) rfl rfl hl.1 rfl (lv_room (Nat.le_of_ble_eq_true rfl)) dM_distinct_50 ⟨Nat.le_of_ble_eq_true rfl, Nat.le_of_ble_eq_true rfl⟩) ?_
              refine lv_istore (lv' := [(8, .int (nI (mxf (rgf bb i) T))), (0, .ref m0), (1, .int (nI bb)), (4, .int (nI (zer (fun i => mxf (rgf bb i) T) i))), (5, .long (lN (smr (fun i => mxf (rgf bb i) T) i))), (7, .int (nI i))]) hx hb dM_distinct_53 hl (by decide) rfl (fun ls hl => ?_)
              refine lv_iload hx hb dM_distinct_55 (lv_at hl 0 rfl) ?_
              refine lv_if_ne (tgt := 67) hx hb dM_distinct_57 (by decide) (fun c57 => ?_) (fun c57 => ?_)
              · -- taken
                have c57 : ¬ (mxf (rgf bb i) T = 0) := fun h => c57 ((nI_eq (a := mxf (rgf bb i) T) (b := 0) (by omega) (by omega)).mpr h)
                refine lv_iload hx hb dM_distinct_67 (lv_at hl 3 rfl) ?_
                refine zz_top (y := nI (zer (fun i => mxf (rgf bb i) T) (i + 1))) (congrArg nI (if_neg c57).symm) ?_
                refine lv_istore (lv' := [(4, .int (nI (zer (fun i => mxf (rgf bb i) T) (i + 1)))), (8, .int (nI (mxf (rgf bb i) T))), (0, .ref m0), (1, .int (nI bb)), (5, .long (lN (smr (fun i => mxf (rgf bb i) T) i))), (7, .int (nI i))]) hx hb dM_distinct_69 hl (by decide) rfl (fun ls hl => ?_)
                refine lv_lload hx hb dM_distinct_71 (lv_at hl 4 rfl) ?_
                refine lv_lconst (v := lN 1) hx hb dM_distinct_73 rfl ?_
                refine lv_bipush (v := nI 30) hx hb dM_distinct_74 (by decide) ?_
                refine lv_iload hx hb dM_distinct_76 (lv_at hl 1 rfl) ?_
                refine lv_isub hx hb dM_distinct_78 ?_
                refine zz_top (y := nI (30 - (mxf (rgf bb i) T))) (pk_sub (a := 30) (b := mxf (rgf bb i) T) (by omega)) ?_
                refine lv_lshl (v := lN (2 ^ (30 - mxf (rgf bb i) T))) hx hb dM_distinct_79 (zz_shlc _ (by omega)) ?_
                refine lv_ladd hx hb dM_distinct_80 ?_
                refine zz_topl (y := lN ((smr (fun i => mxf (rgf bb i) T) i) + (2 ^ (30 - mxf (rgf bb i) T)))) (lN_add (smr (fun i => mxf (rgf bb i) T) i) (2 ^ (30 - mxf (rgf bb i) T))) ?_
                refine zz_topl (y := lN (smr (fun i => mxf (rgf bb i) T) (i + 1))) (rfl) ?_
                refine lv_lstore (lv' := [(5, .long (lN (smr (fun i => mxf (rgf bb i) T) (i + 1)))), (4, .int (nI (zer (fun i => mxf (rgf bb i) T) (i + 1)))), (8, .int (nI (mxf (rgf bb i) T))), (0, .ref m0), (1, .int (nI bb)), (7, .int (nI i))]) hx hb dM_distinct_81 hl (by decide) rfl (fun ls hl => ?_)
                refine lv_iinc (v := nI (i + 1)) (lv' := [(7, .int (nI (i + 1))), (5, .long (lN (smr (fun i => mxf (rgf bb i) T) (i + 1)))), (4, .int (nI (zer (fun i => mxf (rgf bb i) T) (i + 1)))), (8, .int (nI (mxf (rgf bb i) T))), (0, .ref m0), (1, .int (nI bb))]) hx hb dM_distinct_83 hl (k := 5) rfl (nI_1 i) (by decide) rfl (fun ls hl => ?_)
                refine lv_goto (tgt := 39) hx hb dM_distinct_86 (by decide) ?_
                exact ih39 (i + 1) (by omega) (by omega) _ _ hP hD hS ls (lv_sub hl [4, 5, 2, 1, 0] rfl)
              · -- not taken
                have c57 : mxf (rgf bb i) T = 0 := (nI_eq (a := mxf (rgf bb i) T) (b := 0) (by omega) (by omega)).mp c57
                refine lv_iload hx hb dM_distinct_60 (lv_at hl 3 rfl) ?_
                refine lv_iconst (v := nI 1) hx hb dM_distinct_62 (by decide) ?_
                refine lv_iadd hx hb dM_distinct_63 ?_
                refine zz_top (y := nI ((zer (fun i => mxf (rgf bb i) T) i) + 1)) (nI_add (zer (fun i => mxf (rgf bb i) T) i) 1) ?_
                refine zz_top (y := nI (zer (fun i => mxf (rgf bb i) T) (i + 1))) (congrArg nI (if_pos c57).symm) ?_
                refine lv_goto (tgt := 69) hx hb dM_distinct_64 (by decide) ?_
                refine lv_istore (lv' := [(4, .int (nI (zer (fun i => mxf (rgf bb i) T) (i + 1)))), (8, .int (nI (mxf (rgf bb i) T))), (0, .ref m0), (1, .int (nI bb)), (5, .long (lN (smr (fun i => mxf (rgf bb i) T) i))), (7, .int (nI i))]) hx hb dM_distinct_69 hl (by decide) rfl (fun ls hl => ?_)
                refine lv_lload hx hb dM_distinct_71 (lv_at hl 4 rfl) ?_
                refine lv_lconst (v := lN 1) hx hb dM_distinct_73 rfl ?_
                refine lv_bipush (v := nI 30) hx hb dM_distinct_74 (by decide) ?_
                refine lv_iload hx hb dM_distinct_76 (lv_at hl 1 rfl) ?_
                refine lv_isub hx hb dM_distinct_78 ?_
                refine zz_top (y := nI (30 - (mxf (rgf bb i) T))) (pk_sub (a := 30) (b := mxf (rgf bb i) T) (by omega)) ?_
                refine lv_lshl (v := lN (2 ^ (30 - mxf (rgf bb i) T))) hx hb dM_distinct_79 (zz_shlc _ (by omega)) ?_
                refine lv_ladd hx hb dM_distinct_80 ?_
                refine zz_topl (y := lN ((smr (fun i => mxf (rgf bb i) T) i) + (2 ^ (30 - mxf (rgf bb i) T)))) (lN_add (smr (fun i => mxf (rgf bb i) T) i) (2 ^ (30 - mxf (rgf bb i) T))) ?_
                refine zz_topl (y := lN (smr (fun i => mxf (rgf bb i) T) (i + 1))) (rfl) ?_
                refine lv_lstore (lv' := [(5, .long (lN (smr (fun i => mxf (rgf bb i) T) (i + 1)))), (4, .int (nI (zer (fun i => mxf (rgf bb i) T) (i + 1)))), (8, .int (nI (mxf (rgf bb i) T))), (0, .ref m0), (1, .int (nI bb)), (7, .int (nI i))]) hx hb dM_distinct_81 hl (by decide) rfl (fun ls hl => ?_)
                refine lv_iinc (v := nI (i + 1)) (lv' := [(7, .int (nI (i + 1))), (5, .long (lN (smr (fun i => mxf (rgf bb i) T) (i + 1)))), (4, .int (nI (zer (fun i => mxf (rgf bb i) T) (i + 1)))), (8, .int (nI (mxf (rgf bb i) T))), (0, .ref m0), (1, .int (nI bb))]) hx hb dM_distinct_83 hl (k := 5) rfl (nI_1 i) (by decide) rfl (fun ls hl => ?_)
                refine lv_goto (tgt := 39) hx hb dM_distinct_86 (by decide) ?_
                exact ih39 (i + 1) (by omega) (by omega) _ _ hP hD hS ls (lv_sub hl [4, 5, 2, 1, 0] rfl)
        exact lp39 ((16 - 0) + 1) 0 (Nat.zero_le _) (Nat.lt_succ_self _) _ _ hP hD hS ls (lv_sub hl [4, 5, 2, 1, 0] rfl)
      · -- not taken
        have c24 : ¬ (dd < cnt (MA T (bb) true) 256) := fun h => c24 ((nI_ltI (a := dd) (b := cnt (MA T (bb) true) 256) (by omega) (by omega)).mpr h)
        refine lv_iload_n hx hb dM_distinct_27 rfl (lv_at hl 0 rfl) ?_
        refine lv_i2l (v := lN (cnt (MA T (bb) true) 256)) hx hb dM_distinct_28 (nI_l (n := cnt (MA T (bb) true) 256) (by omega)) ?_
        exact zz_lretW (v := lN (cnt (MA T (bb) true) 256)) (w1 := fun u : (Nat → Int32) => [(m0, .inr (5, [.int (nI T.length), .ref m1, .ref m2, .ref m3, .int (nI n), .ref m4, .int (nI e), .int (nI k), .ref m5, .ref m6])), (m1, .inl (cI, 400, .inl su)), (m2, .inl (cI, 400, .inl pd)), (m3, .inl (cI, 400, .inl ob)), (m6, .inl (cB, 256, .inl u))]) u18 hx hb hr hlocks (Or.inr ⟨bb, dd, hbb, hdd, ebb, edd, by rw [if_pos (by omega)]⟩) hP hK hD hS dM_distinct_29
    · -- not taken
      have hnn : ¬ (inr_ 256 b1 = true ∧ ¬ d1 < 0) := fun q => c8 (i_le.mpr q.2)
      refine lv_ldc2 (v := (-1)) hx hb hown (ht _ wd468) dM_distinct_11 ?_
      exact zz_lretW (v := (-1)) (w1 := fun u : (Nat → Int32) => [(m0, .inr (5, [.int (nI T.length), .ref m1, .ref m2, .ref m3, .int (nI n), .ref m4, .int (nI e), .int (nI k), .ref m5, .ref m6])), (m1, .inl (cI, 400, .inl su)), (m2, .inl (cI, 400, .inl pd)), (m3, .inl (cI, 400, .inl ob)), (m6, .inl (cB, 256, .inl u))]) se hx hb hr hlocks (Or.inl ⟨hnn, rfl⟩) hP hK hD hS dM_distinct_14
