abbrev rm_M_estimate : Room := { frames := 3, cells := 0, slots := 0, locals := 72 }
set_option maxHeartbeats 4000000 in
set_option maxRecDepth 100000 in
theorem c_M_estimate (l : Launch) (D : va_G) (cI cB : ClassId) (sz : Nat) (m0 m1 m2 m3 m4 m5 m6 n k e : Nat) (su pd ob : Nat → Int32) (T : List Nat) (hM : RM T su pd ob) (se : Nat → Int32) (op p1 p2 : Int32) : Met l yM_estimate wM_estimate rm_M_estimate (zz_P D vwCl [(cI, .int), (cB, .boolean)] [.ref m0, .int op, .int p1, .int p2] [(m0, .inr (5, [.int (nI T.length), .ref m1, .ref m2, .ref m3, .int (nI n), .ref m4, .int (nI e), .int (nI k), .ref m5, .ref m6])), (m1, .inl (cI, 400, .inl su)), (m2, .inl (cI, 400, .inl pd)), (m3, .inl (cI, 400, .inl ob)), (m6, .inl (cB, 256, .inl se))] sz) (va_Ql (fun (r : Int64) (u : (Nat → Int32)) => (inr_ 8 p1 = false ∧ r = -1) ∨ ∃ pp, pp < 8 ∧ p1 = nI pp ∧ ((op = nI 3 ∧ r = lN (T.countP (isp pp) / 3)) ∨ (op ≠ nI 3 ∧ ((inr_ 8 p2 = false ∧ r = -1) ∨ ∃ qq, qq < 8 ∧ p2 = nI qq ∧ (((op ≠ nI 0 ∧ op ≠ nI 1 ∧ op ≠ nI 2 ∧ op ≠ nI 4) ∧ r = -1) ∨ (op = nI 0 ∧ r = lN (T.countP (isp pp) * T.countP (isp qq) / max 1 (max (cnt (MA T (2 ^ pp) false) 256) (cnt (MA T (2 ^ qq) true) 256)))) ∨ (op = nI 1 ∧ r = lN (T.countP (isp pp) * T.countP (isp qq) / max 1 (max (cnt (MA T (2 ^ pp) true) 256) (cnt (MA T (2 ^ qq) true) 256)))) ∨ (op = nI 2 ∧ r = lN (T.countP (isp pp) + T.countP (isp qq))) ∨ (op = nI 4 ∧ r = lN (16 * sumf (prs T pp qq true true) T))))))) (fun u : (Nat → Int32) => zz_B D vwCl [(cI, .int), (cB, .boolean)] (va_A [(m0, .inr (5, [.int (nI T.length), .ref m1, .ref m2, .ref m3, .int (nI n), .ref m4, .int (nI e), .int (nI k), .ref m5, .ref m6])), (m1, .inl (cI, 400, .inl su)), (m2, .inl (cI, 400, .inl pd)), (m3, .inl (cI, 400, .inl ob)), (m6, .inl (cB, 256, .inl se))] sz) [(m0, .inr (5, [.int (nI T.length), .ref m1, .ref m2, .ref m3, .int (nI n), .ref m4, .int (nI e), .int (nI k), .ref m5, .ref m6])), (m1, .inl (cI, 400, .inl su)), (m2, .inl (cI, 400, .inl pd)), (m3, .inl (cI, 400, .inl ob)), (m6, .inl (cB, 256, .inl u))]) (va_A [(m0, .inr (5, [.int (nI T.length), .ref m1, .ref m2, .ref m3, .int (nI n), .ref m4, .int (nI e), .int (nI k), .ref m5, .ref m6])), (m1, .inl (cI, 400, .inl su)), (m2, .inl (cI, 400, .inl pd)), (m3, .inl (cI, 400, .inl ob)), (m6, .inl (cB, 256, .inl se))] sz)) 0 0 (va_A [(m0, .inr (5, [.int (nI T.length), .ref m1, .ref m2, .ref m3, .int (nI n), .ref m4, .int (nI e), .int (nI k), .ref m5, .ref m6])), (m1, .inl (cI, 400, .inl su)), (m2, .inl (cI, 400, .inl pd)), (m3, .inl (cI, 400, .inl ob)), (m6, .inl (cB, 256, .inl se))] sz) := by
  refine Met.ofW (cc := cM_estimate) (maxL := 10) (ret := (some .long)) (by decide) rfl ?_
  intro pg ev s mt args below meth kd s₁ B hml hv
  obtain ⟨rfl, hsz, hP, hK, hD0, hN⟩ := hv
  have hx := B.exec
  have hb := B.bytes
  have hr := B.returns
  have ht : ∀ w ∈ W0, w.before _ s = true := fun w h => atoms_spec (ws := wM_estimate) B.pre w (List.mem_cons_of_mem _ h)
  have hown : s.vm.findClass "StatRowsModel" = some mt.cls := findClass_of_methodNamed B.named
  have hlocks := B.notSynchronized
  subst hsz
  have hD := hD0.self (sz := s.heap.size)
  generalize hAe : va_A [(m0, .inr (5, [.int (nI T.length), .ref m1, .ref m2, .ref m3, .int (nI n), .ref m4, .int (nI e), .int (nI k), .ref m5, .ref m6])), (m1, .inl (cI, 400, .inl su)), (m2, .inl (cI, 400, .inl pd)), (m3, .inl (cI, 400, .inl ob)), (m6, .inl (cB, 256, .inl se))] s.heap.size = A at hD ⊢
  have hA : ∀ q : Nat, s.heap.size ≤ q → A q := fun q h => by rw [← hAe]; exact Or.inr h
  have hS : va_S A s.heap s.heap [] := va_S.rf
  have hP : va_P D vwCl [(m0, .inr (5, [.int (nI T.length), .ref m1, .ref m2, .ref m3, .int (nI n), .ref m4, .int (nI e), .int (nI k), .ref m5, .ref m6])), (m1, .inl (cI, 400, .inl su)), (m2, .inl (cI, 400, .inl pd)), (m3, .inl (cI, 400, .inl ob)), (m6, .inl (cB, 256, .inl se))] s.heap := hP
  have hl := lv_entry ([.ref m0, .int op, .int p1, .int p2]) (n := 10) (Nat.le_of_ble_eq_true rfl)
  rw [lg_entry_eq]
  generalize (lg_sl ([.ref m0, .int op, .int p1, .int p2]) ++ List.replicate (10 - (lg_sl ([.ref m0, .int op, .int p1, .int p2])).length) Slot.unset).toArray = ls at hl ⊢
  have hl : lv_has ls 10 [(0, .ref m0), (1, .int op), (2, .int p1), (3, .int p2)] := hl
  have hM4 := hM.2.1
  have bl0 := btl (inr_ 8 p1)
  have bl1 := btl (inr_ 8 p2)
  refine lv_iload_n hx hb dM_estimate_0 rfl (lv_at hl 1 rfl) ?_
  refine lv_if_lt (tgt := 28) hx hb dM_estimate_1 (by decide) (fun c1 => ?_) (fun c1 => ?_)
  · -- taken
    have hne : op ≠ nI 0 ∧ op ≠ nI 1 ∧ op ≠ nI 2 ∧ op ≠ nI 3 ∧ op ≠ nI 4 := ⟨fun q => absurd (q ▸ c1) (by decide), fun q => absurd (q ▸ c1) (by decide), fun q => absurd (q ▸ c1) (by decide), fun q => absurd (q ▸ c1) (by decide), fun q => absurd (q ▸ c1) (by decide)⟩
    refine lv_ldc2 (v := (-1)) hx hb hown (ht _ wd468) dM_estimate_28 ?_
    exact zz_lretW (v := (-1)) (w1 := fun u : (Nat → Int32) => [(m0, .inr (5, [.int (nI T.length), .ref m1, .ref m2, .ref m3, .int (nI n), .ref m4, .int (nI e), .int (nI k), .ref m5, .ref m6])), (m1, .inl (cI, 400, .inl su)), (m2, .inl (cI, 400, .inl pd)), (m3, .inl (cI, 400, .inl ob)), (m6, .inl (cB, 256, .inl u))]) se hx hb hr hlocks (by
      by_cases g1 : inr_ 8 p1 = true
      · obtain ⟨pp, hpp, epp⟩ := inr_t (by decide) g1
        refine Or.inr ⟨pp, hpp, epp, Or.inr ⟨hne.2.2.2.1, ?_⟩⟩
        by_cases g2 : inr_ 8 p2 = true
        · obtain ⟨qq, hqq, eqq⟩ := inr_t (by decide) g2
          exact Or.inr ⟨qq, hqq, eqq, Or.inl ⟨⟨hne.1, hne.2.1, hne.2.2.1, hne.2.2.2.2⟩, rfl⟩⟩
        · exact Or.inl ⟨by simpa using g2, rfl⟩
      · exact Or.inl ⟨by simpa using g1, rfl⟩) hP hK hD hS dM_estimate_31
  · -- not taken
    refine lv_iload_n hx hb dM_estimate_4 rfl (lv_at hl 1 rfl) ?_
    refine lv_iconst (v := nI 4) hx hb dM_estimate_5 (by decide) ?_
    refine lv_icmp_gt (tgt := 28) hx hb dM_estimate_6 (by decide) (fun c6 => ?_) (fun c6 => ?_)
    · -- taken
      have hne : op ≠ nI 0 ∧ op ≠ nI 1 ∧ op ≠ nI 2 ∧ op ≠ nI 3 ∧ op ≠ nI 4 := ⟨fun q => absurd (q ▸ c6) (by decide), fun q => absurd (q ▸ c6) (by decide), fun q => absurd (q ▸ c6) (by decide), fun q => absurd (q ▸ c6) (by decide), fun q => absurd (q ▸ c6) (by decide)⟩
      refine lv_ldc2 (v := (-1)) hx hb hown (ht _ wd468) dM_estimate_28 ?_
      exact zz_lretW (v := (-1)) (w1 := fun u : (Nat → Int32) => [(m0, .inr (5, [.int (nI T.length), .ref m1, .ref m2, .ref m3, .int (nI n), .ref m4, .int (nI e), .int (nI k), .ref m5, .ref m6])), (m1, .inl (cI, 400, .inl su)), (m2, .inl (cI, 400, .inl pd)), (m3, .inl (cI, 400, .inl ob)), (m6, .inl (cB, 256, .inl u))]) se hx hb hr hlocks (by
        by_cases g1 : inr_ 8 p1 = true
        · obtain ⟨pp, hpp, epp⟩ := inr_t (by decide) g1
          refine Or.inr ⟨pp, hpp, epp, Or.inr ⟨hne.2.2.2.1, ?_⟩⟩
          by_cases g2 : inr_ 8 p2 = true
          · obtain ⟨qq, hqq, eqq⟩ := inr_t (by decide) g2
            exact Or.inr ⟨qq, hqq, eqq, Or.inl ⟨⟨hne.1, hne.2.1, hne.2.2.1, hne.2.2.2.2⟩, rfl⟩⟩
          · exact Or.inl ⟨by simpa using g2, rfl⟩
        · exact Or.inl ⟨by simpa using g1, rfl⟩) hP hK hD hS dM_estimate_31
    · -- not taken
      refine lv_iload_n hx hb dM_estimate_9 rfl (lv_at hl 2 rfl) ?_
      refine zz_ci (v := nI ((inr_ 8 p1).toNat)) (W.runS (As := [.int p1]) (rest := []) ⟨hx, hb, hml, hown, ht⟩ (c_M_isPredicate l p1) (va_cwS 1 ht (gd_S wd428 wd429 wd6 wd430) rfl rfl rfl (by decide +kernel) ⟨Nat.le_of_ble_eq_true rfl, Nat.le_of_ble_eq_true rfl⟩) zz_N_S rfl rfl hl.1 rfl (lv_room (Nat.le_of_ble_eq_true rfl)) dM_estimate_10 ⟨Nat.le_of_ble_eq_true rfl, Nat.le_of_ble_eq_true rfl⟩) ?_
      refine lv_if_eq (tgt := 28) hx hb dM_estimate_13 (by decide) (fun c13 => ?_) (fun c13 => ?_)
      · -- taken
        have c13 : (inr_ 8 p1).toNat = 0 := (nI_eq (a := (inr_ 8 p1).toNat) (b := 0) (by omega) (by omega)).mp c13
        have hb1 : inr_ 8 p1 = false := bt0 c13
        refine lv_ldc2 (v := (-1)) hx hb hown (ht _ wd468) dM_estimate_28 ?_
        exact zz_lretW (v := (-1)) (w1 := fun u : (Nat → Int32) => [(m0, .inr (5, [.int (nI T.length), .ref m1, .ref m2, .ref m3, .int (nI n), .ref m4, .int (nI e), .int (nI k), .ref m5, .ref m6])), (m1, .inl (cI, 400, .inl su)), (m2, .inl (cI, 400, .inl pd)), (m3, .inl (cI, 400, .inl ob)), (m6, .inl (cB, 256, .inl u))]) se hx hb hr hlocks (Or.inl ⟨hb1, rfl⟩) hP hK hD hS dM_estimate_31
      · -- not taken
        have c13 : ¬ ((inr_ 8 p1).toNat = 0) := fun h => c13 ((nI_eq (a := (inr_ 8 p1).toNat) (b := 0) (by omega) (by omega)).mpr h)
        have hb1 := bt1 c13
        obtain ⟨pp, hpp, epp⟩ := inr_t (by decide) hb1
        rw [epp] at hl
        refine lv_iload_n hx hb dM_estimate_16 rfl (lv_at hl 1 rfl) ?_
        refine lv_iconst (v := nI 3) hx hb dM_estimate_17 (by decide) ?_
        refine lv_icmp_eq (tgt := 32) hx hb dM_estimate_18 (by decide) (fun c18 => ?_) (fun c18 => ?_)
        · -- taken
          refine lv_iload_n hx hb dM_estimate_32 rfl (lv_at hl 1 rfl) ?_
          refine lv_iconst (v := nI 3) hx hb dM_estimate_33 (by decide) ?_
          refine lv_icmp_ne (tgt := 46) hx hb dM_estimate_34 (by decide) (fun c34 => ?_) (fun c34 => ?_)
          · -- taken
            exact absurd c18 c34
          · -- not taken
            refine lv_aload_n hx hb dM_estimate_37 rfl (lv_at hl 0 rfl) ?_
            refine lv_iload_n hx hb dM_estimate_38 rfl (lv_at hl 2 rfl) ?_
            refine zz_ci (v := nI (T.countP (isp pp))) (W.runV (As := [.int (nI pp)]) (rest := []) ⟨hx, hb, hml, hown, ht⟩ (c_M_countOf l D cI cB m0 m1 m2 m3 m4 m5 m6 n k e su pd ob T hM pp hpp) (cwV 1 ht (gd_V wd443 wd445 wp17 wd6 wd446) rfl rfl rfl (by decide +kernel) ⟨Nat.le_of_ble_eq_true rfl, Nat.le_of_ble_eq_true rfl⟩) (zz_R_V hN hK (hP.sub (ws' := [(m0, .inr (5, [.int (nI T.length), .ref m1, .ref m2, .ref m3, .int (nI n), .ref m4, .int (nI e), .int (nI k), .ref m5, .ref m6])), (m1, .inl (cI, 400, .inl su)), (m2, .inl (cI, 400, .inl pd)), (m3, .inl (cI, 400, .inl ob))]) [0, 1, 2, 3] rfl) 5 0 rfl rfl) rfl rfl hl.1 rfl (lv_room (Nat.le_of_ble_eq_true rfl)) dM_estimate_39 ⟨Nat.le_of_ble_eq_true rfl, Nat.le_of_ble_eq_true rfl⟩) ?_
            have l0 : T.countP (isp pp) ≤ T.length := List.countP_le_length
            refine lv_iconst (v := nI 3) hx hb dM_estimate_42 (by decide) ?_
            refine lv_idiv hx hb dM_estimate_43 (by decide) ?_
            refine zz_top (y := nI ((T.countP (isp pp)) / 3)) (pk_div (a := T.countP (isp pp)) (d := 3) (by omega) (by omega) (by omega)) ?_
            refine lv_i2l (v := lN ((T.countP (isp pp)) / 3)) hx hb dM_estimate_44 (nI_l (n := (T.countP (isp pp)) / 3) (by omega)) ?_
            exact zz_lretW (v := lN ((T.countP (isp pp)) / 3)) (w1 := fun u : (Nat → Int32) => [(m0, .inr (5, [.int (nI T.length), .ref m1, .ref m2, .ref m3, .int (nI n), .ref m4, .int (nI e), .int (nI k), .ref m5, .ref m6])), (m1, .inl (cI, 400, .inl su)), (m2, .inl (cI, 400, .inl pd)), (m3, .inl (cI, 400, .inl ob)), (m6, .inl (cB, 256, .inl u))]) se hx hb hr hlocks (Or.inr ⟨pp, hpp, epp, Or.inl ⟨c34, rfl⟩⟩) hP hK hD hS dM_estimate_45
        · -- not taken
          refine lv_iload_n hx hb dM_estimate_21 rfl (lv_at hl 3 rfl) ?_
          refine zz_ci (v := nI ((inr_ 8 p2).toNat)) (W.runS (As := [.int p2]) (rest := []) ⟨hx, hb, hml, hown, ht⟩ (c_M_isPredicate l p2) (va_cwS 1 ht (gd_S wd428 wd429 wd6 wd430) rfl rfl rfl (by decide +kernel) ⟨Nat.le_of_ble_eq_true rfl, Nat.le_of_ble_eq_true rfl⟩) zz_N_S rfl rfl hl.1 rfl (lv_room (Nat.le_of_ble_eq_true rfl)) dM_estimate_22 ⟨Nat.le_of_ble_eq_true rfl, Nat.le_of_ble_eq_true rfl⟩) ?_
          refine lv_if_ne (tgt := 32) hx hb dM_estimate_25 (by decide) (fun c25 => ?_) (fun c25 => ?_)
          · -- taken
            have c25 : ¬ ((inr_ 8 p2).toNat = 0) := fun h => c25 ((nI_eq (a := (inr_ 8 p2).toNat) (b := 0) (by omega) (by omega)).mpr h)
            have hb2 := bt1 c25
            obtain ⟨qq, hqq, eqq⟩ := inr_t (by decide) hb2
            rw [eqq] at hl
            have l1 : T.countP (isp pp) ≤ T.length := List.countP_le_length
            have l2 : T.countP (isp qq) ≤ T.length := List.countP_le_length
            have l3 := cnt_le (MA T (2 ^ pp) false) 256
            have l4 := cnt_le (MA T (2 ^ pp) true) 256
            have l5 := cnt_le (MA T (2 ^ qq) true) 256
            have hmul : T.countP (isp pp) * T.countP (isp qq) ≤ 400 * 400 := Nat.mul_le_mul (by omega) (by omega)
            refine lv_iload_n hx hb dM_estimate_32 rfl (lv_at hl 1 rfl) ?_
            refine lv_iconst (v := nI 3) hx hb dM_estimate_33 (by decide) ?_
            refine lv_icmp_ne (tgt := 46) hx hb dM_estimate_34 (by decide) (fun c34 => ?_) (fun c34 => ?_)
            · -- taken
              refine lv_iload_n hx hb dM_estimate_46 rfl (lv_at hl 1 rfl) ?_
              refine lv_iconst (v := nI 4) hx hb dM_estimate_47 (by decide) ?_
              refine lv_icmp_ne (tgt := 64) hx hb dM_estimate_48 (by decide) (fun c48 => ?_) (fun c48 => ?_)
              · -- taken
                refine lv_aload_n hx hb dM_estimate_64 rfl (lv_at hl 0 rfl) ?_
                refine lv_iload_n hx hb dM_estimate_65 rfl (lv_at hl 2 rfl) ?_
                refine zz_ci (v := nI (T.countP (isp pp))) (W.runV (As := [.int (nI pp)]) (rest := []) ⟨hx, hb, hml, hown, ht⟩ (c_M_countOf l D cI cB m0 m1 m2 m3 m4 m5 m6 n k e su pd ob T hM pp hpp) (cwV 1 ht (gd_V wd443 wd445 wp17 wd6 wd446) rfl rfl rfl (by decide +kernel) ⟨Nat.le_of_ble_eq_true rfl, Nat.le_of_ble_eq_true rfl⟩) (zz_R_V hN hK (hP.sub (ws' := [(m0, .inr (5, [.int (nI T.length), .ref m1, .ref m2, .ref m3, .int (nI n), .ref m4, .int (nI e), .int (nI k), .ref m5, .ref m6])), (m1, .inl (cI, 400, .inl su)), (m2, .inl (cI, 400, .inl pd)), (m3, .inl (cI, 400, .inl ob))]) [0, 1, 2, 3] rfl) 5 0 rfl rfl) rfl rfl hl.1 rfl (lv_room (Nat.le_of_ble_eq_true rfl)) dM_estimate_66 ⟨Nat.le_of_ble_eq_true rfl, Nat.le_of_ble_eq_true rfl⟩) ?_
                refine lv_i2l (v := lN (T.countP (isp pp))) hx hb dM_estimate_69 (nI_l (n := T.countP (isp pp)) (by omega)) ?_
                refine lv_aload_n hx hb dM_estimate_70 rfl (lv_at hl 0 rfl) ?_
                refine lv_iload_n hx hb dM_estimate_71 rfl (lv_at hl 3 rfl) ?_
                refine zz_ci (v := nI (T.countP (isp qq))) (W.runV (As := [.int (nI qq)]) (rest := [.long (lN (T.countP (isp pp)))]) ⟨hx, hb, hml, hown, ht⟩ (c_M_countOf l D cI cB m0 m1 m2 m3 m4 m5 m6 n k e su pd ob T hM qq hqq) (cwV 1 ht (gd_V wd443 wd445 wp17 wd6 wd446) rfl rfl rfl (by decide +kernel) ⟨Nat.le_of_ble_eq_true rfl, Nat.le_of_ble_eq_true rfl⟩) (zz_R_V hN hK (hP.sub (ws' := [(m0, .inr (5, [.int (nI T.length), .ref m1, .ref m2, .ref m3, .int (nI n), .ref m4, .int (nI e), .int (nI k), .ref m5, .ref m6])), (m1, .inl (cI, 400, .inl su)), (m2, .inl (cI, 400, .inl pd)), (m3, .inl (cI, 400, .inl ob))]) [0, 1, 2, 3] rfl) 5 0 rfl rfl) rfl rfl hl.1 rfl (lv_room (Nat.le_of_ble_eq_true rfl)) dM_estimate_72 ⟨Nat.le_of_ble_eq_true rfl, Nat.le_of_ble_eq_true rfl⟩) ?_
                refine lv_i2l (v := lN (T.countP (isp qq))) hx hb dM_estimate_75 (nI_l (n := T.countP (isp qq)) (by omega)) ?_
                refine lv_lmul hx hb dM_estimate_76 ?_
                refine zz_topl (y := lN ((T.countP (isp pp)) * (T.countP (isp qq)))) (lN_mul (T.countP (isp pp)) (T.countP (isp qq))) ?_
                refine lv_lstore (lv' := [(4, .long (lN ((T.countP (isp pp)) * (T.countP (isp qq))))), (0, .ref m0), (1, .int op), (2, .int (nI pp)), (3, .int (nI qq))]) hx hb dM_estimate_77 hl (by decide) rfl (fun ls hl => ?_)
                refine lv_lload hx hb dM_estimate_79 (lv_at hl 0 rfl) ?_
                refine lv_aload_n hx hb dM_estimate_81 rfl (lv_at hl 1 rfl) ?_
                refine lv_iconst (v := nI 1) hx hb dM_estimate_82 (by decide) ?_
                refine lv_iload_n hx hb dM_estimate_83 rfl (lv_at hl 3 rfl) ?_
                refine lv_ishl hx hb dM_estimate_84 ?_
                refine zz_top (y := nI (2 ^ pp)) (zz_shl1 _ hpp) ?_
                refine lv_iconst (v := nI 0) hx hb dM_estimate_85 (by decide) ?_
                refine zz_wi (wc := [(m0, .inr (5, [.int (nI T.length), .ref m1, .ref m2, .ref m3, .int (nI n), .ref m4, .int (nI e), .int (nI k), .ref m5, .ref m6])), (m1, .inl (cI, 400, .inl su)), (m2, .inl (cI, 400, .inl pd)), (m3, .inl (cI, 400, .inl ob)), (m6, .inl (cB, 256, .inl se))]) (wr := []) (va_runV (As := [.int (nI (2 ^ pp)), .int (nI false.toNat)]) (rest := [.long (lN ((T.countP (isp pp)) * (T.countP (isp qq))))]) ⟨hx, hb, hml, hown, ht⟩ (c_M_different l D cI cB s.heap.size m0 m1 m2 m3 m4 m5 m6 n k e su pd ob T hM se (2 ^ pp) (pow8 pp hpp) false) (cwV 2 ht (gd_V wd447 wd449 wp18 wd6 wd450) rfl rfl rfl (by decide +kernel) ⟨Nat.le_of_ble_eq_true rfl, Nat.le_of_ble_eq_true rfl⟩) (zz_P_V hN hK (hP.sub (ws' := [(m0, .inr (5, [.int (nI T.length), .ref m1, .ref m2, .ref m3, .int (nI n), .ref m4, .int (nI e), .int (nI k), .ref m5, .ref m6])), (m1, .inl (cI, 400, .inl su)), (m2, .inl (cI, 400, .inl pd)), (m3, .inl (cI, 400, .inl ob)), (m6, .inl (cB, 256, .inl se))]) [0, 1, 2, 3, 4] rfl) (hD.sub (ws' := [(m0, .inr (5, [.int (nI T.length), .ref m1, .ref m2, .ref m3, .int (nI n), .ref m4, .int (nI e), .int (nI k), .ref m5, .ref m6])), (m1, .inl (cI, 400, .inl su)), (m2, .inl (cI, 400, .inl pd)), (m3, .inl (cI, 400, .inl ob)), (m6, .inl (cB, 256, .inl se))]) [0, 1, 2, 3, 4] (by decide) rfl) 5 0 rfl rfl) rfl rfl hl.1 rfl (lv_room (Nat.le_of_ble_eq_true rfl)) dM_estimate_86 ⟨Nat.le_of_ble_eq_true rfl, Nat.le_of_ble_eq_true rfl⟩) hP hD hS hA [0, 1, 2, 3, 4] [] rfl rfl (by decide) (by decide) (fun r86 u86 H locs hq86 hP hD hS => ?_)
                have hP := hP.sub (ws' := [(m0, .inr (5, [.int (nI T.length), .ref m1, .ref m2, .ref m3, .int (nI n), .ref m4, .int (nI e), .int (nI k), .ref m5, .ref m6])), (m1, .inl (cI, 400, .inl su)), (m2, .inl (cI, 400, .inl pd)), (m3, .inl (cI, 400, .inl ob)), (m6, .inl (cB, 256, .inl u86))]) [0, 1, 2, 3, 4] rfl
                have hD := hD.sub (ws' := [(m0, .inr (5, [.int (nI T.length), .ref m1, .ref m2, .ref m3, .int (nI n), .ref m4, .int (nI e), .int (nI k), .ref m5, .ref m6])), (m1, .inl (cI, 400, .inl su)), (m2, .inl (cI, 400, .inl pd)), (m3, .inl (cI, 400, .inl ob)), (m6, .inl (cB, 256, .inl u86))]) [0, 1, 2, 3, 4] (by decide) rfl
                refine zz_top (y := nI (cnt (MA T (2 ^ pp) false) 256)) (hq86) ?_
                refine lv_aload_n hx hb dM_estimate_89 rfl (lv_at hl 1 rfl) ?_
                refine lv_iconst (v := nI 1) hx hb dM_estimate_90 (by decide) ?_
                refine lv_iload_n hx hb dM_estimate_91 rfl (lv_at hl 4 rfl) ?_
                refine lv_ishl hx hb dM_estimate_92 ?_
                refine zz_top (y := nI (2 ^ qq)) (zz_shl1 _ hqq) ?_
                refine lv_iconst (v := nI 1) hx hb dM_estimate_93 (by decide) ?_
                refine zz_wi (wc := [(m0, .inr (5, [.int (nI T.length), .ref m1, .ref m2, .ref m3, .int (nI n), .ref m4, .int (nI e), .int (nI k), .ref m5, .ref m6])), (m1, .inl (cI, 400, .inl su)), (m2, .inl (cI, 400, .inl pd)), (m3, .inl (cI, 400, .inl ob)), (m6, .inl (cB, 256, .inl u86))]) (wr := []) (va_runV (As := [.int (nI (2 ^ qq)), .int (nI true.toNat)]) (rest := [.int (nI (cnt (MA T (2 ^ pp) false) 256)), .long (lN ((T.countP (isp pp)) * (T.countP (isp qq))))]) ⟨hx, hb, hml, hown, ht⟩ (c_M_different l D cI cB H.size m0 m1 m2 m3 m4 m5 m6 n k e su pd ob T hM u86 (2 ^ qq) (pow8 qq hqq) true) (cwV 2 ht (gd_V wd447 wd449 wp18 wd6 wd450) rfl rfl rfl (by decide +kernel) ⟨Nat.le_of_ble_eq_true rfl, Nat.le_of_ble_eq_true rfl⟩) (zz_P_V hN hK (hP.sub (ws' := [(m0, .inr (5, [.int (nI T.length), .ref m1, .ref m2, .ref m3, .int (nI n), .ref m4, .int (nI e), .int (nI k), .ref m5, .ref m6])), (m1, .inl (cI, 400, .inl su)), (m2, .inl (cI, 400, .inl pd)), (m3, .inl (cI, 400, .inl ob)), (m6, .inl (cB, 256, .inl u86))]) [0, 1, 2, 3, 4] rfl) (hD.sub (ws' := [(m0, .inr (5, [.int (nI T.length), .ref m1, .ref m2, .ref m3, .int (nI n), .ref m4, .int (nI e), .int (nI k), .ref m5, .ref m6])), (m1, .inl (cI, 400, .inl su)), (m2, .inl (cI, 400, .inl pd)), (m3, .inl (cI, 400, .inl ob)), (m6, .inl (cB, 256, .inl u86))]) [0, 1, 2, 3, 4] (by decide) rfl) 5 0 rfl rfl) rfl rfl hl.1 rfl (lv_room (Nat.le_of_ble_eq_true rfl)) dM_estimate_94 ⟨Nat.le_of_ble_eq_true rfl, Nat.le_of_ble_eq_true rfl⟩) hP hD hS hA [0, 1, 2, 3, 4] [] rfl rfl (by decide) (by decide) (fun r94 u94 H locs hq94 hP hD hS => ?_)
                have hP := hP.sub (ws' := [(m0, .inr (5, [.int (nI T.length), .ref m1, .ref m2, .ref m3, .int (nI n), .ref m4, .int (nI e), .int (nI k), .ref m5, .ref m6])), (m1, .inl (cI, 400, .inl su)), (m2, .inl (cI, 400, .inl pd)), (m3, .inl (cI, 400, .inl ob)), (m6, .inl (cB, 256, .inl u94))]) [0, 1, 2, 3, 4] rfl
                have hD := hD.sub (ws' := [(m0, .inr (5, [.int (nI T.length), .ref m1, .ref m2, .ref m3, .int (nI n), .ref m4, .int (nI e), .int (nI k), .ref m5, .ref m6])), (m1, .inl (cI, 400, .inl su)), (m2, .inl (cI, 400, .inl pd)), (m3, .inl (cI, 400, .inl ob)), (m6, .inl (cB, 256, .inl u94))]) [0, 1, 2, 3, 4] (by decide) rfl
                refine zz_top (y := nI (cnt (MA T (2 ^ qq) true) 256)) (hq94) ?_
                refine zz_ci (v := nI (max 1 (max (cnt (MA T (2 ^ pp) false) 256) (cnt (MA T (2 ^ qq) true) 256)))) (W.runS (As := [.int (nI (cnt (MA T (2 ^ pp) false) 256)), .int (nI (cnt (MA T (2 ^ qq) true) 256))]) (rest := [.long (lN ((T.countP (isp pp)) * (T.countP (isp qq))))]) ⟨hx, hb, hml, hown, ht⟩ (c_M_greatest l _ _ (by omega) (by omega)) (va_cwS 2 ht (gd_S wd510 wd511 wd6 wd512) rfl rfl rfl (by decide +kernel) ⟨Nat.le_of_ble_eq_true rfl, Nat.le_of_ble_eq_true rfl⟩) zz_N_S rfl rfl hl.1 rfl (lv_room (Nat.le_of_ble_eq_true rfl)) dM_estimate_97 ⟨Nat.le_of_ble_eq_true rfl, Nat.le_of_ble_eq_true rfl⟩) ?_
                refine lv_i2l (v := lN (max 1 (max (cnt (MA T (2 ^ pp) false) 256) (cnt (MA T (2 ^ qq) true) 256)))) hx hb dM_estimate_100 (nI_l (n := max 1 (max (cnt (MA T (2 ^ pp) false) 256) (cnt (MA T (2 ^ qq) true) 256))) (by omega)) ?_
                refine lv_ldiv hx hb dM_estimate_101 (zz_lne0 (by omega) (by omega)) ?_
                refine zz_topl (y := lN (((T.countP (isp pp)) * (T.countP (isp qq))) / (max 1 (max (cnt (MA T (2 ^ pp) false) 256) (cnt (MA T (2 ^ qq) true) 256))))) (pk_lDiv (a := (T.countP (isp pp)) * (T.countP (isp qq))) (b := max 1 (max (cnt (MA T (2 ^ pp) false) 256) (cnt (MA T (2 ^ qq) true) 256))) (by omega) (by omega) (by omega)) ?_
                refine lv_lstore (lv' := [(6, .long (lN (((T.countP (isp pp)) * (T.countP (isp qq))) / (max 1 (max (cnt (MA T (2 ^ pp) false) 256) (cnt (MA T (2 ^ qq) true) 256)))))), (4, .long (lN ((T.countP (isp pp)) * (T.countP (isp qq))))), (0, .ref m0), (1, .int op), (2, .int (nI pp)), (3, .int (nI qq))]) hx hb dM_estimate_102 hl (by decide) rfl (fun ls hl => ?_)
                refine lv_lload hx hb dM_estimate_104 (lv_at hl 1 rfl) ?_
                refine lv_aload_n hx hb dM_estimate_106 rfl (lv_at hl 2 rfl) ?_
                refine lv_iconst (v := nI 1) hx hb dM_estimate_107 (by decide) ?_
                refine lv_iload_n hx hb dM_estimate_108 rfl (lv_at hl 4 rfl) ?_
                refine lv_ishl hx hb dM_estimate_109 ?_
                refine zz_top (y := nI (2 ^ pp)) (zz_shl1 _ hpp) ?_
                refine lv_iconst (v := nI 1) hx hb dM_estimate_110 (by decide) ?_
                refine zz_wi (wc := [(m0, .inr (5, [.int (nI T.length), .ref m1, .ref m2, .ref m3, .int (nI n), .ref m4, .int (nI e), .int (nI k), .ref m5, .ref m6])), (m1, .inl (cI, 400, .inl su)), (m2, .inl (cI, 400, .inl pd)), (m3, .inl (cI, 400, .inl ob)), (m6, .inl (cB, 256, .inl u94))]) (wr := []) (va_runV (As := [.int (nI (2 ^ pp)), .int (nI true.toNat)]) (rest := [.long (lN ((T.countP (isp pp)) * (T.countP (isp qq))))]) ⟨hx, hb, hml, hown, ht⟩ (c_M_different l D cI cB H.size m0 m1 m2 m3 m4 m5 m6 n k e su pd ob T hM u94 (2 ^ pp) (pow8 pp hpp) true) (cwV 2 ht (gd_V wd447 wd449 wp18 wd6 wd450) rfl rfl rfl (by decide +kernel) ⟨Nat.le_of_ble_eq_true rfl, Nat.le_of_ble_eq_true rfl⟩) (zz_P_V hN hK (hP.sub (ws' := [(m0, .inr (5, [.int (nI T.length), .ref m1, .ref m2, .ref m3, .int (nI n), .ref m4, .int (nI e), .int (nI k), .ref m5, .ref m6])), (m1, .inl (cI, 400, .inl su)), (m2, .inl (cI, 400, .inl pd)), (m3, .inl (cI, 400, .inl ob)), (m6, .inl (cB, 256, .inl u94))]) [0, 1, 2, 3, 4] rfl) (hD.sub (ws' := [(m0, .inr (5, [.int (nI T.length), .ref m1, .ref m2, .ref m3, .int (nI n), .ref m4, .int (nI e), .int (nI k), .ref m5, .ref m6])), (m1, .inl (cI, 400, .inl su)), (m2, .inl (cI, 400, .inl pd)), (m3, .inl (cI, 400, .inl ob)), (m6, .inl (cB, 256, .inl u94))]) [0, 1, 2, 3, 4] (by decide) rfl) 5 0 rfl rfl) rfl rfl hl.1 rfl (lv_room (Nat.le_of_ble_eq_true rfl)) dM_estimate_111 ⟨Nat.le_of_ble_eq_true rfl, Nat.le_of_ble_eq_true rfl⟩) hP hD hS hA [0, 1, 2, 3, 4] [] rfl rfl (by decide) (by decide) (fun r111 u111 H locs hq111 hP hD hS => ?_)
                have hP := hP.sub (ws' := [(m0, .inr (5, [.int (nI T.length), .ref m1, .ref m2, .ref m3, .int (nI n), .ref m4, .int (nI e), .int (nI k), .ref m5, .ref m6])), (m1, .inl (cI, 400, .inl su)), (m2, .inl (cI, 400, .inl pd)), (m3, .inl (cI, 400, .inl ob)), (m6, .inl (cB, 256, .inl u111))]) [0, 1, 2, 3, 4] rfl
                have hD := hD.sub (ws' := [(m0, .inr (5, [.int (nI T.length), .ref m1, .ref m2, .ref m3, .int (nI n), .ref m4, .int (nI e), .int (nI k), .ref m5, .ref m6])), (m1, .inl (cI, 400, .inl su)), (m2, .inl (cI, 400, .inl pd)), (m3, .inl (cI, 400, .inl ob)), (m6, .inl (cB, 256, .inl u111))]) [0, 1, 2, 3, 4] (by decide) rfl
                refine zz_top (y := nI (cnt (MA T (2 ^ pp) true) 256)) (hq111) ?_
                refine lv_aload_n hx hb dM_estimate_114 rfl (lv_at hl 2 rfl) ?_
                refine lv_iconst (v := nI 1) hx hb dM_estimate_115 (by decide) ?_
                refine lv_iload_n hx hb dM_estimate_116 rfl (lv_at hl 5 rfl) ?_
                refine lv_ishl hx hb dM_estimate_117 ?_
                refine zz_top (y := nI (2 ^ qq)) (zz_shl1 _ hqq) ?_
                refine lv_iconst (v := nI 1) hx hb dM_estimate_118 (by decide) ?_
                refine zz_wi (wc := [(m0, .inr (5, [.int (nI T.length), .ref m1, .ref m2, .ref m3, .int (nI n), .ref m4, .int (nI e), .int (nI k), .ref m5, .ref m6])), (m1, .inl (cI, 400, .inl su)), (m2, .inl (cI, 400, .inl pd)), (m3, .inl (cI, 400, .inl ob)), (m6, .inl (cB, 256, .inl u111))]) (wr := []) (va_runV (As := [.int (nI (2 ^ qq)), .int (nI true.toNat)]) (rest := [.int (nI (cnt (MA T (2 ^ pp) true) 256)), .long (lN ((T.countP (isp pp)) * (T.countP (isp qq))))]) ⟨hx, hb, hml, hown, ht⟩ (c_M_different l D cI cB H.size m0 m1 m2 m3 m4 m5 m6 n k e su pd ob T hM u111 (2 ^ qq) (pow8 qq hqq) true) (cwV 2 ht (gd_V wd447 wd449 wp18 wd6 wd450) rfl rfl rfl (by decide +kernel) ⟨Nat.le_of_ble_eq_true rfl, Nat.le_of_ble_eq_true rfl⟩) (zz_P_V hN hK (hP.sub (ws' := [(m0, .inr (5, [.int (nI T.length), .ref m1, .ref m2, .ref m3, .int (nI n), .ref m4, .int (nI e), .int (nI k), .ref m5, .ref m6])), (m1, .inl (cI, 400, .inl su)), (m2, .inl (cI, 400, .inl pd)), (m3, .inl (cI, 400, .inl ob)), (m6, .inl (cB, 256, .inl u111))]) [0, 1, 2, 3, 4] rfl) (hD.sub (ws' := [(m0, .inr (5, [.int (nI T.length), .ref m1, .ref m2, .ref m3, .int (nI n), .ref m4, .int (nI e), .int (nI k), .ref m5, .ref m6])), (m1, .inl (cI, 400, .inl su)), (m2, .inl (cI, 400, .inl pd)), (m3, .inl (cI, 400, .inl ob)), (m6, .inl (cB, 256, .inl u111))]) [0, 1, 2, 3, 4] (by decide) rfl) 5 0 rfl rfl) rfl rfl hl.1 rfl (lv_room (Nat.le_of_ble_eq_true rfl)) dM_estimate_119 ⟨Nat.le_of_ble_eq_true rfl, Nat.le_of_ble_eq_true rfl⟩) hP hD hS hA [0, 1, 2, 3, 4] [] rfl rfl (by decide) (by decide) (fun r119 u119 H locs hq119 hP hD hS => ?_)
                have hP := hP.sub (ws' := [(m0, .inr (5, [.int (nI T.length), .ref m1, .ref m2, .ref m3, .int (nI n), .ref m4, .int (nI e), .int (nI k), .ref m5, .ref m6])), (m1, .inl (cI, 400, .inl su)), (m2, .inl (cI, 400, .inl pd)), (m3, .inl (cI, 400, .inl ob)), (m6, .inl (cB, 256, .inl u119))]) [0, 1, 2, 3, 4] rfl
                have hD := hD.sub (ws' := [(m0, .inr (5, [.int (nI T.length), .ref m1, .ref m2, .ref m3, .int (nI n), .ref m4, .int (nI e), .int (nI k), .ref m5, .ref m6])), (m1, .inl (cI, 400, .inl su)), (m2, .inl (cI, 400, .inl pd)), (m3, .inl (cI, 400, .inl ob)), (m6, .inl (cB, 256, .inl u119))]) [0, 1, 2, 3, 4] (by decide) rfl
                refine zz_top (y := nI (cnt (MA T (2 ^ qq) true) 256)) (hq119) ?_
                refine zz_ci (v := nI (max 1 (max (cnt (MA T (2 ^ pp) true) 256) (cnt (MA T (2 ^ qq) true) 256)))) (W.runS (As := [.int (nI (cnt (MA T (2 ^ pp) true) 256)), .int (nI (cnt (MA T (2 ^ qq) true) 256))]) (rest := [.long (lN ((T.countP (isp pp)) * (T.countP (isp qq))))]) ⟨hx, hb, hml, hown, ht⟩ (c_M_greatest l _ _ (by omega) (by omega)) (va_cwS 2 ht (gd_S wd510 wd511 wd6 wd512) rfl rfl rfl (by decide +kernel) ⟨Nat.le_of_ble_eq_true rfl, Nat.le_of_ble_eq_true rfl⟩) zz_N_S rfl rfl hl.1 rfl (lv_room (Nat.le_of_ble_eq_true rfl)) dM_estimate_122 ⟨Nat.le_of_ble_eq_true rfl, Nat.le_of_ble_eq_true rfl⟩) ?_
                refine lv_i2l (v := lN (max 1 (max (cnt (MA T (2 ^ pp) true) 256) (cnt (MA T (2 ^ qq) true) 256)))) hx hb dM_estimate_125 (nI_l (n := max 1 (max (cnt (MA T (2 ^ pp) true) 256) (cnt (MA T (2 ^ qq) true) 256))) (by omega)) ?_
                refine lv_ldiv hx hb dM_estimate_126 (zz_lne0 (by omega) (by omega)) ?_
                refine zz_topl (y := lN (((T.countP (isp pp)) * (T.countP (isp qq))) / (max 1 (max (cnt (MA T (2 ^ pp) true) 256) (cnt (MA T (2 ^ qq) true) 256))))) (pk_lDiv (a := (T.countP (isp pp)) * (T.countP (isp qq))) (b := max 1 (max (cnt (MA T (2 ^ pp) true) 256) (cnt (MA T (2 ^ qq) true) 256))) (by omega) (by omega) (by omega)) ?_
                refine lv_lstore (lv' := [(8, .long (lN (((T.countP (isp pp)) * (T.countP (isp qq))) / (max 1 (max (cnt (MA T (2 ^ pp) true) 256) (cnt (MA T (2 ^ qq) true) 256)))))), (6, .long (lN (((T.countP (isp pp)) * (T.countP (isp qq))) / (max 1 (max (cnt (MA T (2 ^ pp) false) 256) (cnt (MA T (2 ^ qq) true) 256)))))), (4, .long (lN ((T.countP (isp pp)) * (T.countP (isp qq))))), (0, .ref m0), (1, .int op), (2, .int (nI pp)), (3, .int (nI qq))]) hx hb dM_estimate_127 hl (by decide) rfl (fun ls hl => ?_)
                refine lv_iload_n hx hb dM_estimate_129 rfl (lv_at hl 4 rfl) ?_
                refine lv_if_ne (tgt := 138) hx hb dM_estimate_130 (by decide) (fun c130 => ?_) (fun c130 => ?_)
                · -- taken
                  refine lv_iload_n hx hb dM_estimate_138 rfl (lv_at hl 4 rfl) ?_
                  refine lv_iconst (v := nI 1) hx hb dM_estimate_139 (by decide) ?_
                  refine lv_icmp_ne (tgt := 148) hx hb dM_estimate_140 (by decide) (fun c140 => ?_) (fun c140 => ?_)
                  · -- taken
                    have h2 : op = nI 2 := by
                      obtain ⟨j, hj, ejj⟩ := zz_in (n := 5) (by decide) c1 (fun q => c6 (by
                        have a := Int32.le_iff_toInt_le.mp q
                        rw [Int32.lt_iff_toInt_lt]
                        have e4 : (nI 4).toInt = 4 := rfl
                        have e5 : (nI 5).toInt = 5 := rfl
                        omega))
                      rcases (show j = 0 ∨ j = 1 ∨ j = 2 ∨ j = 3 ∨ j = 4 by omega) with q | q | q | q | q <;> subst q
                      · exact absurd ejj c130
                      · exact absurd ejj c140
                      · exact ejj
                      · exact absurd ejj c34
                      · exact absurd ejj c48
                    refine lv_aload_n hx hb dM_estimate_148 rfl (lv_at hl 3 rfl) ?_
                    refine lv_iload_n hx hb dM_estimate_149 rfl (lv_at hl 5 rfl) ?_
                    refine zz_ci (v := nI (T.countP (isp pp))) (W.runV (As := [.int (nI pp)]) (rest := []) ⟨hx, hb, hml, hown, ht⟩ (c_M_countOf l D cI cB m0 m1 m2 m3 m4 m5 m6 n k e su pd ob T hM pp hpp) (cwV 1 ht (gd_V wd443 wd445 wp17 wd6 wd446) rfl rfl rfl (by decide +kernel) ⟨Nat.le_of_ble_eq_true rfl, Nat.le_of_ble_eq_true rfl⟩) (zz_R_V hN hK (hP.sub (ws' := [(m0, .inr (5, [.int (nI T.length), .ref m1, .ref m2, .ref m3, .int (nI n), .ref m4, .int (nI e), .int (nI k), .ref m5, .ref m6])), (m1, .inl (cI, 400, .inl su)), (m2, .inl (cI, 400, .inl pd)), (m3, .inl (cI, 400, .inl ob))]) [0, 1, 2, 3] rfl) 5 0 rfl rfl) rfl rfl hl.1 rfl (lv_room (Nat.le_of_ble_eq_true rfl)) dM_estimate_150 ⟨Nat.le_of_ble_eq_true rfl, Nat.le_of_ble_eq_true rfl⟩) ?_
                    refine lv_aload_n hx hb dM_estimate_153 rfl (lv_at hl 3 rfl) ?_
                    refine lv_iload_n hx hb dM_estimate_154 rfl (lv_at hl 6 rfl) ?_
                    refine zz_ci (v := nI (T.countP (isp qq))) (W.runV (As := [.int (nI qq)]) (rest := [.int (nI (T.countP (isp pp)))]) ⟨hx, hb, hml, hown, ht⟩ (c_M_countOf l D cI cB m0 m1 m2 m3 m4 m5 m6 n k e su pd ob T hM qq hqq) (cwV 1 ht (gd_V wd443 wd445 wp17 wd6 wd446) rfl rfl rfl (by decide +kernel) ⟨Nat.le_of_ble_eq_true rfl, Nat.le_of_ble_eq_true rfl⟩) (zz_R_V hN hK (hP.sub (ws' := [(m0, .inr (5, [.int (nI T.length), .ref m1, .ref m2, .ref m3, .int (nI n), .ref m4, .int (nI e), .int (nI k), .ref m5, .ref m6])), (m1, .inl (cI, 400, .inl su)), (m2, .inl (cI, 400, .inl pd)), (m3, .inl (cI, 400, .inl ob))]) [0, 1, 2, 3] rfl) 5 0 rfl rfl) rfl rfl hl.1 rfl (lv_room (Nat.le_of_ble_eq_true rfl)) dM_estimate_155 ⟨Nat.le_of_ble_eq_true rfl, Nat.le_of_ble_eq_true rfl⟩) ?_
                    refine lv_iadd hx hb dM_estimate_158 ?_
                    refine zz_top (y := nI ((T.countP (isp pp)) + (T.countP (isp qq)))) (nI_add (T.countP (isp pp)) (T.countP (isp qq))) ?_
                    refine lv_i2l (v := lN ((T.countP (isp pp)) + (T.countP (isp qq)))) hx hb dM_estimate_159 (nI_l (n := (T.countP (isp pp)) + (T.countP (isp qq))) (by omega)) ?_
                    exact zz_lretW (v := lN ((T.countP (isp pp)) + (T.countP (isp qq)))) (w1 := fun u : (Nat → Int32) => [(m0, .inr (5, [.int (nI T.length), .ref m1, .ref m2, .ref m3, .int (nI n), .ref m4, .int (nI e), .int (nI k), .ref m5, .ref m6])), (m1, .inl (cI, 400, .inl su)), (m2, .inl (cI, 400, .inl pd)), (m3, .inl (cI, 400, .inl ob)), (m6, .inl (cB, 256, .inl u))]) u119 hx hb hr hlocks (Or.inr ⟨pp, hpp, epp, Or.inr ⟨c34, Or.inr ⟨qq, hqq, eqq, Or.inr (Or.inr (Or.inr (Or.inl ⟨h2, rfl⟩)))⟩⟩⟩) hP hK hD hS dM_estimate_160
                  · -- not taken
                    refine lv_lload hx hb dM_estimate_143 (lv_at hl 0 rfl) ?_
                    refine lv_goto (tgt := 160) hx hb dM_estimate_145 (by decide) ?_
                    exact zz_lretW (v := lN (((T.countP (isp pp)) * (T.countP (isp qq))) / (max 1 (max (cnt (MA T (2 ^ pp) true) 256) (cnt (MA T (2 ^ qq) true) 256))))) (w1 := fun u : (Nat → Int32) => [(m0, .inr (5, [.int (nI T.length), .ref m1, .ref m2, .ref m3, .int (nI n), .ref m4, .int (nI e), .int (nI k), .ref m5, .ref m6])), (m1, .inl (cI, 400, .inl su)), (m2, .inl (cI, 400, .inl pd)), (m3, .inl (cI, 400, .inl ob)), (m6, .inl (cB, 256, .inl u))]) u119 hx hb hr hlocks (Or.inr ⟨pp, hpp, epp, Or.inr ⟨c34, Or.inr ⟨qq, hqq, eqq, Or.inr (Or.inr (Or.inl ⟨c140, rfl⟩))⟩⟩⟩) hP hK hD hS dM_estimate_160
                · -- not taken
                  refine lv_lload hx hb dM_estimate_133 (lv_at hl 1 rfl) ?_
                  refine lv_goto (tgt := 160) hx hb dM_estimate_135 (by decide) ?_
                  exact zz_lretW (v := lN (((T.countP (isp pp)) * (T.countP (isp qq))) / (max 1 (max (cnt (MA T (2 ^ pp) false) 256) (cnt (MA T (2 ^ qq) true) 256))))) (w1 := fun u : (Nat → Int32) => [(m0, .inr (5, [.int (nI T.length), .ref m1, .ref m2, .ref m3, .int (nI n), .ref m4, .int (nI e), .int (nI k), .ref m5, .ref m6])), (m1, .inl (cI, 400, .inl su)), (m2, .inl (cI, 400, .inl pd)), (m3, .inl (cI, 400, .inl ob)), (m6, .inl (cB, 256, .inl u))]) u119 hx hb hr hlocks (Or.inr ⟨pp, hpp, epp, Or.inr ⟨c34, Or.inr ⟨qq, hqq, eqq, Or.inr (Or.inl ⟨c130, rfl⟩)⟩⟩⟩) hP hK hD hS dM_estimate_160
              · -- not taken
                refine lv_ldc2 (v := 16) hx hb hown (ht _ wd509) dM_estimate_51 ?_
                refine zz_topl (y := lN 16) (rfl) ?_
                refine lv_aload_n hx hb dM_estimate_54 rfl (lv_at hl 0 rfl) ?_
                refine lv_iload_n hx hb dM_estimate_55 rfl (lv_at hl 2 rfl) ?_
                refine lv_iload_n hx hb dM_estimate_56 rfl (lv_at hl 3 rfl) ?_
                refine lv_iconst (v := nI 1) hx hb dM_estimate_57 (by decide) ?_
                refine lv_iconst (v := nI 1) hx hb dM_estimate_58 (by decide) ?_
                refine zz_cl (v := lN (sumf (prs T pp qq true true) T)) (W.runV (As := [.int (nI pp), .int (nI qq), .int (nI true.toNat), .int (nI true.toNat)]) (rest := [.long (lN 16)]) ⟨hx, hb, hml, hown, ht⟩ (c_M_pairs l D cI cB m0 m1 m2 m3 m4 m5 m6 n k e su pd ob T hM pp qq hpp hqq true true) (cwV 4 ht (gd_V wd455 wd457 wp19 wd6 wd458) rfl rfl rfl (by decide +kernel) ⟨Nat.le_of_ble_eq_true rfl, Nat.le_of_ble_eq_true rfl⟩) (zz_R_V hN hK (hP.sub (ws' := [(m0, .inr (5, [.int (nI T.length), .ref m1, .ref m2, .ref m3, .int (nI n), .ref m4, .int (nI e), .int (nI k), .ref m5, .ref m6])), (m1, .inl (cI, 400, .inl su)), (m2, .inl (cI, 400, .inl pd)), (m3, .inl (cI, 400, .inl ob))]) [0, 1, 2, 3] rfl) 5 0 rfl rfl) rfl rfl hl.1 rfl (lv_room (Nat.le_of_ble_eq_true rfl)) dM_estimate_59 ⟨Nat.le_of_ble_eq_true rfl, Nat.le_of_ble_eq_true rfl⟩) ?_
                refine lv_lmul hx hb dM_estimate_62 ?_
                refine zz_topl (y := lN (16 * (sumf (prs T pp qq true true) T))) (lN_mul 16 (sumf (prs T pp qq true true) T)) ?_
                exact zz_lretW (v := lN (16 * (sumf (prs T pp qq true true) T))) (w1 := fun u : (Nat → Int32) => [(m0, .inr (5, [.int (nI T.length), .ref m1, .ref m2, .ref m3, .int (nI n), .ref m4, .int (nI e), .int (nI k), .ref m5, .ref m6])), (m1, .inl (cI, 400, .inl su)), (m2, .inl (cI, 400, .inl pd)), (m3, .inl (cI, 400, .inl ob)), (m6, .inl (cB, 256, .inl u))]) se hx hb hr hlocks (Or.inr ⟨pp, hpp, epp, Or.inr ⟨c34, Or.inr ⟨qq, hqq, eqq, Or.inr (Or.inr (Or.inr (Or.inr ⟨c48, rfl⟩)))⟩⟩⟩) hP hK hD hS dM_estimate_63
            · -- not taken
              exact absurd c34 c18
          · -- not taken
            have c25 : (inr_ 8 p2).toNat = 0 := (nI_eq (a := (inr_ 8 p2).toNat) (b := 0) (by omega) (by omega)).mp c25
            have hb2 : inr_ 8 p2 = false := bt0 (by omega)
            refine lv_ldc2 (v := (-1)) hx hb hown (ht _ wd468) dM_estimate_28 ?_
            exact zz_lretW (v := (-1)) (w1 := fun u : (Nat → Int32) => [(m0, .inr (5, [.int (nI T.length), .ref m1, .ref m2, .ref m3, .int (nI n), .ref m4, .int (nI e), .int (nI k), .ref m5, .ref m6])), (m1, .inl (cI, 400, .inl su)), (m2, .inl (cI, 400, .inl pd)), (m3, .inl (cI, 400, .inl ob)), (m6, .inl (cB, 256, .inl u))]) se hx hb hr hlocks (Or.inr ⟨pp, hpp, epp, Or.inr ⟨c18, Or.inl ⟨hb2, rfl⟩⟩⟩) hP hK hD hS dM_estimate_31

abbrev rm_M_range : Room := { frames := 1, cells := 0, slots := 0, locals := 25 }
set_option maxHeartbeats 4000000 in
set_option maxRecDepth 100000 in
theorem c_M_range (l : Launch) (D : va_G) (cI cB : ClassId) (m0 m1 m2 m3 m4 m5 m6 n k e : Nat) (su pd ob : Nat → Int32) (T : List Nat) (hM : RM T su pd ob) (p1 fr to : Int32) : Met l yM_range wM_range rm_M_range (zz_R D vwCl [(cI, .int), (cB, .boolean)] [.ref m0, .int p1, .int fr, .int to] [(m0, .inr (5, [.int (nI T.length), .ref m1, .ref m2, .ref m3, .int (nI n), .ref m4, .int (nI e), .int (nI k), .ref m5, .ref m6])), (m1, .inl (cI, 400, .inl su)), (m2, .inl (cI, 400, .inl pd)), (m3, .inl (cI, 400, .inl ob))]) (vp_Si (fun r : Int32 => (inr_ 8 p1 = false ∧ r = -1) ∨ ∃ pp, pp < 8 ∧ p1 = nI pp ∧ r = nI (mrg T pp fr to 8))) 0 0 (fun _ => False) := by
  refine Met.ofW (cc := cM_range) (maxL := 8) (ret := (some .int)) (by decide) rfl ?_
  intro pg ev s mt args below meth kd s₁ B hml hv
  obtain ⟨rfl, hP, hK, hN⟩ := hv
  have hx := B.exec
  have hb := B.bytes
  have hr := B.returns
  have ht : ∀ w ∈ W0, w.before _ s = true := fun w h => atoms_spec (ws := wM_range) B.pre w (List.mem_cons_of_mem _ h)
  have hown : s.vm.findClass "StatRowsModel" = some mt.cls := findClass_of_methodNamed B.named
  have hlocks := B.notSynchronized
  have hl := lv_entry ([.ref m0, .int p1, .int fr, .int to]) (n := 8) (Nat.le_of_ble_eq_true rfl)
  rw [lg_entry_eq]
  generalize (lg_sl ([.ref m0, .int p1, .int fr, .int to]) ++ List.replicate (8 - (lg_sl ([.ref m0, .int p1, .int fr, .int to])).length) Slot.unset).toArray = ls at hl ⊢
  have hl : lv_has ls 8 [(0, .ref m0), (1, .int p1), (2, .int fr), (3, .int to)] := hl
  have hM4 := hM.2.1
  have bl0 := btl (inr_ 8 p1)
  refine lv_iload_n hx hb dM_range_0 rfl (lv_at hl 1 rfl) ?_
  refine zz_ci (v := nI ((inr_ 8 p1).toNat)) (W.runS (As := [.int p1]) (rest := []) ⟨hx, hb, hml, hown, ht⟩ (c_M_isPredicate l p1) (va_cwS 1 ht (gd_S wd428 wd429 wd6 wd430) rfl rfl rfl (by decide +kernel) ⟨Nat.le_of_ble_eq_true rfl, Nat.le_of_ble_eq_true rfl⟩) zz_N_S rfl rfl hl.1 rfl (lv_room (Nat.le_of_ble_eq_true rfl)) dM_range_1 ⟨Nat.le_of_ble_eq_true rfl, Nat.le_of_ble_eq_true rfl⟩) ?_
  refine lv_if_ne (tgt := 9) hx hb dM_range_4 (by decide) (fun c4 => ?_) (fun c4 => ?_)
  · -- taken
    have c4 : ¬ ((inr_ 8 p1).toNat = 0) := fun h => c4 ((nI_eq (a := (inr_ 8 p1).toNat) (b := 0) (by omega) (by omega)).mpr h)
    have hb1 := bt1 c4
    obtain ⟨pp, hpp, epp⟩ := inr_t (by decide) hb1
    rw [epp] at hl
    refine lv_iconst (v := nI 0) hx hb dM_range_9 (by decide) ?_
    refine lv_istore (lv' := [(4, .int (nI 0)), (0, .ref m0), (1, .int (nI pp)), (2, .int fr), (3, .int to)]) hx hb dM_range_10 hl (by decide) rfl (fun ls hl => ?_)
    refine lv_iconst (v := nI 0) hx hb dM_range_12 (by decide) ?_
    refine lv_istore (lv' := [(5, .int (nI 0)), (4, .int (nI 0)), (0, .ref m0), (1, .int (nI pp)), (2, .int fr), (3, .int to)]) hx hb dM_range_13 hl (by decide) rfl (fun ls hl => ?_)
    have lp15 : ∀ (fu : Nat) (j : Nat) (hj : j ≤ 8) (hm : 8 - j < fu) (ls : Array Slot) (hl : lv_has ls 8 [(0, .ref m0), (1, .int (nI pp)), (2, .int fr), (3, .int to), (4, .int (nI (mrg T pp fr to j))), (5, .int (nI j))]), W pg l ev (headSpec wM_range rm_M_range).room s mt (([.ref m0, .int p1, .int fr, .int to] : List Value).toArray) below meth kd s.heap [] 0 0 (MQ below (vp_Si (fun r : Int32 => (inr_ 8 p1 = false ∧ r = -1) ∨ ∃ pp, pp < 8 ∧ p1 = nI pp ∧ r = nI (mrg T pp fr to 8))) (([.ref m0, .int p1, .int fr, .int to] : List Value).toArray) s 0 0 (fun _ => False)) (F0 mt 15 ls []) := by
      intro fu
      induction fu with
      | zero => intro j hj hm; exact absurd hm (Nat.not_lt_zero _)
      | succ fu ih15 =>
        intro j hj hm ls hl
        refine lv_iload hx hb dM_range_15 (lv_at hl 5 rfl) ?_
        refine lv_bipush (v := nI 8) hx hb dM_range_17 (by decide) ?_
        refine lv_icmp_ge (tgt := 109) hx hb dM_range_19 (by decide) (fun c19 => ?_) (fun c19 => ?_)
        · -- taken
          have c19 : 8 ≤ j := (nI_leI (a := 8) (b := j) (by omega) (by omega)).mp c19
          refine lv_iload hx hb dM_range_109 (lv_at hl 4 rfl) ?_
          exact zz_iretR (v := nI (mrg T pp fr to j)) hx hb hr hlocks (Or.inr ⟨pp, hpp, epp, by rw [show j = 8 by omega]⟩) dM_range_111
        · -- not taken
          have c19 : ¬ (8 ≤ j) := fun h => c19 ((nI_leI (a := 8) (b := j) (by omega) (by omega)).mpr h)
          refine lv_iconst (v := nI 0) hx hb dM_range_22 (by decide) ?_
          refine lv_istore (lv' := [(6, .int (nI 0)), (0, .ref m0), (1, .int (nI pp)), (2, .int fr), (3, .int to), (4, .int (nI (mrg T pp fr to j))), (5, .int (nI j))]) hx hb dM_range_23 hl (by decide) rfl (fun ls hl => ?_)
          refine lv_bipush (v := nI 32) hx hb dM_range_25 (by decide) ?_
          refine lv_iload hx hb dM_range_27 (lv_at hl 6 rfl) ?_
          refine lv_imul hx hb dM_range_29 ?_
          refine zz_top (y := nI (32 * j)) (pk_mul 32 j) ?_
          refine lv_istore (lv' := [(7, .int (nI (32 * j))), (6, .int (nI 0)), (0, .ref m0), (1, .int (nI pp)), (2, .int fr), (3, .int to), (4, .int (nI (mrg T pp fr to j))), (5, .int (nI j))]) hx hb dM_range_30 hl (by decide) rfl (fun ls hl => ?_)
          have lp32 : ∀ (fu : Nat) (i : Nat) (hi : i ≤ 32) (hm : 32 - i < fu) (ls : Array Slot) (hl : lv_has ls 8 [(0, .ref m0), (1, .int (nI pp)), (2, .int fr), (3, .int to), (4, .int (nI (mrg T pp fr to j))), (5, .int (nI j)), (6, .int (nI (cnt (fun x => btw fr to (32 * j + x)) i))), (7, .int (nI (32 * j + i)))]), W pg l ev (headSpec wM_range rm_M_range).room s mt (([.ref m0, .int p1, .int fr, .int to] : List Value).toArray) below meth kd s.heap [] 0 0 (MQ below (vp_Si (fun r : Int32 => (inr_ 8 p1 = false ∧ r = -1) ∨ ∃ pp, pp < 8 ∧ p1 = nI pp ∧ r = nI (mrg T pp fr to 8))) (([.ref m0, .int p1, .int fr, .int to] : List Value).toArray) s 0 0 (fun _ => False)) (F0 mt 32 ls []) := by
            intro fu
            induction fu with
            | zero => intro i hi hm; exact absurd hm (Nat.not_lt_zero _)
            | succ fu ih32 =>
              intro i hi hm ls hl
              refine lv_iload hx hb dM_range_32 (lv_at hl 7 rfl) ?_
              refine lv_bipush (v := nI 32) hx hb dM_range_34 (by decide) ?_
              refine lv_iload hx hb dM_range_36 (lv_at hl 5 rfl) ?_
              refine lv_imul hx hb dM_range_38 ?_
              refine zz_top (y := nI (32 * j)) (pk_mul 32 j) ?_
              refine lv_bipush (v := nI 32) hx hb dM_range_39 (by decide) ?_
              refine lv_iadd hx hb dM_range_41 ?_
              refine zz_top (y := nI ((32 * j) + 32)) (nI_add (32 * j) 32) ?_
              refine lv_icmp_ge (tgt := 74) hx hb dM_range_42 (by decide) (fun c42 => ?_) (fun c42 => ?_)
              · -- taken
                have c42 : (32 * j) + 32 ≤ 32 * j + i := (nI_leI (a := (32 * j) + 32) (b := 32 * j + i) (by omega) (by omega)).mp c42
                have e32 : i = 32 := by omega
                subst e32
                refine lv_iload hx hb dM_range_74 (lv_at hl 4 rfl) ?_
                refine lv_aload_n hx hb dM_range_76 rfl (lv_at hl 0 rfl) ?_
                refine lv_iload_n hx hb dM_range_77 rfl (lv_at hl 1 rfl) ?_
                refine lv_bipush (v := nI 32) hx hb dM_range_78 (by decide) ?_
                refine lv_iload hx hb dM_range_80 (lv_at hl 5 rfl) ?_
                refine lv_imul hx hb dM_range_82 ?_
                refine zz_top (y := nI (32 * j)) (pk_mul 32 j) ?_
                refine lv_bipush (v := nI 32) hx hb dM_range_83 (by decide) ?_
                refine lv_iload hx hb dM_range_85 (lv_at hl 5 rfl) ?_
                refine lv_imul hx hb dM_range_87 ?_
                refine zz_top (y := nI (32 * j)) (pk_mul 32 j) ?_
                refine lv_bipush (v := nI 31) hx hb dM_range_88 (by decide) ?_
                refine lv_iadd hx hb dM_range_90 ?_
                refine zz_top (y := nI ((32 * j) + 31)) (nI_add (32 * j) 31) ?_
                refine zz_ci (v := nI (T.countP (fun C => isp pp C && btw (nI (32 * j)) (nI (32 * j + 31)) (C % 256)))) (W.runV (As := [.int (nI pp), .int (nI (32 * j)), .int (nI ((32 * j) + 31))]) (rest := [.int (nI (mrg T pp fr to j))]) ⟨hx, hb, hml, hown, ht⟩ (c_M_between l D cI cB m0 m1 m2 m3 m4 m5 m6 n k e su pd ob T hM pp hpp (nI (32 * j)) (nI (32 * j + 31))) (cwV 3 ht (gd_V wd477 wd479 wp21 wd6 wd480) rfl rfl rfl (by decide +kernel) ⟨Nat.le_of_ble_eq_true rfl, Nat.le_of_ble_eq_true rfl⟩) (zz_R_V hN hK (hP.sub (ws' := [(m0, .inr (5, [.int (nI T.length), .ref m1, .ref m2, .ref m3, .int (nI n), .ref m4, .int (nI e), .int (nI k), .ref m5, .ref m6])), (m1, .inl (cI, 400, .inl su)), (m2, .inl (cI, 400, .inl pd)), (m3, .inl (cI, 400, .inl ob))]) [0, 1, 2, 3] rfl) 5 0 rfl rfl) rfl rfl hl.1 rfl (lv_room (Nat.le_of_ble_eq_true rfl)) dM_range_91 ⟨Nat.le_of_ble_eq_true rfl, Nat.le_of_ble_eq_true rfl⟩) ?_
                refine lv_iload hx hb dM_range_94 (lv_at hl 6 rfl) ?_
                refine lv_imul hx hb dM_range_96 ?_
                refine zz_top (y := nI ((T.countP (fun C => isp pp C && btw (nI (32 * j)) (nI (32 * j + 31)) (C % 256))) * (many (32 * j) fr to))) (pk_mul (T.countP (fun C => isp pp C && btw (nI (32 * j)) (nI (32 * j + 31)) (C % 256))) (many (32 * j) fr to)) ?_
                have hmm : T.countP (fun C => isp pp C && btw (nI (32 * j)) (nI (32 * j + 31)) (C % 256)) * many (32 * j) fr to ≤ 400 * 32 := Nat.mul_le_mul (Nat.le_trans List.countP_le_length (by omega)) (many_le _ _ _)
                refine lv_bipush (v := nI 32) hx hb dM_range_97 (by decide) ?_
                refine lv_idiv hx hb dM_range_99 (by decide) ?_
                refine zz_top (y := nI (((T.countP (fun C => isp pp C && btw (nI (32 * j)) (nI (32 * j + 31)) (C % 256))) * (many (32 * j) fr to)) / 32)) (pk_div (a := (T.countP (fun C => isp pp C && btw (nI (32 * j)) (nI (32 * j + 31)) (C % 256))) * (many (32 * j) fr to)) (d := 32) (by omega) (by omega) (by omega)) ?_
                refine lv_iadd hx hb dM_range_100 ?_
                refine zz_top (y := nI ((mrg T pp fr to j) + (((T.countP (fun C => isp pp C && btw (nI (32 * j)) (nI (32 * j + 31)) (C % 256))) * (many (32 * j) fr to)) / 32))) (nI_add (mrg T pp fr to j) (((T.countP (fun C => isp pp C && btw (nI (32 * j)) (nI (32 * j + 31)) (C % 256))) * (many (32 * j) fr to)) / 32)) ?_
                refine lv_istore (lv' := [(4, .int (nI ((mrg T pp fr to j) + (((T.countP (fun C => isp pp C && btw (nI (32 * j)) (nI (32 * j + 31)) (C % 256))) * (many (32 * j) fr to)) / 32)))), (0, .ref m0), (1, .int (nI pp)), (2, .int fr), (3, .int to), (5, .int (nI j)), (6, .int (nI (many (32 * j) fr to))), (7, .int (nI (32 * j + 32)))]) hx hb dM_range_101 hl (by decide) rfl (fun ls hl => ?_)
                refine lv_iinc (v := nI (j + 1)) (lv' := [(5, .int (nI (j + 1))), (4, .int (nI ((mrg T pp fr to j) + (((T.countP (fun C => isp pp C && btw (nI (32 * j)) (nI (32 * j + 31)) (C % 256))) * (many (32 * j) fr to)) / 32)))), (0, .ref m0), (1, .int (nI pp)), (2, .int fr), (3, .int to), (6, .int (nI (many (32 * j) fr to))), (7, .int (nI (32 * j + 32)))]) hx hb dM_range_103 hl (k := 5) rfl (nI_1 j) (by decide) rfl (fun ls hl => ?_)
                refine lv_goto (tgt := 15) hx hb dM_range_106 (by decide) ?_
                exact ih15 (j + 1) (by omega) (by omega) ls (lv_sub hl [2, 3, 4, 5, 1, 0] rfl)
              · -- not taken
                have c42 : ¬ ((32 * j) + 32 ≤ 32 * j + i) := fun h => c42 ((nI_leI (a := (32 * j) + 32) (b := 32 * j + i) (by omega) (by omega)).mpr h)
                refine lv_iload hx hb dM_range_45 (lv_at hl 7 rfl) ?_
                refine lv_iload_n hx hb dM_range_47 rfl (lv_at hl 2 rfl) ?_
                refine lv_icmp_lt (tgt := 64) hx hb dM_range_48 (by decide) (fun c48 => ?_) (fun c48 => ?_)
                · -- taken
                  have hbw : btw fr to (32 * j + i) = false := decide_eq_false (fun q => q.1 c48)
                  refine lv_iload hx hb dM_range_64 (lv_at hl 6 rfl) ?_
                  refine zz_top (y := nI (cnt (fun x => btw fr to (32 * j + x)) (i + 1))) (congrArg nI (by rw [cnt_s, hbw]; rfl)) ?_
                  refine lv_istore (lv' := [(6, .int (nI (cnt (fun x => btw fr to (32 * j + x)) (i + 1)))), (0, .ref m0), (1, .int (nI pp)), (2, .int fr), (3, .int to), (4, .int (nI (mrg T pp fr to j))), (5, .int (nI j)), (7, .int (nI (32 * j + i)))]) hx hb dM_range_66 hl (by decide) rfl (fun ls hl => ?_)
                  refine lv_iinc (v := nI (32 * j + i + 1)) (lv' := [(7, .int (nI (32 * j + i + 1))), (6, .int (nI (cnt (fun x => btw fr to (32 * j + x)) (i + 1)))), (0, .ref m0), (1, .int (nI pp)), (2, .int fr), (3, .int to), (4, .int (nI (mrg T pp fr to j))), (5, .int (nI j))]) hx hb dM_range_68 hl (k := 7) rfl (nI_1 (32 * j + i)) (by decide) rfl (fun ls hl => ?_)
                  refine lv_goto (tgt := 32) hx hb dM_range_71 (by decide) ?_
                  exact ih32 (i + 1) (by omega) (by omega) ls (lv_sub hl [2, 3, 4, 5, 6, 7, 1, 0] rfl)
                · -- not taken
                  refine lv_iload hx hb dM_range_51 (lv_at hl 7 rfl) ?_
                  refine lv_iload_n hx hb dM_range_53 rfl (lv_at hl 3 rfl) ?_
                  refine lv_icmp_gt (tgt := 64) hx hb dM_range_54 (by decide) (fun c54 => ?_) (fun c54 => ?_)
                  · -- taken
                    have hbw : btw fr to (32 * j + i) = false := decide_eq_false (fun q => q.2 c54)
                    refine lv_iload hx hb dM_range_64 (lv_at hl 6 rfl) ?_
                    refine zz_top (y := nI (cnt (fun x => btw fr to (32 * j + x)) (i + 1))) (congrArg nI (by rw [cnt_s, hbw]; rfl)) ?_
                    refine lv_istore (lv' := [(6, .int (nI (cnt (fun x => btw fr to (32 * j + x)) (i + 1)))), (0, .ref m0), (1, .int (nI pp)), (2, .int fr), (3, .int to), (4, .int (nI (mrg T pp fr to j))), (5, .int (nI j)), (7, .int (nI (32 * j + i)))]) hx hb dM_range_66 hl (by decide) rfl (fun ls hl => ?_)
                    refine lv_iinc (v := nI (32 * j + i + 1)) (lv' := [(7, .int (nI (32 * j + i + 1))), (6, .int (nI (cnt (fun x => btw fr to (32 * j + x)) (i + 1)))), (0, .ref m0), (1, .int (nI pp)), (2, .int fr), (3, .int to), (4, .int (nI (mrg T pp fr to j))), (5, .int (nI j))]) hx hb dM_range_68 hl (k := 7) rfl (nI_1 (32 * j + i)) (by decide) rfl (fun ls hl => ?_)
                    refine lv_goto (tgt := 32) hx hb dM_range_71 (by decide) ?_
                    exact ih32 (i + 1) (by omega) (by omega) ls (lv_sub hl [2, 3, 4, 5, 6, 7, 1, 0] rfl)
                  · -- not taken
                    have hbw : btw fr to (32 * j + i) = true := decide_eq_true ⟨c48, c54⟩
                    refine lv_iload hx hb dM_range_57 (lv_at hl 6 rfl) ?_
                    refine lv_iconst (v := nI 1) hx hb dM_range_59 (by decide) ?_
                    refine lv_iadd hx hb dM_range_60 ?_
                    refine zz_top (y := nI ((cnt (fun x => btw fr to (32 * j + x)) i) + 1)) (nI_add (cnt (fun x => btw fr to (32 * j + x)) i) 1) ?_
                    refine zz_top (y := nI (cnt (fun x => btw fr to (32 * j + x)) (i + 1))) (congrArg nI (by rw [cnt_s, hbw]; rfl)) ?_
                    refine lv_goto (tgt := 66) hx hb dM_range_61 (by decide) ?_
                    refine lv_istore (lv' := [(6, .int (nI (cnt (fun x => btw fr to (32 * j + x)) (i + 1)))), (0, .ref m0), (1, .int (nI pp)), (2, .int fr), (3, .int to), (4, .int (nI (mrg T pp fr to j))), (5, .int (nI j)), (7, .int (nI (32 * j + i)))]) hx hb dM_range_66 hl (by decide) rfl (fun ls hl => ?_)
                    refine lv_iinc (v := nI (32 * j + i + 1)) (lv' := [(7, .int (nI (32 * j + i + 1))), (6, .int (nI (cnt (fun x => btw fr to (32 * j + x)) (i + 1)))), (0, .ref m0), (1, .int (nI pp)), (2, .int fr), (3, .int to), (4, .int (nI (mrg T pp fr to j))), (5, .int (nI j))]) hx hb dM_range_68 hl (k := 7) rfl (nI_1 (32 * j + i)) (by decide) rfl (fun ls hl => ?_)
                    refine lv_goto (tgt := 32) hx hb dM_range_71 (by decide) ?_
                    exact ih32 (i + 1) (by omega) (by omega) ls (lv_sub hl [2, 3, 4, 5, 6, 7, 1, 0] rfl)
          exact lp32 ((32 - 0) + 1) 0 (Nat.zero_le _) (Nat.lt_succ_self _) ls (lv_sub hl [2, 3, 4, 5, 6, 7, 1, 0] rfl)
    exact lp15 ((8 - 0) + 1) 0 (Nat.zero_le _) (Nat.lt_succ_self _) ls (lv_sub hl [2, 3, 4, 5, 1, 0] rfl)
  · -- not taken
    have c4 : (inr_ 8 p1).toNat = 0 := (nI_eq (a := (inr_ 8 p1).toNat) (b := 0) (by omega) (by omega)).mp c4
    have hb1 : inr_ 8 p1 = false := bt0 (by omega)
    refine lv_iconst (v := (-1)) hx hb dM_range_7 (by decide) ?_
    exact zz_iretR (v := (-1)) hx hb hr hlocks (Or.inl ⟨hb1, rfl⟩) dM_range_8

abbrev rm_M_sample : Room := { frames := 2, cells := 0, slots := 0, locals := 42 }
set_option maxHeartbeats 4000000 in
set_option maxRecDepth 100000 in
theorem c_M_sample (l : Launch) (D : va_G) (cI cB : ClassId) (m0 m1 m2 m3 m4 m5 m6 n k e : Nat) (su pd ob : Nat → Int32) (T : List Nat) (hM : RM T su pd ob) (p1 i1 : Int32) (SS : Nat → List Nat) (hSs : ∀ p, p < 8 → ∀ i j, i < j → j < (SS p).length → (SS p).getD i 0 < (SS p).getD j 0) (hSm : ∀ p, p < 8 → ∀ c, c ∈ SS p ↔ ∃ i, i < T.length ∧ T.getD i 0 / 65536 = p ∧ T.getD i 0 % 65536 = c ∧ smp c = true) (hSl : ∀ p, p < 8 → (SS p).length ≤ 400) : Met l yM_sample wM_sample rm_M_sample (zz_R D vwCl [(cI, .int), (cB, .boolean)] [.ref m0, .int p1, .int i1] [(m0, .inr (5, [.int (nI T.length), .ref m1, .ref m2, .ref m3, .int (nI n), .ref m4, .int (nI e), .int (nI k), .ref m5, .ref m6])), (m1, .inl (cI, 400, .inl su)), (m2, .inl (cI, 400, .inl pd)), (m3, .inl (cI, 400, .inl ob))]) (vp_Si (fun r : Int32 => (inr_ 8 p1 = false ∧ r = -1) ∨ ∃ pp, pp < 8 ∧ p1 = nI pp ∧ ((∃ ii, ii < (SS pp).length ∧ i1 = nI ii ∧ r = nI ((SS pp).getD ii 0)) ∨ ((∀ ii, ii < (SS pp).length → i1 ≠ nI ii) ∧ r = -2)))) 0 0 (fun _ => False) := by
  refine Met.ofW (cc := cM_sample) (maxL := 8) (ret := (some .int)) (by decide) rfl ?_
  intro pg ev s mt args below meth kd s₁ B hml hv
  obtain ⟨rfl, hP, hK, hN⟩ := hv
  have hx := B.exec
  have hb := B.bytes
  have hr := B.returns
  have ht : ∀ w ∈ W0, w.before _ s = true := fun w h => atoms_spec (ws := wM_sample) B.pre w (List.mem_cons_of_mem _ h)
  have hown : s.vm.findClass "StatRowsModel" = some mt.cls := findClass_of_methodNamed B.named
  have hlocks := B.notSynchronized
  have hl := lv_entry ([.ref m0, .int p1, .int i1]) (n := 8) (Nat.le_of_ble_eq_true rfl)
  rw [lg_entry_eq]
  generalize (lg_sl ([.ref m0, .int p1, .int i1]) ++ List.replicate (8 - (lg_sl ([.ref m0, .int p1, .int i1])).length) Slot.unset).toArray = ls at hl ⊢
  have hl : lv_has ls 8 [(0, .ref m0), (1, .int p1), (2, .int i1)] := hl
  have hM4 := hM.2.1
  have bl0 := btl (inr_ 8 p1)
  refine lv_iload_n hx hb dM_sample_0 rfl (lv_at hl 1 rfl) ?_
  refine zz_ci (v := nI ((inr_ 8 p1).toNat)) (W.runS (As := [.int p1]) (rest := []) ⟨hx, hb, hml, hown, ht⟩ (c_M_isPredicate l p1) (va_cwS 1 ht (gd_S wd428 wd429 wd6 wd430) rfl rfl rfl (by decide +kernel) ⟨Nat.le_of_ble_eq_true rfl, Nat.le_of_ble_eq_true rfl⟩) zz_N_S rfl rfl hl.1 rfl (lv_room (Nat.le_of_ble_eq_true rfl)) dM_sample_1 ⟨Nat.le_of_ble_eq_true rfl, Nat.le_of_ble_eq_true rfl⟩) ?_
  refine lv_if_ne (tgt := 9) hx hb dM_sample_4 (by decide) (fun c4 => ?_) (fun c4 => ?_)
  · -- taken
    have c4 : ¬ ((inr_ 8 p1).toNat = 0) := fun h => c4 ((nI_eq (a := (inr_ 8 p1).toNat) (b := 0) (by omega) (by omega)).mpr h)
    have hb1 := bt1 c4
    obtain ⟨pp, hpp, epp⟩ := inr_t (by decide) hb1
    rw [epp] at hl
    refine lv_iconst (v := (-1)) hx hb dM_sample_9 (by decide) ?_
    refine lv_istore_n (lv' := [(3, .int (-1)), (0, .ref m0), (1, .int (nI pp)), (2, .int i1)]) hx hb dM_sample_10 rfl hl (by decide) rfl (fun ls hl => ?_)
    refine lv_iconst (v := nI 0) hx hb dM_sample_11 (by decide) ?_
    refine lv_istore (lv' := [(4, .int (nI 0)), (3, .int (-1)), (0, .ref m0), (1, .int (nI pp)), (2, .int i1)]) hx hb dM_sample_12 hl (by decide) rfl (fun ls hl => ?_)
    have lp14 : ∀ (fu : Nat) (x : Nat) (lst : Int32) (hx2 : x ≤ (SS pp).length) (hlst : ∀ c, c < 65536 → (lst < nI c ↔ (x = 0 ∨ (SS pp).getD (x - 1) 0 < c))) (hlv : 0 < x → lst = nI ((SS pp).getD (x - 1) 0)) (hxi : 0 < x → nI (x - 1) ≤ i1) (hm : (SS pp).length + 1 - x < fu) (ls : Array Slot) (hl : lv_has ls 8 [(0, .ref m0), (1, .int (nI pp)), (2, .int i1), (3, .int lst), (4, .int (nI x))]), W pg l ev (headSpec wM_sample rm_M_sample).room s mt (([.ref m0, .int p1, .int i1] : List Value).toArray) below meth kd s.heap [] 0 0 (MQ below (vp_Si (fun r : Int32 => (inr_ 8 p1 = false ∧ r = -1) ∨ ∃ pp, pp < 8 ∧ p1 = nI pp ∧ ((∃ ii, ii < (SS pp).length ∧ i1 = nI ii ∧ r = nI ((SS pp).getD ii 0)) ∨ ((∀ ii, ii < (SS pp).length → i1 ≠ nI ii) ∧ r = -2)))) (([.ref m0, .int p1, .int i1] : List Value).toArray) s 0 0 (fun _ => False)) (F0 mt 14 ls []) := by
      intro fu
      induction fu with
      | zero => intro x lst hx2 hlst hlv hxi hm; exact absurd hm (Nat.not_lt_zero _)
      | succ fu ih14 =>
        intro x lst hx2 hlst hlv hxi hm ls hl
        have hsl := hSl pp hpp
        refine lv_iload hx hb dM_sample_14 (lv_at hl 4 rfl) ?_
        refine lv_iload_n hx hb dM_sample_16 rfl (lv_at hl 2 rfl) ?_
        refine lv_icmp_gt (tgt := 124) hx hb dM_sample_17 (by decide) (fun c17 => ?_) (fun c17 => ?_)
        · -- taken
          refine lv_iload_n hx hb dM_sample_124 rfl (lv_at hl 2 rfl) ?_
          refine lv_if_ge (tgt := 133) hx hb dM_sample_125 (by decide) (fun c125 => ?_) (fun c125 => ?_)
          · -- taken
            refine lv_iload_n hx hb dM_sample_133 rfl (lv_at hl 3 rfl) ?_
            exact zz_iretR (v := lst) hx hb hr hlocks (Or.inr ⟨pp, hpp, epp, Or.inl (by
              have h0 : 0 < x := by
                rcases Nat.eq_zero_or_pos x with q | q
                · exfalso; rw [q] at c17; exact (i_le.mp c125) c17
                · exact q
              have e8 := i_le.mp c125
              obtain ⟨ii, hii, ei⟩ := zz_in (n := x) (by omega) e8 (fun q => (i_le.mp q) c17)
              have h7 := hxi h0
              rw [ei, nI_leI (by omega) (by omega)] at h7
              have e6 : ii = x - 1 := by omega
              exact ⟨ii, by omega, ei, by rw [hlv h0, e6]⟩)⟩) dM_sample_134
          · -- not taken
            refine lv_bipush (v := (-2)) hx hb dM_sample_128 (by decide) ?_
            refine lv_goto (tgt := 134) hx hb dM_sample_130 (by decide) ?_
            exact zz_iretR (v := (-2)) hx hb hr hlocks (Or.inr ⟨pp, hpp, epp, Or.inr ⟨fun ii hii q => by
              have h9 : i1 < 0 := Classical.not_not.mp (fun z => c125 (i_le.mpr z))
              rw [q] at h9
              exact nI_pos (by omega) h9, rfl⟩⟩) dM_sample_134
        · -- not taken
          refine lv_ldc (v := 65536) hx hb hown (ht _ wd521) dM_sample_20 ?_
          refine zz_top (y := nI 65536) (rfl) ?_
          refine lv_istore (lv' := [(5, .int (nI 65536)), (0, .ref m0), (1, .int (nI pp)), (2, .int i1), (3, .int lst), (4, .int (nI x))]) hx hb dM_sample_22 hl (by decide) rfl (fun ls hl => ?_)
          refine lv_iconst (v := nI 0) hx hb dM_sample_24 (by decide) ?_
          refine lv_istore (lv' := [(6, .int (nI 0)), (5, .int (nI 65536)), (0, .ref m0), (1, .int (nI pp)), (2, .int i1), (3, .int lst), (4, .int (nI x))]) hx hb dM_sample_25 hl (by decide) rfl (fun ls hl => ?_)
          have lp27 : ∀ (fu : Nat) (i : Nat) (hi : i ≤ T.length) (hm : T.length - i < fu) (ls : Array Slot) (hl : lv_has ls 8 [(0, .ref m0), (1, .int (nI pp)), (2, .int i1), (3, .int lst), (4, .int (nI x)), (5, .int (nI (smn pp lst (T.take i)))), (6, .int (nI i))]), W pg l ev (headSpec wM_sample rm_M_sample).room s mt (([.ref m0, .int p1, .int i1] : List Value).toArray) below meth kd s.heap [] 0 0 (MQ below (vp_Si (fun r : Int32 => (inr_ 8 p1 = false ∧ r = -1) ∨ ∃ pp, pp < 8 ∧ p1 = nI pp ∧ ((∃ ii, ii < (SS pp).length ∧ i1 = nI ii ∧ r = nI ((SS pp).getD ii 0)) ∨ ((∀ ii, ii < (SS pp).length → i1 ≠ nI ii) ∧ r = -2)))) (([.ref m0, .int p1, .int i1] : List Value).toArray) s 0 0 (fun _ => False)) (F0 mt 27 ls []) := by
            intro fu
            induction fu with
            | zero => intro i hi hm; exact absurd hm (Nat.not_lt_zero _)
            | succ fu ih27 =>
              intro i hi hm ls hl
              have hsp1 := (smn_spec pp lst i T hi).1
              refine lv_iload hx hb dM_sample_27 (lv_at hl 6 rfl) ?_
              refine lv_aload_n hx hb dM_sample_29 rfl (lv_at hl 0 rfl) ?_
              refine va_get (D := D) (ci := 5) (v := .int (nI T.length)) (C := "StatRowsModel") (T := TM) (N := 10) hx hb ht inM hown hK hP 0 rfl rfl 0 (by decide) (ht _ wd389) (fun _ h9 => h9) rfl dM_sample_30 ?_
              refine lv_icmp_ge (tgt := 105) hx hb dM_sample_33 (by decide) (fun c33 => ?_) (fun c33 => ?_)
              · -- taken
                have c33 : T.length ≤ i := (nI_leI (a := T.length) (b := i) (by omega) (by omega)).mp c33
                have eT : smn pp lst (T.take i) = smn pp lst T := by rw [tkl _ i (by omega)]
                rw [eT] at hl hsp1
                have hnx := smn_next (hSs pp hpp) (hSm pp hpp) hx2 hlst
                refine lv_iload hx hb dM_sample_105 (lv_at hl 5 rfl) ?_
                refine lv_ldc (v := 65536) hx hb hown (ht _ wd521) dM_sample_107 ?_
                refine zz_top (y := nI 65536) (rfl) ?_
                refine lv_icmp_ne (tgt := 115) hx hb dM_sample_109 (by decide) (fun c109 => ?_) (fun c109 => ?_)
                · -- taken
                  have c109 : ¬ (smn pp lst T = 65536) := fun h => c109 ((nI_eq (a := smn pp lst T) (b := 65536) (by omega) (by omega)).mpr h)
                  have hgo : x < (SS pp).length ∧ smn pp lst T = (SS pp).getD x 0 ∧ (SS pp).getD x 0 < 65536 := by
                    rcases hnx with h | h
                    · exact absurd h.2 c109
                    · exact h
                  rw [hgo.2.1] at hl
                  refine lv_iload hx hb dM_sample_115 (lv_at hl 5 rfl) ?_
                  refine lv_istore_n (lv' := [(3, .int (nI ((SS pp).getD x 0))), (0, .ref m0), (1, .int (nI pp)), (2, .int i1), (4, .int (nI x)), (5, .int (nI ((SS pp).getD x 0))), (6, .int (nI i))]) hx hb dM_sample_117 rfl hl (by decide) rfl (fun ls hl => ?_)
                  refine lv_iinc (v := nI (x + 1)) (lv' := [(4, .int (nI (x + 1))), (3, .int (nI ((SS pp).getD x 0))), (0, .ref m0), (1, .int (nI pp)), (2, .int i1), (5, .int (nI ((SS pp).getD x 0))), (6, .int (nI i))]) hx hb dM_sample_118 hl (k := 4) rfl (nI_1 x) (by decide) rfl (fun ls hl => ?_)
                  refine lv_goto (tgt := 14) hx hb dM_sample_121 (by decide) ?_
                  exact ih14 (x + 1) (nI ((SS pp).getD x 0)) (by omega) (fun c hc => by
                    rw [nI_ltI (by omega) (by omega)]
                    exact ⟨fun q => Or.inr q, fun q => q.resolve_left (by omega)⟩) (fun _ => rfl) (fun _ => by
                    have e9 : x + 1 - 1 = x := by omega
                    rw [e9]; exact i_le.mpr c17) (by omega) ls (lv_sub hl [2, 3, 4, 1, 0] rfl)
                · -- not taken
                  have c109 : smn pp lst T = 65536 := (nI_eq (a := smn pp lst T) (b := 65536) (by omega) (by omega)).mp c109
                  have hfin : (SS pp).length = x := by
                    rcases hnx with h | h
                    · exact h.1
                    · exfalso; omega
                  refine lv_bipush (v := (-2)) hx hb dM_sample_112 (by decide) ?_
                  exact zz_iretR (v := (-2)) hx hb hr hlocks (Or.inr ⟨pp, hpp, epp, Or.inr ⟨fun ii hii q => by
                    rw [q, nI_ltI (by omega) (by omega)] at c17; omega, rfl⟩⟩) dM_sample_114
              · -- not taken
                have c33 : ¬ (T.length ≤ i) := fun h => c33 ((nI_leI (a := T.length) (b := i) (by omega) (by omega)).mpr h)
                have hCi := hM.2.2.1 i (by omega)
                have bsi := btl (smp (T.getD i 0 % 65536))
                refine lv_sipush (v := nI 256) hx hb dM_sample_36 (by decide) ?_
                refine lv_aload_n hx hb dM_sample_39 rfl (lv_at hl 0 rfl) ?_
                refine va_get (D := D) (ci := 5) (v := .ref m1) (C := "StatRowsModel") (T := TM) (N := 10) hx hb ht inM hown hK hP 0 rfl rfl 1 (by decide) (ht _ wd390) (fun _ h9 => h9) rfl dM_sample_40 ?_
                refine lv_iload hx hb dM_sample_43 (lv_at hl 6 rfl) ?_
                refine zz_iald (k := i) hx hb hK hP 1 0 rfl rfl (by omega) (by decide) dM_sample_45 ?_
                refine zz_top (y := nI (T.getD i 0 / 256 % 256)) ((hM.1 i (by omega)).1) ?_
                refine lv_imul hx hb dM_sample_46 ?_
                refine zz_top (y := nI (256 * (T.getD i 0 / 256 % 256))) (pk_mul 256 (T.getD i 0 / 256 % 256)) ?_
                refine lv_aload_n hx hb dM_sample_47 rfl (lv_at hl 0 rfl) ?_
                refine va_get (D := D) (ci := 5) (v := .ref m3) (C := "StatRowsModel") (T := TM) (N := 10) hx hb ht inM hown hK hP 0 rfl rfl 3 (by decide) (ht _ wd392) (fun _ h9 => h9) rfl dM_sample_48 ?_
                refine lv_iload hx hb dM_sample_51 (lv_at hl 6 rfl) ?_
                refine zz_iald (k := i) hx hb hK hP 3 0 rfl rfl (by omega) (by decide) dM_sample_53 ?_
                refine zz_top (y := nI (T.getD i 0 % 256)) ((hM.1 i (by omega)).2.2) ?_
                refine lv_iadd hx hb dM_sample_54 ?_
                refine zz_top (y := nI ((256 * (T.getD i 0 / 256 % 256)) + (T.getD i 0 % 256))) (nI_add (256 * (T.getD i 0 / 256 % 256)) (T.getD i 0 % 256)) ?_
                refine zz_top (y := nI (T.getD i 0 % 65536)) (congrArg nI (by omega)) ?_
                refine lv_istore (lv' := [(7, .int (nI (T.getD i 0 % 65536))), (0, .ref m0), (1, .int (nI pp)), (2, .int i1), (3, .int lst), (4, .int (nI x)), (5, .int (nI (smn pp lst (T.take i)))), (6, .int (nI i))]) hx hb dM_sample_55 hl (by decide) rfl (fun ls hl => ?_)
                refine lv_aload_n hx hb dM_sample_57 rfl (lv_at hl 1 rfl) ?_
                refine va_get (D := D) (ci := 5) (v := .ref m2) (C := "StatRowsModel") (T := TM) (N := 10) hx hb ht inM hown hK hP 0 rfl rfl 2 (by decide) (ht _ wd391) (fun _ h9 => h9) rfl dM_sample_58 ?_
                refine lv_iload hx hb dM_sample_61 (lv_at hl 7 rfl) ?_
                refine zz_iald (k := i) hx hb hK hP 2 0 rfl rfl (by omega) (by decide) dM_sample_63 ?_
                refine zz_top (y := nI (T.getD i 0 / 65536)) ((hM.1 i (by omega)).2.1) ?_
                refine lv_iload_n hx hb dM_sample_64 rfl (lv_at hl 2 rfl) ?_
                refine lv_icmp_ne (tgt := 95) hx hb dM_sample_65 (by decide) (fun c65 => ?_) (fun c65 => ?_)
                · -- taken
                  have c65 : ¬ (T.getD i 0 / 65536 = pp) := fun h => c65 ((nI_eq (a := T.getD i 0 / 65536) (b := pp) (by omega) (by omega)).mpr h)
                  have hsk : ¬ (sok pp lst (T.getD i 0) = true ∧ T.getD i 0 % 65536 < smn pp lst (T.take i)) := fun q => by
                    have h := q.1; unfold sok isp at h; simp only [Bool.and_eq_true] at h
                    exact c65 (by simpa using h.1.1)
                  refine lv_iload hx hb dM_sample_95 (lv_at hl 6 rfl) ?_
                  refine zz_top (y := nI (smn pp lst (T.take (i + 1)))) (congrArg nI (by rw [tk1 _ i 0 (by omega), smn1, if_neg hsk])) ?_
                  refine lv_istore (lv' := [(5, .int (nI (smn pp lst (T.take (i + 1))))), (7, .int (nI (T.getD i 0 % 65536))), (0, .ref m0), (1, .int (nI pp)), (2, .int i1), (3, .int lst), (4, .int (nI x)), (6, .int (nI i))]) hx hb dM_sample_97 hl (by decide) rfl (fun ls hl => ?_)
                  refine lv_iinc (v := nI (i + 1)) (lv' := [(6, .int (nI (i + 1))), (5, .int (nI (smn pp lst (T.take (i + 1))))), (7, .int (nI (T.getD i 0 % 65536))), (0, .ref m0), (1, .int (nI pp)), (2, .int i1), (3, .int lst), (4, .int (nI x))]) hx hb dM_sample_99 hl (k := 7) rfl (nI_1 i) (by decide) rfl (fun ls hl => ?_)
                  refine lv_goto (tgt := 27) hx hb dM_sample_102 (by decide) ?_
                  exact ih27 (i + 1) (by omega) (by omega) ls (lv_sub hl [3, 4, 5, 6, 7, 1, 0] rfl)
                · -- not taken
                  have c65 : T.getD i 0 / 65536 = pp := (nI_eq (a := T.getD i 0 / 65536) (b := pp) (by omega) (by omega)).mp c65
                  refine lv_aload_n hx hb dM_sample_68 rfl (lv_at hl 1 rfl) ?_
                  refine lv_iload hx hb dM_sample_69 (lv_at hl 7 rfl) ?_
                  refine zz_ci (v := nI ((smp (T.getD i 0 % 65536)).toNat)) (W.runV (As := [.int (nI i)]) (rest := []) ⟨hx, hb, hml, hown, ht⟩ (c_M_isSampled l D cI cB m0 m1 m2 m3 m4 m5 m6 n k e su pd ob T hM i (by omega)) (cwV 1 ht (gd_V wd459 wd461 wp20 wd6 wd462) rfl rfl rfl (by decide +kernel) ⟨Nat.le_of_ble_eq_true rfl, Nat.le_of_ble_eq_true rfl⟩) (zz_R_V hN hK (hP.sub (ws' := [(m0, .inr (5, [.int (nI T.length), .ref m1, .ref m2, .ref m3, .int (nI n), .ref m4, .int (nI e), .int (nI k), .ref m5, .ref m6])), (m1, .inl (cI, 400, .inl su)), (m2, .inl (cI, 400, .inl pd)), (m3, .inl (cI, 400, .inl ob))]) [0, 1, 2, 3] rfl) 5 0 rfl rfl) rfl rfl hl.1 rfl (lv_room (Nat.le_of_ble_eq_true rfl)) dM_sample_71 ⟨Nat.le_of_ble_eq_true rfl, Nat.le_of_ble_eq_true rfl⟩) ?_
                  refine lv_if_eq (tgt := 95) hx hb dM_sample_74 (by decide) (fun c74 => ?_) (fun c74 => ?_)
                  · -- taken
                    have c74 : (smp (T.getD i 0 % 65536)).toNat = 0 := (nI_eq (a := (smp (T.getD i 0 % 65536)).toNat) (b := 0) (by omega) (by omega)).mp c74
                    have hsk : ¬ (sok pp lst (T.getD i 0) = true ∧ T.getD i 0 % 65536 < smn pp lst (T.take i)) := fun q => by
                      have h := q.1; unfold sok at h; rw [bt0 c74] at h; simp at h
                    refine lv_iload hx hb dM_sample_95 (lv_at hl 6 rfl) ?_
                    refine zz_top (y := nI (smn pp lst (T.take (i + 1)))) (congrArg nI (by rw [tk1 _ i 0 (by omega), smn1, if_neg hsk])) ?_
                    refine lv_istore (lv' := [(5, .int (nI (smn pp lst (T.take (i + 1))))), (7, .int (nI (T.getD i 0 % 65536))), (0, .ref m0), (1, .int (nI pp)), (2, .int i1), (3, .int lst), (4, .int (nI x)), (6, .int (nI i))]) hx hb dM_sample_97 hl (by decide) rfl (fun ls hl => ?_)
                    refine lv_iinc (v := nI (i + 1)) (lv' := [(6, .int (nI (i + 1))), (5, .int (nI (smn pp lst (T.take (i + 1))))), (7, .int (nI (T.getD i 0 % 65536))), (0, .ref m0), (1, .int (nI pp)), (2, .int i1), (3, .int lst), (4, .int (nI x))]) hx hb dM_sample_99 hl (k := 7) rfl (nI_1 i) (by decide) rfl (fun ls hl => ?_)
                    refine lv_goto (tgt := 27) hx hb dM_sample_102 (by decide) ?_
                    exact ih27 (i + 1) (by omega) (by omega) ls (lv_sub hl [3, 4, 5, 6, 7, 1, 0] rfl)
                  · -- not taken
                    have c74 : ¬ ((smp (T.getD i 0 % 65536)).toNat = 0) := fun h => c74 ((nI_eq (a := (smp (T.getD i 0 % 65536)).toNat) (b := 0) (by omega) (by omega)).mpr h)
                    refine lv_iload hx hb dM_sample_77 (lv_at hl 0 rfl) ?_
                    refine lv_iload_n hx hb dM_sample_79 rfl (lv_at hl 4 rfl) ?_
                    refine lv_icmp_le (tgt := 95) hx hb dM_sample_80 (by decide) (fun c80 => ?_) (fun c80 => ?_)
                    · -- taken
                      have hsk : ¬ (sok pp lst (T.getD i 0) = true ∧ T.getD i 0 % 65536 < smn pp lst (T.take i)) := fun q => by
                        have h := q.1; unfold sok at h; simp only [Bool.and_eq_true, decide_eq_true_eq] at h
                        exact (i_le.mp c80) h.2
                      refine lv_iload hx hb dM_sample_95 (lv_at hl 6 rfl) ?_
                      refine zz_top (y := nI (smn pp lst (T.take (i + 1)))) (congrArg nI (by rw [tk1 _ i 0 (by omega), smn1, if_neg hsk])) ?_
                      refine lv_istore (lv' := [(5, .int (nI (smn pp lst (T.take (i + 1))))), (7, .int (nI (T.getD i 0 % 65536))), (0, .ref m0), (1, .int (nI pp)), (2, .int i1), (3, .int lst), (4, .int (nI x)), (6, .int (nI i))]) hx hb dM_sample_97 hl (by decide) rfl (fun ls hl => ?_)
                      refine lv_iinc (v := nI (i + 1)) (lv' := [(6, .int (nI (i + 1))), (5, .int (nI (smn pp lst (T.take (i + 1))))), (7, .int (nI (T.getD i 0 % 65536))), (0, .ref m0), (1, .int (nI pp)), (2, .int i1), (3, .int lst), (4, .int (nI x))]) hx hb dM_sample_99 hl (k := 7) rfl (nI_1 i) (by decide) rfl (fun ls hl => ?_)
                      refine lv_goto (tgt := 27) hx hb dM_sample_102 (by decide) ?_
                      exact ih27 (i + 1) (by omega) (by omega) ls (lv_sub hl [3, 4, 5, 6, 7, 1, 0] rfl)
                    · -- not taken
                      refine lv_iload hx hb dM_sample_83 (lv_at hl 0 rfl) ?_
                      refine lv_iload hx hb dM_sample_85 (lv_at hl 6 rfl) ?_
                      refine lv_icmp_ge (tgt := 95) hx hb dM_sample_87 (by decide) (fun c87 => ?_) (fun c87 => ?_)
                      · -- taken
                        have c87 : smn pp lst (T.take i) ≤ T.getD i 0 % 65536 := (nI_leI (a := smn pp lst (T.take i)) (b := T.getD i 0 % 65536) (by omega) (by omega)).mp c87
                        have hsk : ¬ (sok pp lst (T.getD i 0) = true ∧ T.getD i 0 % 65536 < smn pp lst (T.take i)) := fun q => by omega
                        refine lv_iload hx hb dM_sample_95 (lv_at hl 6 rfl) ?_
                        refine zz_top (y := nI (smn pp lst (T.take (i + 1)))) (congrArg nI (by rw [tk1 _ i 0 (by omega), smn1, if_neg hsk])) ?_
                        refine lv_istore (lv' := [(5, .int (nI (smn pp lst (T.take (i + 1))))), (7, .int (nI (T.getD i 0 % 65536))), (0, .ref m0), (1, .int (nI pp)), (2, .int i1), (3, .int lst), (4, .int (nI x)), (6, .int (nI i))]) hx hb dM_sample_97 hl (by decide) rfl (fun ls hl => ?_)
                        refine lv_iinc (v := nI (i + 1)) (lv' := [(6, .int (nI (i + 1))), (5, .int (nI (smn pp lst (T.take (i + 1))))), (7, .int (nI (T.getD i 0 % 65536))), (0, .ref m0), (1, .int (nI pp)), (2, .int i1), (3, .int lst), (4, .int (nI x))]) hx hb dM_sample_99 hl (k := 7) rfl (nI_1 i) (by decide) rfl (fun ls hl => ?_)
                        refine lv_goto (tgt := 27) hx hb dM_sample_102 (by decide) ?_
                        exact ih27 (i + 1) (by omega) (by omega) ls (lv_sub hl [3, 4, 5, 6, 7, 1, 0] rfl)
                      · -- not taken
                        have c87 : ¬ (smn pp lst (T.take i) ≤ T.getD i 0 % 65536) := fun h => c87 ((nI_leI (a := smn pp lst (T.take i)) (b := T.getD i 0 % 65536) (by omega) (by omega)).mpr h)
                        have hsy : sok pp lst (T.getD i 0) = true ∧ T.getD i 0 % 65536 < smn pp lst (T.take i) := by
                          refine ⟨?_, by omega⟩
                          unfold sok isp
                          simp only [Bool.and_eq_true, decide_eq_true_eq]
                          exact ⟨⟨by simpa using c65, bt1 c74⟩, Classical.not_not.mp (fun q => c80 (i_le.mpr q))⟩
                        refine lv_iload hx hb dM_sample_90 (lv_at hl 0 rfl) ?_
                        refine zz_top (y := nI (smn pp lst (T.take (i + 1)))) (congrArg nI (by rw [tk1 _ i 0 (by omega), smn1, if_pos hsy])) ?_
                        refine lv_goto (tgt := 97) hx hb dM_sample_92 (by decide) ?_
                        refine lv_istore (lv' := [(5, .int (nI (smn pp lst (T.take (i + 1))))), (7, .int (nI (T.getD i 0 % 65536))), (0, .ref m0), (1, .int (nI pp)), (2, .int i1), (3, .int lst), (4, .int (nI x)), (6, .int (nI i))]) hx hb dM_sample_97 hl (by decide) rfl (fun ls hl => ?_)
                        refine lv_iinc (v := nI (i + 1)) (lv' := [(6, .int (nI (i + 1))), (5, .int (nI (smn pp lst (T.take (i + 1))))), (7, .int (nI (T.getD i 0 % 65536))), (0, .ref m0), (1, .int (nI pp)), (2, .int i1), (3, .int lst), (4, .int (nI x))]) hx hb dM_sample_99 hl (k := 7) rfl (nI_1 i) (by decide) rfl (fun ls hl => ?_)
                        refine lv_goto (tgt := 27) hx hb dM_sample_102 (by decide) ?_
                        exact ih27 (i + 1) (by omega) (by omega) ls (lv_sub hl [3, 4, 5, 6, 7, 1, 0] rfl)
          exact lp27 ((T.length - 0) + 1) 0 (Nat.zero_le _) (Nat.lt_succ_self _) ls (lv_sub hl [2, 3, 4, 5, 6, 1, 0] rfl)
    exact lp14 (((SS pp).length + 1 - 0) + 1) 0 (-1) (Nat.zero_le _) (fun c hc => ⟨fun _ => Or.inl rfl, fun _ => neg1_lt hc⟩) (fun h => absurd h (Nat.lt_irrefl _)) (fun h => absurd h (Nat.lt_irrefl _)) (Nat.lt_succ_self _) ls (lv_sub hl [2, 3, 4, 1, 0] rfl)
  · -- not taken
    have c4 : (inr_ 8 p1).toNat = 0 := (nI_eq (a := (inr_ 8 p1).toNat) (b := 0) (by omega) (by omega)).mp c4
    have hb1 : inr_ 8 p1 = false := bt0 (by omega)
    refine lv_iconst (v := (-1)) hx hb dM_sample_7 (by decide) ?_
    exact zz_iretR (v := (-1)) hx hb hr hlocks (Or.inl ⟨hb1, rfl⟩) dM_sample_8
