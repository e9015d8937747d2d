abbrev rm_M_pairs : Room := { frames := 2, cells := 0, slots := 0, locals := 42 }
set_option maxHeartbeats 4000000 in
set_option maxRecDepth 100000 in
theorem c_M_pairs (l : Launch) (D : va_G) (cI cB : ClassId) (m0 m1 m2 m3 m4 m5 m6 n k e : Nat) (su pd ob : Nat → Int32) (T : List Nat) (hM : RM T su pd ob) (pp qq : Nat) (hpp : pp < 8) (hqq : qq < 8) (bo fl : Bool) : Met l yM_pairs wM_pairs rm_M_pairs (zz_R D vwCl [(cI, .int), (cB, .boolean)] [.ref m0, .int (nI pp), .int (nI qq), .int (nI bo.toNat), .int (nI fl.toNat)] [(m0, .inr (5, [.int (nI T.length), .ref m1, .ref m2, .ref m3, .int (nI n), .ref m4, .int (nI e), .int (nI k), .ref m5, .ref m6])), (m1, .inl (cI, 400, .inl su)), (m2, .inl (cI, 400, .inl pd)), (m3, .inl (cI, 400, .inl ob))]) (vp_Sl (fun r : Int64 => r = lN (sumf (prs T pp qq bo fl) T))) 0 0 (fun _ => False) := by
  refine Met.ofW (cc := cM_pairs) (maxL := 11) (ret := (some .long)) (by decide) rfl ?_
  intro pg ev s mt args below meth kd s₁ B hml hv
  obtain ⟨rfl, hP, hK, hN⟩ := hv
  have hx := B.exec
  have hb := B.bytes
  have hr := B.returns
  have ht : ∀ w ∈ W0, w.before _ s = true := fun w h => atoms_spec (ws := wM_pairs) B.pre w (List.mem_cons_of_mem _ h)
  have hown : s.vm.findClass "StatRowsModel" = some mt.cls := findClass_of_methodNamed B.named
  have hlocks := B.notSynchronized
  have hl := lv_entry ([.ref m0, .int (nI pp), .int (nI qq), .int (nI bo.toNat), .int (nI fl.toNat)]) (n := 11) (Nat.le_of_ble_eq_true rfl)
  rw [lg_entry_eq]
  generalize (lg_sl ([.ref m0, .int (nI pp), .int (nI qq), .int (nI bo.toNat), .int (nI fl.toNat)]) ++ List.replicate (11 - (lg_sl ([.ref m0, .int (nI pp), .int (nI qq), .int (nI bo.toNat), .int (nI fl.toNat)])).length) Slot.unset).toArray = ls at hl ⊢
  have hl : lv_has ls 11 [(0, .ref m0), (1, .int (nI pp)), (2, .int (nI qq)), (3, .int (nI bo.toNat)), (4, .int (nI fl.toNat))] := hl
  have hM4 := hM.2.1
  have hbo := btl bo
  have hfl := btl fl
  refine lv_lconst (v := lN 0) hx hb dM_pairs_0 rfl ?_
  refine lv_lstore (lv' := [(5, .long (lN 0)), (0, .ref m0), (1, .int (nI pp)), (2, .int (nI qq)), (3, .int (nI bo.toNat)), (4, .int (nI fl.toNat))]) hx hb dM_pairs_1 hl (by decide) rfl (fun ls hl => ?_)
  refine lv_iconst (v := nI 0) hx hb dM_pairs_3 (by decide) ?_
  refine lv_istore (lv' := [(7, .int (nI 0)), (5, .long (lN 0)), (0, .ref m0), (1, .int (nI pp)), (2, .int (nI qq)), (3, .int (nI bo.toNat)), (4, .int (nI fl.toNat))]) hx hb dM_pairs_4 hl (by decide) rfl (fun ls hl => ?_)
  have lp6 : ∀ (fu : Nat) (i : Nat) (hi : i ≤ T.length) (hm : T.length - i < fu) (ls : Array Slot) (hl : lv_has ls 11 [(0, .ref m0), (1, .int (nI pp)), (2, .int (nI qq)), (3, .int (nI bo.toNat)), (4, .int (nI fl.toNat)), (5, .long (lN (sumf (prs T pp qq bo fl) (T.take i)))), (7, .int (nI i))]), W pg l ev (headSpec wM_pairs rm_M_pairs).room s mt (([.ref m0, .int (nI pp), .int (nI qq), .int (nI bo.toNat), .int (nI fl.toNat)] : List Value).toArray) below meth kd s.heap [] 0 0 (MQ below (vp_Sl (fun r : Int64 => r = lN (sumf (prs T pp qq bo fl) T))) (([.ref m0, .int (nI pp), .int (nI qq), .int (nI bo.toNat), .int (nI fl.toNat)] : List Value).toArray) s 0 0 (fun _ => False)) (F0 mt 6 ls []) := by
    intro fu
    induction fu with
    | zero => intro i hi hm; exact absurd hm (Nat.not_lt_zero _)
    | succ fu ih6 =>
      intro i hi hm ls hl
      refine lv_iload hx hb dM_pairs_6 (lv_at hl 6 rfl) ?_
      refine lv_aload_n hx hb dM_pairs_8 rfl (lv_at hl 0 rfl) ?_
      refine va_get (D := D) (ci := 5) (v := .int (nI T.length)) (C := "StatRowsModel") (T := TM) (N := 10) hx hb ht inM hown hK hP 0 rfl rfl 0 (by decide) (ht _ wd389) (fun _ h9 => h9) rfl dM_pairs_9 ?_
      refine lv_icmp_ge (tgt := 142) hx hb dM_pairs_12 (by decide) (fun c12 => ?_) (fun c12 => ?_)
      · -- taken
        have c12 : T.length ≤ i := (nI_leI (a := T.length) (b := i) (by omega) (by omega)).mp c12
        refine lv_lload hx hb dM_pairs_142 (lv_at hl 5 rfl) ?_
        exact zz_lretR (v := lN (sumf (prs T pp qq bo fl) (T.take i))) hx hb hr hlocks (by rw [tkl _ i (by omega)]) dM_pairs_144
      · -- not taken
        have c12 : ¬ (T.length ≤ i) := fun h => c12 ((nI_leI (a := T.length) (b := i) (by omega) (by omega)).mpr h)
        have hCi := hM.2.2.1 i (by omega)
        have hbk := byk_lt bo (T.getD i 0)
        refine lv_iload_n hx hb dM_pairs_15 rfl (lv_at hl 3 rfl) ?_
        refine lv_if_eq (tgt := 29) hx hb dM_pairs_16 (by decide) (fun c16 => ?_) (fun c16 => ?_)
        · -- taken
          have c16 : bo.toNat = 0 := (nI_eq (a := bo.toNat) (b := 0) (by omega) (by omega)).mp c16
          refine lv_aload_n hx hb dM_pairs_29 rfl (lv_at hl 0 rfl) ?_
          refine va_get (D := D) (ci := 5) (v := .ref m1) (C := "StatRowsModel") (T := TM) (N := 10) hx hb ht inM hown hK hP 0 rfl rfl 1 (by decide) (ht _ wd390) (fun _ h9 => h9) rfl dM_pairs_30 ?_
          refine lv_iload hx hb dM_pairs_33 (lv_at hl 6 rfl) ?_
          refine zz_iald (k := i) hx hb hK hP 1 0 rfl rfl (by omega) (by decide) dM_pairs_35 ?_
          refine zz_top (y := nI (T.getD i 0 / 256 % 256)) ((hM.1 i (by omega)).1) ?_
          refine zz_top (y := nI (byk bo (T.getD i 0))) (congrArg nI (by unfold byk; rw [bt0 c16]; rfl)) ?_
          refine lv_istore (lv' := [(8, .int (nI (byk bo (T.getD i 0)))), (0, .ref m0), (1, .int (nI pp)), (2, .int (nI qq)), (3, .int (nI bo.toNat)), (4, .int (nI fl.toNat)), (5, .long (lN (sumf (prs T pp qq bo fl) (T.take i)))), (7, .int (nI i))]) hx hb dM_pairs_36 hl (by decide) rfl (fun ls hl => ?_)
          rw [show sumf (prs T pp qq bo fl) (T.take i) = sumf (prs T pp qq bo fl) (T.take i) + (if T.getD i 0 / 65536 = pp then (T.take 0).countP (inn qq bo fl (T.getD i 0)) else 0) from by simp] at hl
          refine lv_iconst (v := nI 0) hx hb dM_pairs_38 (by decide) ?_
          refine lv_istore (lv' := [(9, .int (nI 0)), (8, .int (nI (byk bo (T.getD i 0)))), (0, .ref m0), (1, .int (nI pp)), (2, .int (nI qq)), (3, .int (nI bo.toNat)), (4, .int (nI fl.toNat)), (5, .long (lN (sumf (prs T pp qq bo fl) (T.take i) + (if T.getD i 0 / 65536 = pp then (T.take 0).countP (inn qq bo fl (T.getD i 0)) else 0)))), (7, .int (nI i))]) hx hb dM_pairs_39 hl (by decide) rfl (fun ls hl => ?_)
          have lp41 : ∀ (fu : Nat) (j : Nat) (hj : j ≤ T.length) (hm : T.length - j < fu) (ls : Array Slot) (hl : lv_has ls 11 [(0, .ref m0), (1, .int (nI pp)), (2, .int (nI qq)), (3, .int (nI bo.toNat)), (4, .int (nI fl.toNat)), (5, .long (lN (sumf (prs T pp qq bo fl) (T.take i) + (if T.getD i 0 / 65536 = pp then (T.take j).countP (inn qq bo fl (T.getD i 0)) else 0)))), (7, .int (nI i)), (8, .int (nI (byk bo (T.getD i 0)))), (9, .int (nI j))]), W pg l ev (headSpec wM_pairs rm_M_pairs).room s mt (([.ref m0, .int (nI pp), .int (nI qq), .int (nI bo.toNat), .int (nI fl.toNat)] : List Value).toArray) below meth kd s.heap [] 0 0 (MQ below (vp_Sl (fun r : Int64 => r = lN (sumf (prs T pp qq bo fl) T))) (([.ref m0, .int (nI pp), .int (nI qq), .int (nI bo.toNat), .int (nI fl.toNat)] : List Value).toArray) s 0 0 (fun _ => False)) (F0 mt 41 ls []) := by
            intro fu
            induction fu with
            | zero => intro j hj hm; exact absurd hm (Nat.not_lt_zero _)
            | succ fu ih41 =>
              intro j hj hm ls hl
              refine lv_iload hx hb dM_pairs_41 (lv_at hl 8 rfl) ?_
              refine lv_aload_n hx hb dM_pairs_43 rfl (lv_at hl 0 rfl) ?_
              refine va_get (D := D) (ci := 5) (v := .int (nI T.length)) (C := "StatRowsModel") (T := TM) (N := 10) hx hb ht inM hown hK hP 0 rfl rfl 0 (by decide) (ht _ wd389) (fun _ h9 => h9) rfl dM_pairs_44 ?_
              refine lv_icmp_ge (tgt := 136) hx hb dM_pairs_47 (by decide) (fun c47 => ?_) (fun c47 => ?_)
              · -- taken
                have c47 : T.length ≤ j := (nI_leI (a := T.length) (b := j) (by omega) (by omega)).mp c47
                have ez : sumf (prs T pp qq bo fl) (T.take i) + (if T.getD i 0 / 65536 = pp then (T.take j).countP (inn qq bo fl (T.getD i 0)) else 0) = sumf (prs T pp qq bo fl) (T.take (i + 1)) := by
                  rw [tk1 _ i 0 (by omega), sumf1]; congr 1; unfold prs; rw [tkl _ j (by omega)]
                rw [ez] at hl
                refine lv_iinc (v := nI (i + 1)) (lv' := [(7, .int (nI (i + 1))), (0, .ref m0), (1, .int (nI pp)), (2, .int (nI qq)), (3, .int (nI bo.toNat)), (4, .int (nI fl.toNat)), (5, .long (lN (sumf (prs T pp qq bo fl) (T.take (i + 1))))), (8, .int (nI (byk bo (T.getD i 0)))), (9, .int (nI j))]) hx hb dM_pairs_136 hl (k := 6) rfl (nI_1 i) (by decide) rfl (fun ls hl => ?_)
                refine lv_goto (tgt := 6) hx hb dM_pairs_139 (by decide) ?_
                exact ih6 (i + 1) (by omega) (by omega) ls (lv_sub hl [1, 2, 3, 4, 5, 6, 0] rfl)
              · -- not taken
                have c47 : ¬ (T.length ≤ j) := fun h => c47 ((nI_leI (a := T.length) (b := j) (by omega) (by omega)).mpr h)
                have hCj := hM.2.2.1 j (by omega)
                have bsi := btl (smp (T.getD i 0 % 65536))
                have bsj := btl (smp (T.getD j 0 % 65536))
                refine lv_aload_n hx hb dM_pairs_50 rfl (lv_at hl 0 rfl) ?_
                refine va_get (D := D) (ci := 5) (v := .ref m2) (C := "StatRowsModel") (T := TM) (N := 10) hx hb ht inM hown hK hP 0 rfl rfl 2 (by decide) (ht _ wd391) (fun _ h9 => h9) rfl dM_pairs_51 ?_
                refine lv_iload hx hb dM_pairs_54 (lv_at hl 6 rfl) ?_
                refine zz_iald (k := i) hx hb hK hP 2 0 rfl rfl (by omega) (by decide) dM_pairs_56 ?_
                refine zz_top (y := nI (T.getD i 0 / 65536)) ((hM.1 i (by omega)).2.1) ?_
                refine lv_iload_n hx hb dM_pairs_57 rfl (lv_at hl 1 rfl) ?_
                refine lv_icmp_ne (tgt := 136) hx hb dM_pairs_58 (by decide) (fun c58 => ?_) (fun c58 => ?_)
                · -- taken
                  have c58 : ¬ (T.getD i 0 / 65536 = pp) := fun h => c58 ((nI_eq (a := T.getD i 0 / 65536) (b := pp) (by omega) (by omega)).mpr h)
                  have ez : sumf (prs T pp qq bo fl) (T.take i) + (if T.getD i 0 / 65536 = pp then (T.take j).countP (inn qq bo fl (T.getD i 0)) else 0) = sumf (prs T pp qq bo fl) (T.take (i + 1)) := by
                    rw [tk1 _ i 0 (by omega), sumf1]; congr 1; unfold prs; rw [if_neg c58, if_neg c58]
                  rw [ez] at hl
                  refine lv_iinc (v := nI (i + 1)) (lv' := [(7, .int (nI (i + 1))), (0, .ref m0), (1, .int (nI pp)), (2, .int (nI qq)), (3, .int (nI bo.toNat)), (4, .int (nI fl.toNat)), (5, .long (lN (sumf (prs T pp qq bo fl) (T.take (i + 1))))), (8, .int (nI (byk bo (T.getD i 0)))), (9, .int (nI j))]) hx hb dM_pairs_136 hl (k := 6) rfl (nI_1 i) (by decide) rfl (fun ls hl => ?_)
                  refine lv_goto (tgt := 6) hx hb dM_pairs_139 (by decide) ?_
                  exact ih6 (i + 1) (by omega) (by omega) ls (lv_sub hl [1, 2, 3, 4, 5, 6, 0] rfl)
                · -- not taken
                  have c58 : T.getD i 0 / 65536 = pp := (nI_eq (a := T.getD i 0 / 65536) (b := pp) (by omega) (by omega)).mp c58
                  have hk := c58
                  refine lv_aload_n hx hb dM_pairs_61 rfl (lv_at hl 0 rfl) ?_
                  refine va_get (D := D) (ci := 5) (v := .ref m2) (C := "StatRowsModel") (T := TM) (N := 10) hx hb ht inM hown hK hP 0 rfl rfl 2 (by decide) (ht _ wd391) (fun _ h9 => h9) rfl dM_pairs_62 ?_
                  refine lv_iload hx hb dM_pairs_65 (lv_at hl 8 rfl) ?_
                  refine zz_iald (k := j) hx hb hK hP 2 0 rfl rfl (by omega) (by decide) dM_pairs_67 ?_
                  refine zz_top (y := nI (T.getD j 0 / 65536)) ((hM.1 j (by omega)).2.1) ?_
                  refine lv_iload_n hx hb dM_pairs_68 rfl (lv_at hl 2 rfl) ?_
                  refine lv_icmp_ne (tgt := 111) hx hb dM_pairs_69 (by decide) (fun c69 => ?_) (fun c69 => ?_)
                  · -- taken
                    have c69 : ¬ (T.getD j 0 / 65536 = qq) := fun h => c69 ((nI_eq (a := T.getD j 0 / 65536) (b := qq) (by omega) (by omega)).mpr h)
                    have hin : (inn qq bo fl (T.getD i 0)) (T.getD j 0) = false := inn_f1 c69
                    refine lv_iconst (v := nI 0) hx hb dM_pairs_111 (by decide) ?_
                    refine lv_istore (lv' := [(10, .int (nI 0)), (0, .ref m0), (1, .int (nI pp)), (2, .int (nI qq)), (3, .int (nI bo.toNat)), (4, .int (nI fl.toNat)), (5, .long (lN (sumf (prs T pp qq bo fl) (T.take i) + (if T.getD i 0 / 65536 = pp then (T.take j).countP (inn qq bo fl (T.getD i 0)) else 0)))), (7, .int (nI i)), (8, .int (nI (byk bo (T.getD i 0)))), (9, .int (nI j))]) hx hb dM_pairs_112 hl (by decide) rfl (fun ls hl => ?_)
                    refine lv_iload hx hb dM_pairs_114 (lv_at hl 0 rfl) ?_
                    refine lv_if_eq (tgt := 126) hx hb dM_pairs_116 (by decide) (fun c116 => ?_) (fun c116 => ?_)
                    · -- taken
                      have c116 : 0 = 0 := (nI_eq (a := 0) (b := 0) (by omega) (by omega)).mp c116
                      refine lv_lload hx hb dM_pairs_126 (lv_at hl 6 rfl) ?_
                      refine zz_topl (y := lN (sumf (prs T pp qq bo fl) (T.take i) + (if T.getD i 0 / 65536 = pp then (T.take (j + 1)).countP (inn qq bo fl (T.getD i 0)) else 0))) (congrArg lN (by
                        rw [if_pos hk, if_pos hk, tk1 _ j 0 (by omega), cp1, hin]; rfl)) ?_
                      refine lv_lstore (lv' := [(5, .long (lN (sumf (prs T pp qq bo fl) (T.take i) + (if T.getD i 0 / 65536 = pp then (T.take (j + 1)).countP (inn qq bo fl (T.getD i 0)) else 0)))), (10, .int (nI 0)), (0, .ref m0), (1, .int (nI pp)), (2, .int (nI qq)), (3, .int (nI bo.toNat)), (4, .int (nI fl.toNat)), (7, .int (nI i)), (8, .int (nI (byk bo (T.getD i 0)))), (9, .int (nI j))]) hx hb dM_pairs_128 hl (by decide) rfl (fun ls hl => ?_)
                      refine lv_iinc (v := nI (j + 1)) (lv' := [(9, .int (nI (j + 1))), (5, .long (lN (sumf (prs T pp qq bo fl) (T.take i) + (if T.getD i 0 / 65536 = pp then (T.take (j + 1)).countP (inn qq bo fl (T.getD i 0)) else 0)))), (10, .int (nI 0)), (0, .ref m0), (1, .int (nI pp)), (2, .int (nI qq)), (3, .int (nI bo.toNat)), (4, .int (nI fl.toNat)), (7, .int (nI i)), (8, .int (nI (byk bo (T.getD i 0))))]) hx hb dM_pairs_130 hl (k := 9) rfl (nI_1 j) (by decide) rfl (fun ls hl => ?_)
                      refine lv_goto (tgt := 41) hx hb dM_pairs_133 (by decide) ?_
                      exact ih41 (j + 1) (by omega) (by omega) ls (lv_sub hl [3, 4, 5, 6, 7, 1, 8, 9, 0] rfl)
                    · -- not taken
                      have c116 : ¬ (0 = 0) := fun h => c116 ((nI_eq (a := 0) (b := 0) (by omega) (by omega)).mpr h)
                      exact absurd rfl c116
                  · -- not taken
                    have c69 : T.getD j 0 / 65536 = qq := (nI_eq (a := T.getD j 0 / 65536) (b := qq) (by omega) (by omega)).mp c69
                    refine lv_aload_n hx hb dM_pairs_72 rfl (lv_at hl 0 rfl) ?_
                    refine va_get (D := D) (ci := 5) (v := .ref m1) (C := "StatRowsModel") (T := TM) (N := 10) hx hb ht inM hown hK hP 0 rfl rfl 1 (by decide) (ht _ wd390) (fun _ h9 => h9) rfl dM_pairs_73 ?_
                    refine lv_iload hx hb dM_pairs_76 (lv_at hl 8 rfl) ?_
                    refine zz_iald (k := j) hx hb hK hP 1 0 rfl rfl (by omega) (by decide) dM_pairs_78 ?_
                    refine zz_top (y := nI (T.getD j 0 / 256 % 256)) ((hM.1 j (by omega)).1) ?_
                    refine lv_iload hx hb dM_pairs_79 (lv_at hl 7 rfl) ?_
                    refine lv_icmp_ne (tgt := 111) hx hb dM_pairs_81 (by decide) (fun c81 => ?_) (fun c81 => ?_)
                    · -- taken
                      have c81 : ¬ (T.getD j 0 / 256 % 256 = byk bo (T.getD i 0)) := fun h => c81 ((nI_eq (a := T.getD j 0 / 256 % 256) (b := byk bo (T.getD i 0)) (by omega) (by omega)).mpr h)
                      have hin : (inn qq bo fl (T.getD i 0)) (T.getD j 0) = false := inn_f2 c81
                      refine lv_iconst (v := nI 0) hx hb dM_pairs_111 (by decide) ?_
                      refine lv_istore (lv' := [(10, .int (nI 0)), (0, .ref m0), (1, .int (nI pp)), (2, .int (nI qq)), (3, .int (nI bo.toNat)), (4, .int (nI fl.toNat)), (5, .long (lN (sumf (prs T pp qq bo fl) (T.take i) + (if T.getD i 0 / 65536 = pp then (T.take j).countP (inn qq bo fl (T.getD i 0)) else 0)))), (7, .int (nI i)), (8, .int (nI (byk bo (T.getD i 0)))), (9, .int (nI j))]) hx hb dM_pairs_112 hl (by decide) rfl (fun ls hl => ?_)
                      refine lv_iload hx hb dM_pairs_114 (lv_at hl 0 rfl) ?_
                      refine lv_if_eq (tgt := 126) hx hb dM_pairs_116 (by decide) (fun c116 => ?_) (fun c116 => ?_)
                      · -- taken
                        have c116 : 0 = 0 := (nI_eq (a := 0) (b := 0) (by omega) (by omega)).mp c116
                        refine lv_lload hx hb dM_pairs_126 (lv_at hl 6 rfl) ?_
                        refine zz_topl (y := lN (sumf (prs T pp qq bo fl) (T.take i) + (if T.getD i 0 / 65536 = pp then (T.take (j + 1)).countP (inn qq bo fl (T.getD i 0)) else 0))) (congrArg lN (by
                          rw [if_pos hk, if_pos hk, tk1 _ j 0 (by omega), cp1, hin]; rfl)) ?_
                        refine lv_lstore (lv' := [(5, .long (lN (sumf (prs T pp qq bo fl) (T.take i) + (if T.getD i 0 / 65536 = pp then (T.take (j + 1)).countP (inn qq bo fl (T.getD i 0)) else 0)))), (10, .int (nI 0)), (0, .ref m0), (1, .int (nI pp)), (2, .int (nI qq)), (3, .int (nI bo.toNat)), (4, .int (nI fl.toNat)), (7, .int (nI i)), (8, .int (nI (byk bo (T.getD i 0)))), (9, .int (nI j))]) hx hb dM_pairs_128 hl (by decide) rfl (fun ls hl => ?_)
                        refine lv_iinc (v := nI (j + 1)) (lv' := [(9, .int (nI (j + 1))), (5, .long (lN (sumf (prs T pp qq bo fl) (T.take i) + (if T.getD i 0 / 65536 = pp then (T.take (j + 1)).countP (inn qq bo fl (T.getD i 0)) else 0)))), (10, .int (nI 0)), (0, .ref m0), (1, .int (nI pp)), (2, .int (nI qq)), (3, .int (nI bo.toNat)), (4, .int (nI fl.toNat)), (7, .int (nI i)), (8, .int (nI (byk bo (T.getD i 0))))]) hx hb dM_pairs_130 hl (k := 9) rfl (nI_1 j) (by decide) rfl (fun ls hl => ?_)
                        refine lv_goto (tgt := 41) hx hb dM_pairs_133 (by decide) ?_
                        exact ih41 (j + 1) (by omega) (by omega) ls (lv_sub hl [3, 4, 5, 6, 7, 1, 8, 9, 0] rfl)
                      · -- not taken
                        have c116 : ¬ (0 = 0) := fun h => c116 ((nI_eq (a := 0) (b := 0) (by omega) (by omega)).mpr h)
                        exact absurd rfl c116
                    · -- not taken
                      have c81 : T.getD j 0 / 256 % 256 = byk bo (T.getD i 0) := (nI_eq (a := T.getD j 0 / 256 % 256) (b := byk bo (T.getD i 0)) (by omega) (by omega)).mp c81
                      have hi3 := inn_3 (fl := fl) c69 c81
                      refine lv_iload hx hb dM_pairs_84 (lv_at hl 4 rfl) ?_
                      refine lv_if_eq (tgt := 107) hx hb dM_pairs_86 (by decide) (fun c86 => ?_) (fun c86 => ?_)
                      · -- taken
                        have c86 : fl.toNat = 0 := (nI_eq (a := fl.toNat) (b := 0) (by omega) (by omega)).mp c86
                        have hin : (inn qq bo fl (T.getD i 0)) (T.getD j 0) = true := by rw [hi3, bt0 c86]; rfl
                        refine lv_iconst (v := nI 1) hx hb dM_pairs_107 (by decide) ?_
                        refine lv_goto (tgt := 112) hx hb dM_pairs_108 (by decide) ?_
                        refine lv_istore (lv' := [(10, .int (nI 1)), (0, .ref m0), (1, .int (nI pp)), (2, .int (nI qq)), (3, .int (nI bo.toNat)), (4, .int (nI fl.toNat)), (5, .long (lN (sumf (prs T pp qq bo fl) (T.take i) + (if T.getD i 0 / 65536 = pp then (T.take j).countP (inn qq bo fl (T.getD i 0)) else 0)))), (7, .int (nI i)), (8, .int (nI (byk bo (T.getD i 0)))), (9, .int (nI j))]) hx hb dM_pairs_112 hl (by decide) rfl (fun ls hl => ?_)
                        refine lv_iload hx hb dM_pairs_114 (lv_at hl 0 rfl) ?_
                        refine lv_if_eq (tgt := 126) hx hb dM_pairs_116 (by decide) (fun c116 => ?_) (fun c116 => ?_)
                        · -- taken
                          have c116 : 1 = 0 := (nI_eq (a := 1) (b := 0) (by omega) (by omega)).mp c116
                          exact absurd c116 (by decide)
                        · -- not taken
                          have c116 : ¬ (1 = 0) := fun h => c116 ((nI_eq (a := 1) (b := 0) (by omega) (by omega)).mpr h)
                          refine lv_lload hx hb dM_pairs_119 (lv_at hl 6 rfl) ?_
                          refine lv_lconst (v := lN 1) hx hb dM_pairs_121 rfl ?_
                          refine lv_ladd hx hb dM_pairs_122 ?_
                          refine zz_topl (y := lN ((sumf (prs T pp qq bo fl) (T.take i) + (if T.getD i 0 / 65536 = pp then (T.take j).countP (inn qq bo fl (T.getD i 0)) else 0)) + 1)) (lN_add (sumf (prs T pp qq bo fl) (T.take i) + (if T.getD i 0 / 65536 = pp then (T.take j).countP (inn qq bo fl (T.getD i 0)) else 0)) 1) ?_
                          refine zz_topl (y := lN (sumf (prs T pp qq bo fl) (T.take i) + (if T.getD i 0 / 65536 = pp then (T.take (j + 1)).countP (inn qq bo fl (T.getD i 0)) else 0))) (congrArg lN (by
                            rw [if_pos hk, if_pos hk, tk1 _ j 0 (by omega), cp1, hin]; rfl)) ?_
                          refine lv_goto (tgt := 128) hx hb dM_pairs_123 (by decide) ?_
                          refine lv_lstore (lv' := [(5, .long (lN (sumf (prs T pp qq bo fl) (T.take i) + (if T.getD i 0 / 65536 = pp then (T.take (j + 1)).countP (inn qq bo fl (T.getD i 0)) else 0)))), (10, .int (nI 1)), (0, .ref m0), (1, .int (nI pp)), (2, .int (nI qq)), (3, .int (nI bo.toNat)), (4, .int (nI fl.toNat)), (7, .int (nI i)), (8, .int (nI (byk bo (T.getD i 0)))), (9, .int (nI j))]) hx hb dM_pairs_128 hl (by decide) rfl (fun ls hl => ?_)
                          refine lv_iinc (v := nI (j + 1)) (lv' := [(9, .int (nI (j + 1))), (5, .long (lN (sumf (prs T pp qq bo fl) (T.take i) + (if T.getD i 0 / 65536 = pp then (T.take (j + 1)).countP (inn qq bo fl (T.getD i 0)) else 0)))), (10, .int (nI 1)), (0, .ref m0), (1, .int (nI pp)), (2, .int (nI qq)), (3, .int (nI bo.toNat)), (4, .int (nI fl.toNat)), (7, .int (nI i)), (8, .int (nI (byk bo (T.getD i 0))))]) hx hb dM_pairs_130 hl (k := 9) rfl (nI_1 j) (by decide) rfl (fun ls hl => ?_)
                          refine lv_goto (tgt := 41) hx hb dM_pairs_133 (by decide) ?_
                          exact ih41 (j + 1) (by omega) (by omega) ls (lv_sub hl [3, 4, 5, 6, 7, 1, 8, 9, 0] rfl)
                      · -- not taken
                        have c86 : ¬ (fl.toNat = 0) := fun h => c86 ((nI_eq (a := fl.toNat) (b := 0) (by omega) (by omega)).mpr h)
                        refine lv_aload_n hx hb dM_pairs_89 rfl (lv_at hl 0 rfl) ?_
                        refine lv_iload hx hb dM_pairs_90 (lv_at hl 6 rfl) ?_
                        refine zz_ci (v := nI ((smp (T.getD i 0 % 65536)).toNat)) (W.runV (As := [.int (nI i)]) (rest := []) ⟨hx, hb, hml, hown, ht⟩ (c_M_isSampled l D cI cB m0 m1 m2 m3 m4 m5 m6 n k e su pd ob T hM i (by omega)) (cwV 1 ht (gd_V wd459 wd461 wp20 wd6 wd462) rfl rfl rfl (by decide +kernel) ⟨Nat.le_of_ble_eq_true rfl, Nat.le_of_ble_eq_true rfl⟩) (zz_R_V hN hK (hP.sub (ws' := [(m0, .inr (5, [.int (nI T.length), .ref m1, .ref m2, .ref m3, .int (nI n), .ref m4, .int (nI e), .int (nI k), .ref m5, .ref m6])), (m1, .inl (cI, 400, .inl su)), (m2, .inl (cI, 400, .inl pd)), (m3, .inl (cI, 400, .inl ob))]) [0, 1, 2, 3] rfl) 5 0 rfl rfl) rfl rfl hl.1 rfl (lv_room (Nat.le_of_ble_eq_true rfl)) dM_pairs_92 ⟨Nat.le_of_ble_eq_true rfl, Nat.le_of_ble_eq_true rfl⟩) ?_
                        refine lv_if_eq (tgt := 111) hx hb dM_pairs_95 (by decide) (fun c95 => ?_) (fun c95 => ?_)
                        · -- taken
                          have c95 : (smp (T.getD i 0 % 65536)).toNat = 0 := (nI_eq (a := (smp (T.getD i 0 % 65536)).toNat) (b := 0) (by omega) (by omega)).mp c95
                          have hin : (inn qq bo fl (T.getD i 0)) (T.getD j 0) = false := by rw [hi3, bt1 c86, bt0 c95]; rfl
                          refine lv_iconst (v := nI 0) hx hb dM_pairs_111 (by decide) ?_
                          refine lv_istore (lv' := [(10, .int (nI 0)), (0, .ref m0), (1, .int (nI pp)), (2, .int (nI qq)), (3, .int (nI bo.toNat)), (4, .int (nI fl.toNat)), (5, .long (lN (sumf (prs T pp qq bo fl) (T.take i) + (if T.getD i 0 / 65536 = pp then (T.take j).countP (inn qq bo fl (T.getD i 0)) else 0)))), (7, .int (nI i)), (8, .int (nI (byk bo (T.getD i 0)))), (9, .int (nI j))]) hx hb dM_pairs_112 hl (by decide) rfl (fun ls hl => ?_)
                          refine lv_iload hx hb dM_pairs_114 (lv_at hl 0 rfl) ?_
                          refine lv_if_eq (tgt := 126) hx hb dM_pairs_116 (by decide) (fun c116 => ?_) (fun c116 => ?_)
                          · -- taken
                            have c116 : 0 = 0 := (nI_eq (a := 0) (b := 0) (by omega) (by omega)).mp c116
                            refine lv_lload hx hb dM_pairs_126 (lv_at hl 6 rfl) ?_
                            refine zz_topl (y := lN (sumf (prs T pp qq bo fl) (T.take i) + (if T.getD i 0 / 65536 = pp then (T.take (j + 1)).countP (inn qq bo fl (T.getD i 0)) else 0))) (congrArg lN (by
                              rw [if_pos hk, if_pos hk, tk1 _ j 0 (by omega), cp1, hin]; rfl)) ?_
                            refine lv_lstore (lv' := [(5, .long (lN (sumf (prs T pp qq bo fl) (T.take i) + (if T.getD i 0 / 65536 = pp then (T.take (j + 1)).countP (inn qq bo fl (T.getD i 0)) else 0)))), (10, .int (nI 0)), (0, .ref m0), (1, .int (nI pp)), (2, .int (nI qq)), (3, .int (nI bo.toNat)), (4, .int (nI fl.toNat)), (7, .int (nI i)), (8, .int (nI (byk bo (T.getD i 0)))), (9, .int (nI j))]) hx hb dM_pairs_128 hl (by decide) rfl (fun ls hl => ?_)
                            refine lv_iinc (v := nI (j + 1)) (lv' := [(9, .int (nI (j + 1))), (5, .long (lN (sumf (prs T pp qq bo fl) (T.take i) + (if T.getD i 0 / 65536 = pp then (T.take (j + 1)).countP (inn qq bo fl (T.getD i 0)) else 0)))), (10, .int (nI 0)), (0, .ref m0), (1, .int (nI pp)), (2, .int (nI qq)), (3, .int (nI bo.toNat)), (4, .int (nI fl.toNat)), (7, .int (nI i)), (8, .int (nI (byk bo (T.getD i 0))))]) hx hb dM_pairs_130 hl (k := 9) rfl (nI_1 j) (by decide) rfl (fun ls hl => ?_)
                            refine lv_goto (tgt := 41) hx hb dM_pairs_133 (by decide) ?_
                            exact ih41 (j + 1) (by omega) (by omega) ls (lv_sub hl [3, 4, 5, 6, 7, 1, 8, 9, 0] rfl)
                          · -- not taken
                            have c116 : ¬ (0 = 0) := fun h => c116 ((nI_eq (a := 0) (b := 0) (by omega) (by omega)).mpr h)
                            exact absurd rfl c116
                        · -- not taken
                          have c95 : ¬ ((smp (T.getD i 0 % 65536)).toNat = 0) := fun h => c95 ((nI_eq (a := (smp (T.getD i 0 % 65536)).toNat) (b := 0) (by omega) (by omega)).mpr h)
                          refine lv_aload_n hx hb dM_pairs_98 rfl (lv_at hl 0 rfl) ?_
                          refine lv_iload hx hb dM_pairs_99 (lv_at hl 8 rfl) ?_
                          refine zz_ci (v := nI ((smp (T.getD j 0 % 65536)).toNat)) (W.runV (As := [.int (nI j)]) (rest := []) ⟨hx, hb, hml, hown, ht⟩ (c_M_isSampled l D cI cB m0 m1 m2 m3 m4 m5 m6 n k e su pd ob T hM j (by omega)) (cwV 1 ht (gd_V wd459 wd461 wp20 wd6 wd462) rfl rfl rfl (by decide +kernel) ⟨Nat.le_of_ble_eq_true rfl, Nat.le_of_ble_eq_true rfl⟩) (zz_R_V hN hK (hP.sub (ws' := [(m0, .inr (5, [.int (nI T.length), .ref m1, .ref m2, .ref m3, .int (nI n), .ref m4, .int (nI e), .int (nI k), .ref m5, .ref m6])), (m1, .inl (cI, 400, .inl su)), (m2, .inl (cI, 400, .inl pd)), (m3, .inl (cI, 400, .inl ob))]) [0, 1, 2, 3] rfl) 5 0 rfl rfl) rfl rfl hl.1 rfl (lv_room (Nat.le_of_ble_eq_true rfl)) dM_pairs_101 ⟨Nat.le_of_ble_eq_true rfl, Nat.le_of_ble_eq_true rfl⟩) ?_
                          refine lv_if_eq (tgt := 111) hx hb dM_pairs_104 (by decide) (fun c104 => ?_) (fun c104 => ?_)
                          · -- taken
                            have c104 : (smp (T.getD j 0 % 65536)).toNat = 0 := (nI_eq (a := (smp (T.getD j 0 % 65536)).toNat) (b := 0) (by omega) (by omega)).mp c104
                            have hin : (inn qq bo fl (T.getD i 0)) (T.getD j 0) = false := by rw [hi3, bt1 c86, bt0 c104, Bool.and_false]; rfl
                            refine lv_iconst (v := nI 0) hx hb dM_pairs_111 (by decide) ?_
                            refine lv_istore (lv' := [(10, .int (nI 0)), (0, .ref m0), (1, .int (nI pp)), (2, .int (nI qq)), (3, .int (nI bo.toNat)), (4, .int (nI fl.toNat)), (5, .long (lN (sumf (prs T pp qq bo fl) (T.take i) + (if T.getD i 0 / 65536 = pp then (T.take j).countP (inn qq bo fl (T.getD i 0)) else 0)))), (7, .int (nI i)), (8, .int (nI (byk bo (T.getD i 0)))), (9, .int (nI j))]) hx hb dM_pairs_112 hl (by decide) rfl (fun ls hl => ?_)
                            refine lv_iload hx hb dM_pairs_114 (lv_at hl 0 rfl) ?_
                            refine lv_if_eq (tgt := 126) hx hb dM_pairs_116 (by decide) (fun c116 => ?_) (fun c116 => ?_)
                            · -- taken
                              have c116 : 0 = 0 := (nI_eq (a := 0) (b := 0) (by omega) (by omega)).mp c116
                              refine lv_lload hx hb dM_pairs_126 (lv_at hl 6 rfl) ?_
                              refine zz_topl (y := lN (sumf (prs T pp qq bo fl) (T.take i) + (if T.getD i 0 / 65536 = pp then (T.take (j + 1)).countP (inn qq bo fl (T.getD i 0)) else 0))) (congrArg lN (by
                                rw [if_pos hk, if_pos hk, tk1 _ j 0 (by omega), cp1, hin]; rfl)) ?_
                              refine lv_lstore (lv' := [(5, .long (lN (sumf (prs T pp qq bo fl) (T.take i) + (if T.getD i 0 / 65536 = pp then (T.take (j + 1)).countP (inn qq bo fl (T.getD i 0)) else 0)))), (10, .int (nI 0)), (0, .ref m0), (1, .int (nI pp)), (2, .int (nI qq)), (3, .int (nI bo.toNat)), (4, .int (nI fl.toNat)), (7, .int (nI i)), (8, .int (nI (byk bo (T.getD i 0)))), (9, .int (nI j))]) hx hb dM_pairs_128 hl (by decide) rfl (fun ls hl => ?_)
                              refine lv_iinc (v := nI (j + 1)) (lv' := [(9, .int (nI (j + 1))), (5, .long (lN (sumf (prs T pp qq bo fl) (T.take i) + (if T.getD i 0 / 65536 = pp then (T.take (j + 1)).countP (inn qq bo fl (T.getD i 0)) else 0)))), (10, .int (nI 0)), (0, .ref m0), (1, .int (nI pp)), (2, .int (nI qq)), (3, .int (nI bo.toNat)), (4, .int (nI fl.toNat)), (7, .int (nI i)), (8, .int (nI (byk bo (T.getD i 0))))]) hx hb dM_pairs_130 hl (k := 9) rfl (nI_1 j) (by decide) rfl (fun ls hl => ?_)
                              refine lv_goto (tgt := 41) hx hb dM_pairs_133 (by decide) ?_
                              exact ih41 (j + 1) (by omega) (by omega) ls (lv_sub hl [3, 4, 5, 6, 7, 1, 8, 9, 0] rfl)
                            · -- not taken
                              have c116 : ¬ (0 = 0) := fun h => c116 ((nI_eq (a := 0) (b := 0) (by omega) (by omega)).mpr h)
                              exact absurd rfl c116
                          · -- not taken
                            have c104 : ¬ ((smp (T.getD j 0 % 65536)).toNat = 0) := fun h => c104 ((nI_eq (a := (smp (T.getD j 0 % 65536)).toNat) (b := 0) (by omega) (by omega)).mpr h)
                            have hin : (inn qq bo fl (T.getD i 0)) (T.getD j 0) = true := by rw [hi3, bt1 c95, bt1 c104]; simp
                            refine lv_iconst (v := nI 1) hx hb dM_pairs_107 (by decide) ?_
                            refine lv_goto (tgt := 112) hx hb dM_pairs_108 (by decide) ?_
                            refine lv_istore (lv' := [(10, .int (nI 1)), (0, .ref m0), (1, .int (nI pp)), (2, .int (nI qq)), (3, .int (nI bo.toNat)), (4, .int (nI fl.toNat)), (5, .long (lN (sumf (prs T pp qq bo fl) (T.take i) + (if T.getD i 0 / 65536 = pp then (T.take j).countP (inn qq bo fl (T.getD i 0)) else 0)))), (7, .int (nI i)), (8, .int (nI (byk bo (T.getD i 0)))), (9, .int (nI j))]) hx hb dM_pairs_112 hl (by decide) rfl (fun ls hl => ?_)
                            refine lv_iload hx hb dM_pairs_114 (lv_at hl 0 rfl) ?_
                            refine lv_if_eq (tgt := 126) hx hb dM_pairs_116 (by decide) (fun c116 => ?_) (fun c116 => ?_)
                            · -- taken
                              have c116 : 1 = 0 := (nI_eq (a := 1) (b := 0) (by omega) (by omega)).mp c116
                              exact absurd c116 (by decide)
                            · -- not taken
                              have c116 : ¬ (1 = 0) := fun h => c116 ((nI_eq (a := 1) (b := 0) (by omega) (by omega)).mpr h)
                              refine lv_lload hx hb dM_pairs_119 (lv_at hl 6 rfl) ?_
                              refine lv_lconst (v := lN 1) hx hb dM_pairs_121 rfl ?_
                              refine lv_ladd hx hb dM_pairs_122 ?_
                              refine zz_topl (y := lN ((sumf (prs T pp qq bo fl) (T.take i) + (if T.getD i 0 / 65536 = pp then (T.take j).countP (inn qq bo fl (T.getD i 0)) else 0)) + 1)) (lN_add (sumf (prs T pp qq bo fl) (T.take i) + (if T.getD i 0 / 65536 = pp then (T.take j).countP (inn qq bo fl (T.getD i 0)) else 0)) 1) ?_
                              refine zz_topl (y := lN (sumf (prs T pp qq bo fl) (T.take i) + (if T.getD i 0 / 65536 = pp then (T.take (j + 1)).countP (inn qq bo fl (T.getD i 0)) else 0))) (congrArg lN (by
                                rw [if_pos hk, if_pos hk, tk1 _ j 0 (by omega), cp1, hin]; rfl)) ?_
                              refine lv_goto (tgt := 128) hx hb dM_pairs_123 (by decide) ?_
                              refine lv_lstore (lv' := [(5, .long (lN (sumf (prs T pp qq bo fl) (T.take i) + (if T.getD i 0 / 65536 = pp then (T.take (j + 1)).countP (inn qq bo fl (T.getD i 0)) else 0)))), (10, .int (nI 1)), (0, .ref m0), (1, .int (nI pp)), (2, .int (nI qq)), (3, .int (nI bo.toNat)), (4, .int (nI fl.toNat)), (7, .int (nI i)), (8, .int (nI (byk bo (T.getD i 0)))), (9, .int (nI j))]) hx hb dM_pairs_128 hl (by decide) rfl (fun ls hl => ?_)
                              refine lv_iinc (v := nI (j + 1)) (lv' := [(9, .int (nI (j + 1))), (5, .long (lN (sumf (prs T pp qq bo fl) (T.take i) + (if T.getD i 0 / 65536 = pp then (T.take (j + 1)).countP (inn qq bo fl (T.getD i 0)) else 0)))), (10, .int (nI 1)), (0, .ref m0), (1, .int (nI pp)), (2, .int (nI qq)), (3, .int (nI bo.toNat)), (4, .int (nI fl.toNat)), (7, .int (nI i)), (8, .int (nI (byk bo (T.getD i 0))))]) hx hb dM_pairs_130 hl (k := 9) rfl (nI_1 j) (by decide) rfl (fun ls hl => ?_)
                              refine lv_goto (tgt := 41) hx hb dM_pairs_133 (by decide) ?_
                              exact ih41 (j + 1) (by omega) (by omega) ls (lv_sub hl [3, 4, 5, 6, 7, 1, 8, 9, 0] rfl)
          exact lp41 ((T.length - 0) + 1) 0 (Nat.zero_le _) (Nat.lt_succ_self _) ls (lv_sub hl [2, 3, 4, 5, 6, 7, 8, 1, 0] rfl)
        · -- not taken
          have c16 : ¬ (bo.toNat = 0) := fun h => c16 ((nI_eq (a := bo.toNat) (b := 0) (by omega) (by omega)).mpr h)
          refine lv_aload_n hx hb dM_pairs_19 rfl (lv_at hl 0 rfl) ?_
          refine va_get (D := D) (ci := 5) (v := .ref m3) (C := "StatRowsModel") (T := TM) (N := 10) hx hb ht inM hown hK hP 0 rfl rfl 3 (by decide) (ht _ wd392) (fun _ h9 => h9) rfl dM_pairs_20 ?_
          refine lv_iload hx hb dM_pairs_23 (lv_at hl 6 rfl) ?_
          refine zz_iald (k := i) hx hb hK hP 3 0 rfl rfl (by omega) (by decide) dM_pairs_25 ?_
          refine zz_top (y := nI (T.getD i 0 % 256)) ((hM.1 i (by omega)).2.2) ?_
          refine zz_top (y := nI (byk bo (T.getD i 0))) (congrArg nI (by unfold byk; rw [bt1 c16]; rfl)) ?_
          refine lv_goto (tgt := 36) hx hb dM_pairs_26 (by decide) ?_
          refine lv_istore (lv' := [(8, .int (nI (byk bo (T.getD i 0)))), (0, .ref m0), (1, .int (nI pp)), (2, .int (nI qq)), (3, .int (nI bo.toNat)), (4, .int (nI fl.toNat)), (5, .long (lN (sumf (prs T pp qq bo fl) (T.take i)))), (7, .int (nI i))]) hx hb dM_pairs_36 hl (by decide) rfl (fun ls hl => ?_)
          rw [show sumf (prs T pp qq bo fl) (T.take i) = sumf (prs T pp qq bo fl) (T.take i) + (if T.getD i 0 / 65536 = pp then (T.take 0).countP (inn qq bo fl (T.getD i 0)) else 0) from by simp] at hl
          refine lv_iconst (v := nI 0) hx hb dM_pairs_38 (by decide) ?_
          refine lv_istore (lv' := [(9, .int (nI 0)), (8, .int (nI (byk bo (T.getD i 0)))), (0, .ref m0), (1, .int (nI pp)), (2, .int (nI qq)), (3, .int (nI bo.toNat)), (4, .int (nI fl.toNat)), (5, .long (lN (sumf (prs T pp qq bo fl) (T.take i) + (if T.getD i 0 / 65536 = pp then (T.take 0).countP (inn qq bo fl (T.getD i 0)) else 0)))), (7, .int (nI i))]) hx hb dM_pairs_39 hl (by decide) rfl (fun ls hl => ?_)
          have lp41 : ∀ (fu : Nat) (j : Nat) (hj : j ≤ T.length) (hm : T.length - j < fu) (ls : Array Slot) (hl : lv_has ls 11 [(0, .ref m0), (1, .int (nI pp)), (2, .int (nI qq)), (3, .int (nI bo.toNat)), (4, .int (nI fl.toNat)), (5, .long (lN (sumf (prs T pp qq bo fl) (T.take i) + (if T.getD i 0 / 65536 = pp then (T.take j).countP (inn qq bo fl (T.getD i 0)) else 0)))), (7, .int (nI i)), (8, .int (nI (byk bo (T.getD i 0)))), (9, .int (nI j))]), W pg l ev (headSpec wM_pairs rm_M_pairs).room s mt (([.ref m0, .int (nI pp), .int (nI qq), .int (nI bo.toNat), .int (nI fl.toNat)] : List Value).toArray) below meth kd s.heap [] 0 0 (MQ below (vp_Sl (fun r : Int64 => r = lN (sumf (prs T pp qq bo fl) T))) (([.ref m0, .int (nI pp), .int (nI qq), .int (nI bo.toNat), .int (nI fl.toNat)] : List Value).toArray) s 0 0 (fun _ => False)) (F0 mt 41 ls []) := by
            intro fu
            induction fu with
            | zero => intro j hj hm; exact absurd hm (Nat.not_lt_zero _)
            | succ fu ih41 =>
              intro j hj hm ls hl
              refine lv_iload hx hb dM_pairs_41 (lv_at hl 8 rfl) ?_
              refine lv_aload_n hx hb dM_pairs_43 rfl (lv_at hl 0 rfl) ?_
              refine va_get (D := D) (ci := 5) (v := .int (nI T.length)) (C := "StatRowsModel") (T := TM) (N := 10) hx hb ht inM hown hK hP 0 rfl rfl 0 (by decide) (ht _ wd389) (fun _ h9 => h9) rfl dM_pairs_44 ?_
              refine lv_icmp_ge (tgt := 136) hx hb dM_pairs_47 (by decide) (fun c47 => ?_) (fun c47 => ?_)
              · -- taken
                have c47 : T.length ≤ j := (nI_leI (a := T.length) (b := j) (by omega) (by omega)).mp c47
                have ez : sumf (prs T pp qq bo fl) (T.take i) + (if T.getD i 0 / 65536 = pp then (T.take j).countP (inn qq bo fl (T.getD i 0)) else 0) = sumf (prs T pp qq bo fl) (T.take (i + 1)) := by
                  rw [tk1 _ i 0 (by omega), sumf1]; congr 1; unfold prs; rw [tkl _ j (by omega)]
                rw [ez] at hl
                refine lv_iinc (v := nI (i + 1)) (lv' := [(7, .int (nI (i + 1))), (0, .ref m0), (1, .int (nI pp)), (2, .int (nI qq)), (3, .int (nI bo.toNat)), (4, .int (nI fl.toNat)), (5, .long (lN (sumf (prs T pp qq bo fl) (T.take (i + 1))))), (8, .int (nI (byk bo (T.getD i 0)))), (9, .int (nI j))]) hx hb dM_pairs_136 hl (k := 6) rfl (nI_1 i) (by decide) rfl (fun ls hl => ?_)
                refine lv_goto (tgt := 6) hx hb dM_pairs_139 (by decide) ?_
                exact ih6 (i + 1) (by omega) (by omega) ls (lv_sub hl [1, 2, 3, 4, 5, 6, 0] rfl)
              · -- not taken
                have c47 : ¬ (T.length ≤ j) := fun h => c47 ((nI_leI (a := T.length) (b := j) (by omega) (by omega)).mpr h)
                have hCj := hM.2.2.1 j (by omega)
                have bsi := btl (smp (T.getD i 0 % 65536))
                have bsj := btl (smp (T.getD j 0 % 65536))
                refine lv_aload_n hx hb dM_pairs_50 rfl (lv_at hl 0 rfl) ?_
                refine va_get (D := D) (ci := 5) (v := .ref m2) (C := "StatRowsModel") (T := TM) (N := 10) hx hb ht inM hown hK hP 0 rfl rfl 2 (by decide) (ht _ wd391) (fun _ h9 => h9) rfl dM_pairs_51 ?_
                refine lv_iload hx hb dM_pairs_54 (lv_at hl 6 rfl) ?_
                refine zz_iald (k := i) hx hb hK hP 2 0 rfl rfl (by omega) (by decide) dM_pairs_56 ?_
                refine zz_top (y := nI (T.getD i 0 / 65536)) ((hM.1 i (by omega)).2.1) ?_
                refine lv_iload_n hx hb dM_pairs_57 rfl (lv_at hl 1 rfl) ?_
                refine lv_icmp_ne (tgt := 136) hx hb dM_pairs_58 (by decide) (fun c58 => ?_) (fun c58 => ?_)
                · -- taken
                  have c58 : ¬ (T.getD i 0 / 65536 = pp) := fun h => c58 ((nI_eq (a := T.getD i 0 / 65536) (b := pp) (by omega) (by omega)).mpr h)
                  have ez : sumf (prs T pp qq bo fl) (T.take i) + (if T.getD i 0 / 65536 = pp then (T.take j).countP (inn qq bo fl (T.getD i 0)) else 0) = sumf (prs T pp qq bo fl) (T.take (i + 1)) := by
                    rw [tk1 _ i 0 (by omega), sumf1]; congr 1; unfold prs; rw [if_neg c58, if_neg c58]
                  rw [ez] at hl
                  refine lv_iinc (v := nI (i + 1)) (lv' := [(7, .int (nI (i + 1))), (0, .ref m0), (1, .int (nI pp)), (2, .int (nI qq)), (3, .int (nI bo.toNat)), (4, .int (nI fl.toNat)), (5, .long (lN (sumf (prs T pp qq bo fl) (T.take (i + 1))))), (8, .int (nI (byk bo (T.getD i 0)))), (9, .int (nI j))]) hx hb dM_pairs_136 hl (k := 6) rfl (nI_1 i) (by decide) rfl (fun ls hl => ?_)
                  refine lv_goto (tgt := 6) hx hb dM_pairs_139 (by decide) ?_
                  exact ih6 (i + 1) (by omega) (by omega) ls (lv_sub hl [1, 2, 3, 4, 5, 6, 0] rfl)
                · -- not taken
                  have c58 : T.getD i 0 / 65536 = pp := (nI_eq (a := T.getD i 0 / 65536) (b := pp) (by omega) (by omega)).mp c58
                  have hk := c58
                  refine lv_aload_n hx hb dM_pairs_61 rfl (lv_at hl 0 rfl) ?_
                  refine va_get (D := D) (ci := 5) (v := .ref m2) (C := "StatRowsModel") (T := TM) (N := 10) hx hb ht inM hown hK hP 0 rfl rfl 2 (by decide) (ht _ wd391) (fun _ h9 => h9) rfl dM_pairs_62 ?_
                  refine lv_iload hx hb dM_pairs_65 (lv_at hl 8 rfl) ?_
                  refine zz_iald (k := j) hx hb hK hP 2 0 rfl rfl (by omega) (by decide) dM_pairs_67 ?_
                  refine zz_top (y := nI (T.getD j 0 / 65536)) ((hM.1 j (by omega)).2.1) ?_
                  refine lv_iload_n hx hb dM_pairs_68 rfl (lv_at hl 2 rfl) ?_
                  refine lv_icmp_ne (tgt := 111) hx hb dM_pairs_69 (by decide) (fun c69 => ?_) (fun c69 => ?_)
                  · -- taken
                    have c69 : ¬ (T.getD j 0 / 65536 = qq) := fun h => c69 ((nI_eq (a := T.getD j 0 / 65536) (b := qq) (by omega) (by omega)).mpr h)
                    have hin : (inn qq bo fl (T.getD i 0)) (T.getD j 0) = false := inn_f1 c69
                    refine lv_iconst (v := nI 0) hx hb dM_pairs_111 (by decide) ?_
                    refine lv_istore (lv' := [(10, .int (nI 0)), (0, .ref m0), (1, .int (nI pp)), (2, .int (nI qq)), (3, .int (nI bo.toNat)), (4, .int (nI fl.toNat)), (5, .long (lN (sumf (prs T pp qq bo fl) (T.take i) + (if T.getD i 0 / 65536 = pp then (T.take j).countP (inn qq bo fl (T.getD i 0)) else 0)))), (7, .int (nI i)), (8, .int (nI (byk bo (T.getD i 0)))), (9, .int (nI j))]) hx hb dM_pairs_112 hl (by decide) rfl (fun ls hl => ?_)
                    refine lv_iload hx hb dM_pairs_114 (lv_at hl 0 rfl) ?_
                    refine lv_if_eq (tgt := 126) hx hb dM_pairs_116 (by decide) (fun c116 => ?_) (fun c116 => ?_)
                    · -- taken
                      have c116 : 0 = 0 := (nI_eq (a := 0) (b := 0) (by omega) (by omega)).mp c116
                      refine lv_lload hx hb dM_pairs_126 (lv_at hl 6 rfl) ?_
                      refine zz_topl (y := lN (sumf (prs T pp qq bo fl) (T.take i) + (if T.getD i 0 / 65536 = pp then (T.take (j + 1)).countP (inn qq bo fl (T.getD i 0)) else 0))) (congrArg lN (by
                        rw [if_pos hk, if_pos hk, tk1 _ j 0 (by omega), cp1, hin]; rfl)) ?_
                      refine lv_lstore (lv' := [(5, .long (lN (sumf (prs T pp qq bo fl) (T.take i) + (if T.getD i 0 / 65536 = pp then (T.take (j + 1)).countP (inn qq bo fl (T.getD i 0)) else 0)))), (10, .int (nI 0)), (0, .ref m0), (1, .int (nI pp)), (2, .int (nI qq)), (3, .int (nI bo.toNat)), (4, .int (nI fl.toNat)), (7, .int (nI i)), (8, .int (nI (byk bo (T.getD i 0)))), (9, .int (nI j))]) hx hb dM_pairs_128 hl (by decide) rfl (fun ls hl => ?_)
                      refine lv_iinc (v := nI (j + 1)) (lv' := [(9, .int (nI (j + 1))), (5, .long (lN (sumf (prs T pp qq bo fl) (T.take i) + (if T.getD i 0 / 65536 = pp then (T.take (j + 1)).countP (inn qq bo fl (T.getD i 0)) else 0)))), (10, .int (nI 0)), (0, .ref m0), (1, .int (nI pp)), (2, .int (nI qq)), (3, .int (nI bo.toNat)), (4, .int (nI fl.toNat)), (7, .int (nI i)), (8, .int (nI (byk bo (T.getD i 0))))]) hx hb dM_pairs_130 hl (k := 9) rfl (nI_1 j) (by decide) rfl (fun ls hl => ?_)
                      refine lv_goto (tgt := 41) hx hb dM_pairs_133 (by decide) ?_
                      exact ih41 (j + 1) (by omega) (by omega) ls (lv_sub hl [3, 4, 5, 6, 7, 1, 8, 9, 0] rfl)
                    · -- not taken
                      have c116 : ¬ (0 = 0) := fun h => c116 ((nI_eq (a := 0) (b := 0) (by omega) (by omega)).mpr h)
                      exact absurd rfl c116
                  · -- not taken
                    have c69 : T.getD j 0 / 65536 = qq := (nI_eq (a := T.getD j 0 / 65536) (b := qq) (by omega) (by omega)).mp c69
                    refine lv_aload_n hx hb dM_pairs_72 rfl (lv_at hl 0 rfl) ?_
                    refine va_get (D := D) (ci := 5) (v := .ref m1) (C := "StatRowsModel") (T := TM) (N := 10) hx hb ht inM hown hK hP 0 rfl rfl 1 (by decide) (ht _ wd390) (fun _ h9 => h9) rfl dM_pairs_73 ?_
                    refine lv_iload hx hb dM_pairs_76 (lv_at hl 8 rfl) ?_
                    refine zz_iald (k := j) hx hb hK hP 1 0 rfl rfl (by omega) (by decide) dM_pairs_78 ?_
                    refine zz_top (y := nI (T.getD j 0 / 256 % 256)) ((hM.1 j (by omega)).1) ?_
                    refine lv_iload hx hb dM_pairs_79 (lv_at hl 7 rfl) ?_
                    refine lv_icmp_ne (tgt := 111) hx hb dM_pairs_81 (by decide) (fun c81 => ?_) (fun c81 => ?_)
                    · -- taken
                      have c81 : ¬ (T.getD j 0 / 256 % 256 = byk bo (T.getD i 0)) := fun h => c81 ((nI_eq (a := T.getD j 0 / 256 % 256) (b := byk bo (T.getD i 0)) (by omega) (by omega)).mpr h)
                      have hin : (inn qq bo fl (T.getD i 0)) (T.getD j 0) = false := inn_f2 c81
                      refine lv_iconst (v := nI 0) hx hb dM_pairs_111 (by decide) ?_
                      refine lv_istore (lv' := [(10, .int (nI 0)), (0, .ref m0), (1, .int (nI pp)), (2, .int (nI qq)), (3, .int (nI bo.toNat)), (4, .int (nI fl.toNat)), (5, .long (lN (sumf (prs T pp qq bo fl) (T.take i) + (if T.getD i 0 / 65536 = pp then (T.take j).countP (inn qq bo fl (T.getD i 0)) else 0)))), (7, .int (nI i)), (8, .int (nI (byk bo (T.getD i 0)))), (9, .int (nI j))]) hx hb dM_pairs_112 hl (by decide) rfl (fun ls hl => ?_)
                      refine lv_iload hx hb dM_pairs_114 (lv_at hl 0 rfl) ?_
                      refine lv_if_eq (tgt := 126) hx hb dM_pairs_116 (by decide) (fun c116 => ?_) (fun c116 => ?_)
                      · -- taken
                        have c116 : 0 = 0 := (nI_eq (a := 0) (b := 0) (by omega) (by omega)).mp c116
                        refine lv_lload hx hb dM_pairs_126 (lv_at hl 6 rfl) ?_
                        refine zz_topl (y := lN (sumf (prs T pp qq bo fl) (T.take i) + (if T.getD i 0 / 65536 = pp then (T.take (j + 1)).countP (inn qq bo fl (T.getD i 0)) else 0))) (congrArg lN (by
                          rw [if_pos hk, if_pos hk, tk1 _ j 0 (by omega), cp1, hin]; rfl)) ?_
                        refine lv_lstore (lv' := [(5, .long (lN (sumf (prs T pp qq bo fl) (T.take i) + (if T.getD i 0 / 65536 = pp then (T.take (j + 1)).countP (inn qq bo fl (T.getD i 0)) else 0)))), (10, .int (nI 0)), (0, .ref m0), (1, .int (nI pp)), (2, .int (nI qq)), (3, .int (nI bo.toNat)), (4, .int (nI fl.toNat)), (7, .int (nI i)), (8, .int (nI (byk bo (T.getD i 0)))), (9, .int (nI j))]) hx hb dM_pairs_128 hl (by decide) rfl (fun ls hl => ?_)
                        refine lv_iinc (v := nI (j + 1)) (lv' := [(9, .int (nI (j + 1))), (5, .long (lN (sumf (prs T pp qq bo fl) (T.take i) + (if T.getD i 0 / 65536 = pp then (T.take (j + 1)).countP (inn qq bo fl (T.getD i 0)) else 0)))), (10, .int (nI 0)), (0, .ref m0), (1, .int (nI pp)), (2, .int (nI qq)), (3, .int (nI bo.toNat)), (4, .int (nI fl.toNat)), (7, .int (nI i)), (8, .int (nI (byk bo (T.getD i 0))))]) hx hb dM_pairs_130 hl (k := 9) rfl (nI_1 j) (by decide) rfl (fun ls hl => ?_)
                        refine lv_goto (tgt := 41) hx hb dM_pairs_133 (by decide) ?_
                        exact ih41 (j + 1) (by omega) (by omega) ls (lv_sub hl [3, 4, 5, 6, 7, 1, 8, 9, 0] rfl)
                      · -- not taken
                        have c116 : ¬ (0 = 0) := fun h => c116 ((nI_eq (a := 0) (b := 0) (by omega) (by omega)).mpr h)
                        exact absurd rfl c116
                    · -- not taken
                      have c81 : T.getD j 0 / 256 % 256 = byk bo (T.getD i 0) := (nI_eq (a := T.getD j 0 / 256 % 256) (b := byk bo (T.getD i 0)) (by omega) (by omega)).mp c81
                      have hi3 := inn_3 (fl := fl) c69 c81
                      refine lv_iload hx hb dM_pairs_84 (lv_at hl 4 rfl) ?_
                      refine lv_if_eq (tgt := 107) hx hb dM_pairs_86 (by decide) (fun c86 => ?_) (fun c86 => ?_)
                      · -- taken
                        have c86 : fl.toNat = 0 := (nI_eq (a := fl.toNat) (b := 0) (by omega) (by omega)).mp c86
                        have hin : (inn qq bo fl (T.getD i 0)) (T.getD j 0) = true := by rw [hi3, bt0 c86]; rfl
                        refine lv_iconst (v := nI 1) hx hb dM_pairs_107 (by decide) ?_
                        refine lv_goto (tgt := 112) hx hb dM_pairs_108 (by decide) ?_
                        refine lv_istore (lv' := [(10, .int (nI 1)), (0, .ref m0), (1, .int (nI pp)), (2, .int (nI qq)), (3, .int (nI bo.toNat)), (4, .int (nI fl.toNat)), (5, .long (lN (sumf (prs T pp qq bo fl) (T.take i) + (if T.getD i 0 / 65536 = pp then (T.take j).countP (inn qq bo fl (T.getD i 0)) else 0)))), (7, .int (nI i)), (8, .int (nI (byk bo (T.getD i 0)))), (9, .int (nI j))]) hx hb dM_pairs_112 hl (by decide) rfl (fun ls hl => ?_)
                        refine lv_iload hx hb dM_pairs_114 (lv_at hl 0 rfl) ?_
                        refine lv_if_eq (tgt := 126) hx hb dM_pairs_116 (by decide) (fun c116 => ?_) (fun c116 => ?_)
                        · -- taken
                          have c116 : 1 = 0 := (nI_eq (a := 1) (b := 0) (by omega) (by omega)).mp c116
                          exact absurd c116 (by decide)
                        · -- not taken
                          have c116 : ¬ (1 = 0) := fun h => c116 ((nI_eq (a := 1) (b := 0) (by omega) (by omega)).mpr h)
                          refine lv_lload hx hb dM_pairs_119 (lv_at hl 6 rfl) ?_
                          refine lv_lconst (v := lN 1) hx hb dM_pairs_121 rfl ?_
                          refine lv_ladd hx hb dM_pairs_122 ?_
                          refine zz_topl (y := lN ((sumf (prs T pp qq bo fl) (T.take i) + (if T.getD i 0 / 65536 = pp then (T.take j).countP (inn qq bo fl (T.getD i 0)) else 0)) + 1)) (lN_add (sumf (prs T pp qq bo fl) (T.take i) + (if T.getD i 0 / 65536 = pp then (T.take j).countP (inn qq bo fl (T.getD i 0)) else 0)) 1) ?_
                          refine zz_topl (y := lN (sumf (prs T pp qq bo fl) (T.take i) + (if T.getD i 0 / 65536 = pp then (T.take (j + 1)).countP (inn qq bo fl (T.getD i 0)) else 0))) (congrArg lN (by
                            rw [if_pos hk, if_pos hk, tk1 _ j 0 (by omega), cp1, hin]; rfl)) ?_
                          refine lv_goto (tgt := 128) hx hb dM_pairs_123 (by decide) ?_
                          refine lv_lstore (lv' := [(5, .long (lN (sumf (prs T pp qq bo fl) (T.take i) + (if T.getD i 0 / 65536 = pp then (T.take (j + 1)).countP (inn qq bo fl (T.getD i 0)) else 0)))), (10, .int (nI 1)), (0, .ref m0), (1, .int (nI pp)), (2, .int (nI qq)), (3, .int (nI bo.toNat)), (4, .int (nI fl.toNat)), (7, .int (nI i)), (8, .int (nI (byk bo (T.getD i 0)))), (9, .int (nI j))]) hx hb dM_pairs_128 hl (by decide) rfl (fun ls hl => ?_)
                          refine lv_iinc (v := nI (j + 1)) (lv' := [(9, .int (nI (j + 1))), (5, .long (lN (sumf (prs T pp qq bo fl) (T.take i) + (if T.getD i 0 / 65536 = pp then (T.take (j + 1)).countP (inn qq bo fl (T.getD i 0)) else 0)))), (10, .int (nI 1)), (0, .ref m0), (1, .int (nI pp)), (2, .int (nI qq)), (3, .int (nI bo.toNat)), (4, .int (nI fl.toNat)), (7, .int (nI i)), (8, .int (nI (byk bo (T.getD i 0))))]) hx hb dM_pairs_130 hl (k := 9) rfl (nI_1 j) (by decide) rfl (fun ls hl => ?_)
                          refine lv_goto (tgt := 41) hx hb dM_pairs_133 (by decide) ?_
                          exact ih41 (j + 1) (by omega) (by omega) ls (lv_sub hl [3, 4, 5, 6, 7, 1, 8, 9, 0] rfl)
                      · -- not taken
                        have c86 : ¬ (fl.toNat = 0) := fun h => c86 ((nI_eq (a := fl.toNat) (b := 0) (by omega) (by omega)).mpr h)
                        refine lv_aload_n hx hb dM_pairs_89 rfl (lv_at hl 0 rfl) ?_
                        refine lv_iload hx hb dM_pairs_90 (lv_at hl 6 rfl) ?_
                        refine zz_ci (v := nI ((smp (T.getD i 0 % 65536)).toNat)) (W.runV (As := [.int (nI i)]) (rest := []) ⟨hx, hb, hml, hown, ht⟩ (c_M_isSampled l D cI cB m0 m1 m2 m3 m4 m5 m6 n k e su pd ob T hM i (by omega)) (cwV 1 ht (gd_V wd459 wd461 wp20 wd6 wd462) rfl rfl rfl (by decide +kernel) ⟨Nat.le_of_ble_eq_true rfl, Nat.le_of_ble_eq_true rfl⟩) (zz_R_V hN hK (hP.sub (ws' := [(m0, .inr (5, [.int (nI T.length), .ref m1, .ref m2, .ref m3, .int (nI n), .ref m4, .int (nI e), .int (nI k), .ref m5, .ref m6])), (m1, .inl (cI, 400, .inl su)), (m2, .inl (cI, 400, .inl pd)), (m3, .inl (cI, 400, .inl ob))]) [0, 1, 2, 3] rfl) 5 0 rfl rfl) rfl rfl hl.1 rfl (lv_room (Nat.le_of_ble_eq_true rfl)) dM_pairs_92 ⟨Nat.le_of_ble_eq_true rfl, Nat.le_of_ble_eq_true rfl⟩) ?_
                        refine lv_if_eq (tgt := 111) hx hb dM_pairs_95 (by decide) (fun c95 => ?_) (fun c95 => ?_)
                        · -- taken
                          have c95 : (smp (T.getD i 0 % 65536)).toNat = 0 := (nI_eq (a := (smp (T.getD i 0 % 65536)).toNat) (b := 0) (by omega) (by omega)).mp c95
                          have hin : (inn qq bo fl (T.getD i 0)) (T.getD j 0) = false := by rw [hi3, bt1 c86, bt0 c95]; rfl
                          refine lv_iconst (v := nI 0) hx hb dM_pairs_111 (by decide) ?_
                          refine lv_istore (lv' := [(10, .int (nI 0)), (0, .ref m0), (1, .int (nI pp)), (2, .int (nI qq)), (3, .int (nI bo.toNat)), (4, .int (nI fl.toNat)), (5, .long (lN (sumf (prs T pp qq bo fl) (T.take i) + (if T.getD i 0 / 65536 = pp then (T.take j).countP (inn qq bo fl (T.getD i 0)) else 0)))), (7, .int (nI i)), (8, .int (nI (byk bo (T.getD i 0)))), (9, .int (nI j))]) hx hb dM_pairs_112 hl (by decide) rfl (fun ls hl => ?_)
                          refine lv_iload hx hb dM_pairs_114 (lv_at hl 0 rfl) ?_
                          refine lv_if_eq (tgt := 126) hx hb dM_pairs_116 (by decide) (fun c116 => ?_) (fun c116 => ?_)
                          · -- taken
                            have c116 : 0 = 0 := (nI_eq (a := 0) (b := 0) (by omega) (by omega)).mp c116
                            refine lv_lload hx hb dM_pairs_126 (lv_at hl 6 rfl) ?_
                            refine zz_topl (y := lN (sumf (prs T pp qq bo fl) (T.take i) + (if T.getD i 0 / 65536 = pp then (T.take (j + 1)).countP (inn qq bo fl (T.getD i 0)) else 0))) (congrArg lN (by
                              rw [if_pos hk, if_pos hk, tk1 _ j 0 (by omega), cp1, hin]; rfl)) ?_
                            refine lv_lstore (lv' := [(5, .long (lN (sumf (prs T pp qq bo fl) (T.take i) + (if T.getD i 0 / 65536 = pp then (T.take (j + 1)).countP (inn qq bo fl (T.getD i 0)) else 0)))), (10, .int (nI 0)), (0, .ref m0), (1, .int (nI pp)), (2, .int (nI qq)), (3, .int (nI bo.toNat)), (4, .int (nI fl.toNat)), (7, .int (nI i)), (8, .int (nI (byk bo (T.getD i 0)))), (9, .int (nI j))]) hx hb dM_pairs_128 hl (by decide) rfl (fun ls hl => ?_)
                            refine lv_iinc (v := nI (j + 1)) (lv' := [(9, .int (nI (j + 1))), (5, .long (lN (sumf (prs T pp qq bo fl) (T.take i) + (if T.getD i 0 / 65536 = pp then (T.take (j + 1)).countP (inn qq bo fl (T.getD i 0)) else 0)))), (10, .int (nI 0)), (0, .ref m0), (1, .int (nI pp)), (2, .int (nI qq)), (3, .int (nI bo.toNat)), (4, .int (nI fl.toNat)), (7, .int (nI i)), (8, .int (nI (byk bo (T.getD i 0))))]) hx hb dM_pairs_130 hl (k := 9) rfl (nI_1 j) (by decide) rfl (fun ls hl => ?_)
                            refine lv_goto (tgt := 41) hx hb dM_pairs_133 (by decide) ?_
                            exact ih41 (j + 1) (by omega) (by omega) ls (lv_sub hl [3, 4, 5, 6, 7, 1, 8, 9, 0] rfl)
                          · -- not taken
                            have c116 : ¬ (0 = 0) := fun h => c116 ((nI_eq (a := 0) (b := 0) (by omega) (by omega)).mpr h)
                            exact absurd rfl c116
                        · -- not taken
                          have c95 : ¬ ((smp (T.getD i 0 % 65536)).toNat = 0) := fun h => c95 ((nI_eq (a := (smp (T.getD i 0 % 65536)).toNat) (b := 0) (by omega) (by omega)).mpr h)
                          refine lv_aload_n hx hb dM_pairs_98 rfl (lv_at hl 0 rfl) ?_
                          refine lv_iload hx hb dM_pairs_99 (lv_at hl 8 rfl) ?_
                          refine zz_ci (v := nI ((smp (T.getD j 0 % 65536)).toNat)) (W.runV (As := [.int (nI j)]) (rest := []) ⟨hx, hb, hml, hown, ht⟩ (c_M_isSampled l D cI cB m0 m1 m2 m3 m4 m5 m6 n k e su pd ob T hM j (by omega)) (cwV 1 ht (gd_V wd459 wd461 wp20 wd6 wd462) rfl rfl rfl (by decide +kernel) ⟨Nat.le_of_ble_eq_true rfl, Nat.le_of_ble_eq_true rfl⟩) (zz_R_V hN hK (hP.sub (ws' := [(m0, .inr (5, [.int (nI T.length), .ref m1, .ref m2, .ref m3, .int (nI n), .ref m4, .int (nI e), .int (nI k), .ref m5, .ref m6])), (m1, .inl (cI, 400, .inl su)), (m2, .inl (cI, 400, .inl pd)), (m3, .inl (cI, 400, .inl ob))]) [0, 1, 2, 3] rfl) 5 0 rfl rfl) rfl rfl hl.1 rfl (lv_room (Nat.le_of_ble_eq_true rfl)) dM_pairs_101 ⟨Nat.le_of_ble_eq_true rfl, Nat.le_of_ble_eq_true rfl⟩) ?_
                          refine lv_if_eq (tgt := 111) hx hb dM_pairs_104 (by decide) (fun c104 => ?_) (fun c104 => ?_)
                          · -- taken
                            have c104 : (smp (T.getD j 0 % 65536)).toNat = 0 := (nI_eq (a := (smp (T.getD j 0 % 65536)).toNat) (b := 0) (by omega) (by omega)).mp c104
                            have hin : (inn qq bo fl (T.getD i 0)) (T.getD j 0) = false := by rw [hi3, bt1 c86, bt0 c104, Bool.and_false]; rfl
                            refine lv_iconst (v := nI 0) hx hb dM_pairs_111 (by decide) ?_
                            refine lv_istore (lv' := [(10, .int (nI 0)), (0, .ref m0), (1, .int (nI pp)), (2, .int (nI qq)), (3, .int (nI bo.toNat)), (4, .int (nI fl.toNat)), (5, .long (lN (sumf (prs T pp qq bo fl) (T.take i) + (if T.getD i 0 / 65536 = pp then (T.take j).countP (inn qq bo fl (T.getD i 0)) else 0)))), (7, .int (nI i)), (8, .int (nI (byk bo (T.getD i 0)))), (9, .int (nI j))]) hx hb dM_pairs_112 hl (by decide) rfl (fun ls hl => ?_)
                            refine lv_iload hx hb dM_pairs_114 (lv_at hl 0 rfl) ?_
                            refine lv_if_eq (tgt := 126) hx hb dM_pairs_116 (by decide) (fun c116 => ?_) (fun c116 => ?_)
                            · -- taken
                              have c116 : 0 = 0 := (nI_eq (a := 0) (b := 0) (by omega) (by omega)).mp c116
                              refine lv_lload hx hb dM_pairs_126 (lv_at hl 6 rfl) ?_
                              refine zz_topl (y := lN (sumf (prs T pp qq bo fl) (T.take i) + (if T.getD i 0 / 65536 = pp then (T.take (j + 1)).countP (inn qq bo fl (T.getD i 0)) else 0))) (congrArg lN (by
                                rw [if_pos hk, if_pos hk, tk1 _ j 0 (by omega), cp1, hin]; rfl)) ?_
                              refine lv_lstore (lv' := [(5, .long (lN (sumf (prs T pp qq bo fl) (T.take i) + (if T.getD i 0 / 65536 = pp then (T.take (j + 1)).countP (inn qq bo fl (T.getD i 0)) else 0)))), (10, .int (nI 0)), (0, .ref m0), (1, .int (nI pp)), (2, .int (nI qq)), (3, .int (nI bo.toNat)), (4, .int (nI fl.toNat)), (7, .int (nI i)), (8, .int (nI (byk bo (T.getD i 0)))), (9, .int (nI j))]) hx hb dM_pairs_128 hl (by decide) rfl (fun ls hl => ?_)
                              refine lv_iinc (v := nI (j + 1)) (lv' := [(9, .int (nI (j + 1))), (5, .long (lN (sumf (prs T pp qq bo fl) (T.take i) + (if T.getD i 0 / 65536 = pp then (T.take (j + 1)).countP (inn qq bo fl (T.getD i 0)) else 0)))), (10, .int (nI 0)), (0, .ref m0), (1, .int (nI pp)), (2, .int (nI qq)), (3, .int (nI bo.toNat)), (4, .int (nI fl.toNat)), (7, .int (nI i)), (8, .int (nI (byk bo (T.getD i 0))))]) hx hb dM_pairs_130 hl (k := 9) rfl (nI_1 j) (by decide) rfl (fun ls hl => ?_)
                              refine lv_goto (tgt := 41) hx hb dM_pairs_133 (by decide) ?_
                              exact ih41 (j + 1) (by omega) (by omega) ls (lv_sub hl [3, 4, 5, 6, 7, 1, 8, 9, 0] rfl)
                            · -- not taken
                              have c116 : ¬ (0 = 0) := fun h => c116 ((nI_eq (a := 0) (b := 0) (by omega) (by omega)).mpr h)
                              exact absurd rfl c116
                          · -- not taken
                            have c104 : ¬ ((smp (T.getD j 0 % 65536)).toNat = 0) := fun h => c104 ((nI_eq (a := (smp (T.getD j 0 % 65536)).toNat) (b := 0) (by omega) (by omega)).mpr h)
                            have hin : (inn qq bo fl (T.getD i 0)) (T.getD j 0) = true := by rw [hi3, bt1 c95, bt1 c104]; simp
                            refine lv_iconst (v := nI 1) hx hb dM_pairs_107 (by decide) ?_
                            refine lv_goto (tgt := 112) hx hb dM_pairs_108 (by decide) ?_
                            refine lv_istore (lv' := [(10, .int (nI 1)), (0, .ref m0), (1, .int (nI pp)), (2, .int (nI qq)), (3, .int (nI bo.toNat)), (4, .int (nI fl.toNat)), (5, .long (lN (sumf (prs T pp qq bo fl) (T.take i) + (if T.getD i 0 / 65536 = pp then (T.take j).countP (inn qq bo fl (T.getD i 0)) else 0)))), (7, .int (nI i)), (8, .int (nI (byk bo (T.getD i 0)))), (9, .int (nI j))]) hx hb dM_pairs_112 hl (by decide) rfl (fun ls hl => ?_)
                            refine lv_iload hx hb dM_pairs_114 (lv_at hl 0 rfl) ?_
                            refine lv_if_eq (tgt := 126) hx hb dM_pairs_116 (by decide) (fun c116 => ?_) (fun c116 => ?_)
                            · -- taken
                              have c116 : 1 = 0 := (nI_eq (a := 1) (b := 0) (by omega) (by omega)).mp c116
                              exact absurd c116 (by decide)
                            · -- not taken
                              have c116 : ¬ (1 = 0) := fun h => c116 ((nI_eq (a := 1) (b := 0) (by omega) (by omega)).mpr h)
                              refine lv_lload hx hb dM_pairs_119 (lv_at hl 6 rfl) ?_
                              refine lv_lconst (v := lN 1) hx hb dM_pairs_121 rfl ?_
                              refine lv_ladd hx hb dM_pairs_122 ?_
                              refine zz_topl (y := lN ((sumf (prs T pp qq bo fl) (T.take i) + (if T.getD i 0 / 65536 = pp then (T.take j).countP (inn qq bo fl (T.getD i 0)) else 0)) + 1)) (lN_add (sumf (prs T pp qq bo fl) (T.take i) + (if T.getD i 0 / 65536 = pp then (T.take j).countP (inn qq bo fl (T.getD i 0)) else 0)) 1) ?_
                              refine zz_topl (y := lN (sumf (prs T pp qq bo fl) (T.take i) + (if T.getD i 0 / 65536 = pp then (T.take (j + 1)).countP (inn qq bo fl (T.getD i 0)) else 0))) (congrArg lN (by
                                rw [if_pos hk, if_pos hk, tk1 _ j 0 (by omega), cp1, hin]; rfl)) ?_
                              refine lv_goto (tgt := 128) hx hb dM_pairs_123 (by decide) ?_
                              refine lv_lstore (lv' := [(5, .long (lN (sumf (prs T pp qq bo fl) (T.take i) + (if T.getD i 0 / 65536 = pp then (T.take (j + 1)).countP (inn qq bo fl (T.getD i 0)) else 0)))), (10, .int (nI 1)), (0, .ref m0), (1, .int (nI pp)), (2, .int (nI qq)), (3, .int (nI bo.toNat)), (4, .int (nI fl.toNat)), (7, .int (nI i)), (8, .int (nI (byk bo (T.getD i 0)))), (9, .int (nI j))]) hx hb dM_pairs_128 hl (by decide) rfl (fun ls hl => ?_)
                              refine lv_iinc (v := nI (j + 1)) (lv' := [(9, .int (nI (j + 1))), (5, .long (lN (sumf (prs T pp qq bo fl) (T.take i) + (if T.getD i 0 / 65536 = pp then (T.take (j + 1)).countP (inn qq bo fl (T.getD i 0)) else 0)))), (10, .int (nI 1)), (0, .ref m0), (1, .int (nI pp)), (2, .int (nI qq)), (3, .int (nI bo.toNat)), (4, .int (nI fl.toNat)), (7, .int (nI i)), (8, .int (nI (byk bo (T.getD i 0))))]) hx hb dM_pairs_130 hl (k := 9) rfl (nI_1 j) (by decide) rfl (fun ls hl => ?_)
                              refine lv_goto (tgt := 41) hx hb dM_pairs_133 (by decide) ?_
                              exact ih41 (j + 1) (by omega) (by omega) ls (lv_sub hl [3, 4, 5, 6, 7, 1, 8, 9, 0] rfl)
          exact lp41 ((T.length - 0) + 1) 0 (Nat.zero_le _) (Nat.lt_succ_self _) ls (lv_sub hl [2, 3, 4, 5, 6, 7, 8, 1, 0] rfl)
  exact lp6 ((T.length - 0) + 1) 0 (Nat.zero_le _) (Nat.lt_succ_self _) ls (lv_sub hl [2, 3, 4, 5, 6, 1, 0] rfl)

abbrev rm_M_registerOf : Room := { frames := 1, cells := 0, slots := 0, locals := 21 }
set_option maxHeartbeats 4000000 in
set_option maxRecDepth 100000 in
theorem c_M_registerOf (l : Launch) (D : va_G) (cI cB : ClassId) (m0 m1 m2 m3 m4 m5 m6 n k e : Nat) (su pd ob : Nat → Int32) (T : List Nat) (hM : RM T su pd ob) (b ii : Nat) (hb2 : b < 256) (hii : ii < 16) : Met l yM_registerOf wM_registerOf rm_M_registerOf (zz_R D vwCl [(cI, .int), (cB, .boolean)] [.ref m0, .int (nI b), .int (nI ii)] [(m0, .inr (5, [.int (nI T.length), .ref m1, .ref m2, .ref m3, .int (nI n), .ref m4, .int (nI e), .int (nI k), .ref m5, .ref m6])), (m1, .inl (cI, 400, .inl su)), (m2, .inl (cI, 400, .inl pd)), (m3, .inl (cI, 400, .inl ob))]) (vp_Si (fun r : Int32 => r = nI (mxf (rgf b ii) T))) 0 0 (fun _ => False) := by
  refine Met.ofW (cc := cM_registerOf) (maxL := 7) (ret := (some .int)) (by decide) rfl ?_
  intro pg ev s mt args below meth kd s₁ B hml hv
  obtain ⟨rfl, hP, hK, hN⟩ := hv
  have hx := B.exec
  have hb := B.bytes
  have hr := B.returns
  have ht : ∀ w ∈ W0, w.before _ s = true := fun w h => atoms_spec (ws := wM_registerOf) B.pre w (List.mem_cons_of_mem _ h)
  have hown : s.vm.findClass "StatRowsModel" = some mt.cls := findClass_of_methodNamed B.named
  have hlocks := B.notSynchronized
  have hl := lv_entry ([.ref m0, .int (nI b), .int (nI ii)]) (n := 7) (Nat.le_of_ble_eq_true rfl)
  rw [lg_entry_eq]
  generalize (lg_sl ([.ref m0, .int (nI b), .int (nI ii)]) ++ List.replicate (7 - (lg_sl ([.ref m0, .int (nI b), .int (nI ii)])).length) Slot.unset).toArray = ls at hl ⊢
  have hl : lv_has ls 7 [(0, .ref m0), (1, .int (nI b)), (2, .int (nI ii))] := hl
  have hM4 := hM.2.1
  refine lv_iconst (v := nI 0) hx hb dM_registerOf_0 (by decide) ?_
  refine lv_istore_n (lv' := [(3, .int (nI 0)), (0, .ref m0), (1, .int (nI b)), (2, .int (nI ii))]) hx hb dM_registerOf_1 rfl hl (by decide) rfl (fun ls hl => ?_)
  refine lv_iconst (v := nI 0) hx hb dM_registerOf_2 (by decide) ?_
  refine lv_istore (lv' := [(4, .int (nI 0)), (3, .int (nI 0)), (0, .ref m0), (1, .int (nI b)), (2, .int (nI ii))]) hx hb dM_registerOf_3 hl (by decide) rfl (fun ls hl => ?_)
  have lp5 : ∀ (fu : Nat) (i : Nat) (hi : i ≤ T.length) (hm : T.length - i < fu) (ls : Array Slot) (hl : lv_has ls 7 [(0, .ref m0), (1, .int (nI b)), (2, .int (nI ii)), (3, .int (nI (mxf (rgf b ii) (T.take i)))), (4, .int (nI i))]), W pg l ev (headSpec wM_registerOf rm_M_registerOf).room s mt (([.ref m0, .int (nI b), .int (nI ii)] : List Value).toArray) below meth kd s.heap [] 0 0 (MQ below (vp_Si (fun r : Int32 => r = nI (mxf (rgf b ii) T))) (([.ref m0, .int (nI b), .int (nI ii)] : List Value).toArray) s 0 0 (fun _ => False)) (F0 mt 5 ls []) := by
    intro fu
    induction fu with
    | zero => intro i hi hm; exact absurd hm (Nat.not_lt_zero _)
    | succ fu ih5 =>
      intro i hi hm ls hl
      have hmx := mxf_le (F := rgf b ii) (rgf_le b ii) i T
      refine lv_iload hx hb dM_registerOf_5 (lv_at hl 4 rfl) ?_
      refine lv_aload_n hx hb dM_registerOf_7 rfl (lv_at hl 0 rfl) ?_
      refine va_get (D := D) (ci := 5) (v := .int (nI T.length)) (C := "StatRowsModel") (T := TM) (N := 10) hx hb ht inM hown hK hP 0 rfl rfl 0 (by decide) (ht _ wd389) (fun _ h9 => h9) rfl dM_registerOf_8 ?_
      refine lv_icmp_ge (tgt := 97) hx hb dM_registerOf_11 (by decide) (fun c11 => ?_) (fun c11 => ?_)
      · -- taken
        have c11 : T.length ≤ i := (nI_leI (a := T.length) (b := i) (by omega) (by omega)).mp c11
        refine lv_iload_n hx hb dM_registerOf_97 rfl (lv_at hl 3 rfl) ?_
        exact zz_iretR (v := nI (mxf (rgf b ii) (T.take i))) hx hb hr hlocks (by rw [tkl _ i (by omega)]) dM_registerOf_98
      · -- not taken
        have c11 : ¬ (T.length ≤ i) := fun h => c11 ((nI_leI (a := T.length) (b := i) (by omega) (by omega)).mpr h)
        have hCi := hM.2.2.1 i (by omega)
        have hdl := Nat.div_le_self b (2 ^ (T.getD i 0 / 65536))
        have hml2 : b / 2 ^ (T.getD i 0 / 65536) % 2 < 2 := Nat.mod_lt _ (by decide)
        have hrl := rz_le 28 (bn (hsh (nI (T.getD i 0 / 256 % 256))) / 16)
        have hhx : hix (hsh (nI (T.getD i 0 / 256 % 256))) < 16 := Nat.mod_lt _ (by decide)
        refine lv_aload_n hx hb dM_registerOf_14 rfl (lv_at hl 0 rfl) ?_
        refine va_get (D := D) (ci := 5) (v := .ref m1) (C := "StatRowsModel") (T := TM) (N := 10) hx hb ht inM hown hK hP 0 rfl rfl 1 (by decide) (ht _ wd390) (fun _ h9 => h9) rfl dM_registerOf_15 ?_
        refine lv_iload hx hb dM_registerOf_18 (lv_at hl 4 rfl) ?_
        refine zz_iald (k := i) hx hb hK hP 1 0 rfl rfl (by omega) (by decide) dM_registerOf_20 ?_
        refine zz_top (y := nI (T.getD i 0 / 256 % 256)) ((hM.1 i (by omega)).1) ?_
        refine zz_ci (v := hsh (nI (T.getD i 0 / 256 % 256))) (W.runS (As := [.int (nI (T.getD i 0 / 256 % 256))]) (rest := []) ⟨hx, hb, hml, hown, ht⟩ (c_M_hash l _) (va_cwS 1 ht (gd_S wd463 wd464 wd6 wd465) rfl rfl rfl (by decide +kernel) ⟨Nat.le_of_ble_eq_true rfl, Nat.le_of_ble_eq_true rfl⟩) zz_N_S rfl rfl hl.1 rfl (lv_room (Nat.le_of_ble_eq_true rfl)) dM_registerOf_21 ⟨Nat.le_of_ble_eq_true rfl, Nat.le_of_ble_eq_true rfl⟩) ?_
        refine lv_istore (lv' := [(5, .int (hsh (nI (T.getD i 0 / 256 % 256)))), (0, .ref m0), (1, .int (nI b)), (2, .int (nI ii)), (3, .int (nI (mxf (rgf b ii) (T.take i)))), (4, .int (nI i))]) hx hb dM_registerOf_24 hl (by decide) rfl (fun ls hl => ?_)
        refine lv_iload_n hx hb dM_registerOf_26 rfl (lv_at hl 2 rfl) ?_
        refine lv_aload_n hx hb dM_registerOf_27 rfl (lv_at hl 1 rfl) ?_
        refine va_get (D := D) (ci := 5) (v := .ref m2) (C := "StatRowsModel") (T := TM) (N := 10) hx hb ht inM hown hK hP 0 rfl rfl 2 (by decide) (ht _ wd391) (fun _ h9 => h9) rfl dM_registerOf_28 ?_
        refine lv_iload hx hb dM_registerOf_31 (lv_at hl 5 rfl) ?_
        refine zz_iald (k := i) hx hb hK hP 2 0 rfl rfl (by omega) (by decide) dM_registerOf_33 ?_
        refine zz_top (y := nI (T.getD i 0 / 65536)) ((hM.1 i (by omega)).2.1) ?_
        refine lv_ishr hx hb dM_registerOf_34 ?_
        refine zz_top (y := nI (b / 2 ^ (T.getD i 0 / 65536))) (zz_shrV (n := b) (k := T.getD i 0 / 65536) (by omega) (by omega)) ?_
        refine lv_iconst (v := nI 1) hx hb dM_registerOf_35 (by decide) ?_
        refine lv_iand hx hb dM_registerOf_36 ?_
        refine zz_top (y := nI ((b / 2 ^ (T.getD i 0 / 65536)) % 2)) (pk_andN (n := b / 2 ^ (T.getD i 0 / 65536)) (by omega) 1 (by decide)) ?_
        refine lv_iconst (v := nI 1) hx hb dM_registerOf_37 (by decide) ?_
        refine lv_icmp_ne (tgt := 91) hx hb dM_registerOf_38 (by decide) (fun c38 => ?_) (fun c38 => ?_)
        · -- taken
          have c38 : ¬ ((b / 2 ^ (T.getD i 0 / 65536)) % 2 = 1) := fun h => c38 ((nI_eq (a := (b / 2 ^ (T.getD i 0 / 65536)) % 2) (b := 1) (by omega) (by omega)).mpr h)
          have ez : mxf (rgf b ii) (T.take i) = mxf (rgf b ii) (T.take (i + 1)) := mx_skip (by omega) (by unfold rgf; rw [if_neg (fun q => by have := q.1; unfold bit_ at this; exact c38 (by simpa using this))])
          rw [ez] at hl
          refine lv_iinc (v := nI (i + 1)) (lv' := [(4, .int (nI (i + 1))), (5, .int (hsh (nI (T.getD i 0 / 256 % 256)))), (0, .ref m0), (1, .int (nI b)), (2, .int (nI ii)), (3, .int (nI (mxf (rgf b ii) (T.take (i + 1)))))]) hx hb dM_registerOf_91 hl (k := 5) rfl (nI_1 i) (by decide) rfl (fun ls hl => ?_)
          refine lv_goto (tgt := 5) hx hb dM_registerOf_94 (by decide) ?_
          exact ih5 (i + 1) (by omega) (by omega) ls (lv_sub hl [2, 3, 4, 5, 0] rfl)
        · -- not taken
          have c38 : (b / 2 ^ (T.getD i 0 / 65536)) % 2 = 1 := (nI_eq (a := (b / 2 ^ (T.getD i 0 / 65536)) % 2) (b := 1) (by omega) (by omega)).mp c38
          have hbit : bit_ b (T.getD i 0 / 65536) = true := by unfold bit_; simpa using c38
          refine lv_iload hx hb dM_registerOf_41 (lv_at hl 0 rfl) ?_
          refine lv_bipush (v := nI 15) hx hb dM_registerOf_43 (by decide) ?_
          refine lv_iand hx hb dM_registerOf_45 ?_
          refine zz_top (y := nI (hix (hsh (nI (T.getD i 0 / 256 % 256))))) (zz_and15 _) ?_
          refine lv_iload_n hx hb dM_registerOf_46 rfl (lv_at hl 3 rfl) ?_
          refine lv_icmp_ne (tgt := 91) hx hb dM_registerOf_47 (by decide) (fun c47 => ?_) (fun c47 => ?_)
          · -- taken
            have c47 : ¬ (hix (hsh (nI (T.getD i 0 / 256 % 256))) = ii) := fun h => c47 ((nI_eq (a := hix (hsh (nI (T.getD i 0 / 256 % 256)))) (b := ii) (by omega) (by omega)).mpr h)
            have ez : mxf (rgf b ii) (T.take i) = mxf (rgf b ii) (T.take (i + 1)) := mx_skip (by omega) (by unfold rgf; rw [if_neg (fun q => c47 q.2)])
            rw [ez] at hl
            refine lv_iinc (v := nI (i + 1)) (lv' := [(4, .int (nI (i + 1))), (5, .int (hsh (nI (T.getD i 0 / 256 % 256)))), (0, .ref m0), (1, .int (nI b)), (2, .int (nI ii)), (3, .int (nI (mxf (rgf b ii) (T.take (i + 1)))))]) hx hb dM_registerOf_91 hl (k := 5) rfl (nI_1 i) (by decide) rfl (fun ls hl => ?_)
            refine lv_goto (tgt := 5) hx hb dM_registerOf_94 (by decide) ?_
            exact ih5 (i + 1) (by omega) (by omega) ls (lv_sub hl [2, 3, 4, 5, 0] rfl)
          · -- not taken
            have c47 : hix (hsh (nI (T.getD i 0 / 256 % 256))) = ii := (nI_eq (a := hix (hsh (nI (T.getD i 0 / 256 % 256)))) (b := ii) (by omega) (by omega)).mp c47
            have hrg : rgf b ii (T.getD i 0) = rnk (hsh (nI (T.getD i 0 / 256 % 256))) := by unfold rgf; rw [if_pos ⟨hbit, c47⟩]
            refine lv_iconst (v := nI 1) hx hb dM_registerOf_50 (by decide) ?_
            refine lv_istore (lv' := [(6, .int (nI 1)), (5, .int (hsh (nI (T.getD i 0 / 256 % 256)))), (0, .ref m0), (1, .int (nI b)), (2, .int (nI ii)), (3, .int (nI (mxf (rgf b ii) (T.take i)))), (4, .int (nI i))]) hx hb dM_registerOf_51 hl (by decide) rfl (fun ls hl => ?_)
            have lp53 : ∀ (fu : Nat) (z : Nat) (hz : z ≤ rz (bn (hsh (nI (T.getD i 0 / 256 % 256))) / 16) 28) (hm : 28 - z < fu) (ls : Array Slot) (hl : lv_has ls 7 [(0, .ref m0), (1, .int (nI b)), (2, .int (nI ii)), (3, .int (nI (mxf (rgf b ii) (T.take i)))), (4, .int (nI i)), (5, .int (hsh (nI (T.getD i 0 / 256 % 256)))), (6, .int (nI (z + 1)))]), W pg l ev (headSpec wM_registerOf rm_M_registerOf).room s mt (([.ref m0, .int (nI b), .int (nI ii)] : List Value).toArray) below meth kd s.heap [] 0 0 (MQ below (vp_Si (fun r : Int32 => r = nI (mxf (rgf b ii) T))) (([.ref m0, .int (nI b), .int (nI ii)] : List Value).toArray) s 0 0 (fun _ => False)) (F0 mt 53 ls []) := by
              intro fu
              induction fu with
              | zero => intro z hz hm; exact absurd hm (Nat.not_lt_zero _)
              | succ fu ih53 =>
                intro z hz hm ls hl
                refine lv_iload hx hb dM_registerOf_53 (lv_at hl 6 rfl) ?_
                refine lv_bipush (v := nI 29) hx hb dM_registerOf_55 (by decide) ?_
                refine lv_icmp_ge (tgt := 78) hx hb dM_registerOf_57 (by decide) (fun c57 => ?_) (fun c57 => ?_)
                · -- taken
                  have c57 : 29 ≤ z + 1 := (nI_leI (a := 29) (b := z + 1) (by omega) (by omega)).mp c57
                  have ez2 : z = rz (bn (hsh (nI (T.getD i 0 / 256 % 256))) / 16) 28 := by omega
                  have hrn : rnk (hsh (nI (T.getD i 0 / 256 % 256))) = z + 1 := by unfold rnk; omega
                  have hst := mx_step (b := b) (i := ii) (k := i) (by omega) hrg
                  refine lv_iload hx hb dM_registerOf_78 (lv_at hl 6 rfl) ?_
                  refine lv_iload_n hx hb dM_registerOf_80 rfl (lv_at hl 3 rfl) ?_
                  refine lv_icmp_le (tgt := 89) hx hb dM_registerOf_81 (by decide) (fun c81 => ?_) (fun c81 => ?_)
                  · -- taken
                    have c81 : z + 1 ≤ mxf (rgf b ii) (T.take i) := (nI_leI (a := z + 1) (b := mxf (rgf b ii) (T.take i)) (by omega) (by omega)).mp c81
                    refine lv_iload_n hx hb dM_registerOf_89 rfl (lv_at hl 3 rfl) ?_
                    refine zz_top (y := nI (mxf (rgf b ii) (T.take (i + 1)))) (congrArg nI (by rw [hst]; omega)) ?_
                    refine lv_istore_n (lv' := [(3, .int (nI (mxf (rgf b ii) (T.take (i + 1))))), (0, .ref m0), (1, .int (nI b)), (2, .int (nI ii)), (4, .int (nI i)), (5, .int (hsh (nI (T.getD i 0 / 256 % 256)))), (6, .int (nI (z + 1)))]) hx hb dM_registerOf_90 rfl hl (by decide) rfl (fun ls hl => ?_)
                    refine lv_iinc (v := nI (i + 1)) (lv' := [(4, .int (nI (i + 1))), (3, .int (nI (mxf (rgf b ii) (T.take (i + 1))))), (0, .ref m0), (1, .int (nI b)), (2, .int (nI ii)), (5, .int (hsh (nI (T.getD i 0 / 256 % 256)))), (6, .int (nI (z + 1)))]) hx hb dM_registerOf_91 hl (k := 4) rfl (nI_1 i) (by decide) rfl (fun ls hl => ?_)
                    refine lv_goto (tgt := 5) hx hb dM_registerOf_94 (by decide) ?_
                    exact ih5 (i + 1) (by omega) (by omega) ls (lv_sub hl [2, 3, 4, 1, 0] rfl)
                  · -- not taken
                    have c81 : ¬ (z + 1 ≤ mxf (rgf b ii) (T.take i)) := fun h => c81 ((nI_leI (a := z + 1) (b := mxf (rgf b ii) (T.take i)) (by omega) (by omega)).mpr h)
                    refine lv_iload hx hb dM_registerOf_84 (lv_at hl 6 rfl) ?_
                    refine zz_top (y := nI (mxf (rgf b ii) (T.take (i + 1)))) (congrArg nI (by rw [hst]; omega)) ?_
                    refine lv_goto (tgt := 90) hx hb dM_registerOf_86 (by decide) ?_
                    refine lv_istore_n (lv' := [(3, .int (nI (mxf (rgf b ii) (T.take (i + 1))))), (0, .ref m0), (1, .int (nI b)), (2, .int (nI ii)), (4, .int (nI i)), (5, .int (hsh (nI (T.getD i 0 / 256 % 256)))), (6, .int (nI (z + 1)))]) hx hb dM_registerOf_90 rfl hl (by decide) rfl (fun ls hl => ?_)
                    refine lv_iinc (v := nI (i + 1)) (lv' := [(4, .int (nI (i + 1))), (3, .int (nI (mxf (rgf b ii) (T.take (i + 1))))), (0, .ref m0), (1, .int (nI b)), (2, .int (nI ii)), (5, .int (hsh (nI (T.getD i 0 / 256 % 256)))), (6, .int (nI (z + 1)))]) hx hb dM_registerOf_91 hl (k := 4) rfl (nI_1 i) (by decide) rfl (fun ls hl => ?_)
                    refine lv_goto (tgt := 5) hx hb dM_registerOf_94 (by decide) ?_
                    exact ih5 (i + 1) (by omega) (by omega) ls (lv_sub hl [2, 3, 4, 1, 0] rfl)
                · -- not taken
                  have c57 : ¬ (29 ≤ z + 1) := fun h => c57 ((nI_leI (a := 29) (b := z + 1) (by omega) (by omega)).mpr h)
                  refine lv_iload hx hb dM_registerOf_60 (lv_at hl 5 rfl) ?_
                  refine lv_iconst (v := nI 3) hx hb dM_registerOf_62 (by decide) ?_
                  refine lv_iload hx hb dM_registerOf_63 (lv_at hl 6 rfl) ?_
                  refine lv_iadd hx hb dM_registerOf_65 ?_
                  refine zz_top (y := nI (3 + (z + 1))) (nI_add 3 (z + 1)) ?_
                  refine lv_iushr (v := ((hsh (nI (T.getD i 0 / 256 % 256))).toUInt32 >>> ((nI (3 + (z + 1))).toUInt32 &&& Int32.toUInt32 31)).toInt32) hx hb dM_registerOf_66 (rfl) ?_
                  refine lv_iconst (v := nI 1) hx hb dM_registerOf_67 (by decide) ?_
                  refine lv_iand hx hb dM_registerOf_68 ?_
                  refine zz_top (y := nI (bn (hsh (nI (T.getD i 0 / 256 % 256))) / 2 ^ (3 + (z + 1)) % 2)) (zz_bit _ (by omega)) ?_
                  have hm9 : bn (hsh (nI (T.getD i 0 / 256 % 256))) / 2 ^ (3 + (z + 1)) % 2 < 2 := Nat.mod_lt _ (by decide)
                  refine lv_if_ne (tgt := 78) hx hb dM_registerOf_69 (by decide) (fun c69 => ?_) (fun c69 => ?_)
                  · -- taken
                    have c69 : ¬ (bn (hsh (nI (T.getD i 0 / 256 % 256))) / 2 ^ (3 + (z + 1)) % 2 = 0) := fun h => c69 ((nI_eq (a := bn (hsh (nI (T.getD i 0 / 256 % 256))) / 2 ^ (3 + (z + 1)) % 2) (b := 0) (by omega) (by omega)).mpr h)
                    have ez2 : z = rz (bn (hsh (nI (T.getD i 0 / 256 % 256))) / 16) 28 := by
                      rcases Nat.lt_or_ge z (rz (bn (hsh (nI (T.getD i 0 / 256 % 256))) / 16) 28) with q | q
                      · have h9 := rz_lo 28 (bn (hsh (nI (T.getD i 0 / 256 % 256))) / 16) z q
                        rw [← sh16] at h9
                        exact absurd h9 c69
                      · omega
                    have hrn : rnk (hsh (nI (T.getD i 0 / 256 % 256))) = z + 1 := by unfold rnk; omega
                    have hst := mx_step (b := b) (i := ii) (k := i) (by omega) hrg
                    refine lv_iload hx hb dM_registerOf_78 (lv_at hl 6 rfl) ?_
                    refine lv_iload_n hx hb dM_registerOf_80 rfl (lv_at hl 3 rfl) ?_
                    refine lv_icmp_le (tgt := 89) hx hb dM_registerOf_81 (by decide) (fun c81 => ?_) (fun c81 => ?_)
                    · -- taken
                      have c81 : z + 1 ≤ mxf (rgf b ii) (T.take i) := (nI_leI (a := z + 1) (b := mxf (rgf b ii) (T.take i)) (by omega) (by omega)).mp c81
                      refine lv_iload_n hx hb dM_registerOf_89 rfl (lv_at hl 3 rfl) ?_
                      refine zz_top (y := nI (mxf (rgf b ii) (T.take (i + 1)))) (congrArg nI (by rw [hst]; omega)) ?_
                      refine lv_istore_n (lv' := [(3, .int (nI (mxf (rgf b ii) (T.take (i + 1))))), (0, .ref m0), (1, .int (nI b)), (2, .int (nI ii)), (4, .int (nI i)), (5, .int (hsh (nI (T.getD i 0 / 256 % 256)))), (6, .int (nI (z + 1)))]) hx hb dM_registerOf_90 rfl hl (by decide) rfl (fun ls hl => ?_)
                      refine lv_iinc (v := nI (i + 1)) (lv' := [(4, .int (nI (i + 1))), (3, .int (nI (mxf (rgf b ii) (T.take (i + 1))))), (0, .ref m0), (1, .int (nI b)), (2, .int (nI ii)), (5, .int (hsh (nI (T.getD i 0 / 256 % 256)))), (6, .int (nI (z + 1)))]) hx hb dM_registerOf_91 hl (k := 4) rfl (nI_1 i) (by decide) rfl (fun ls hl => ?_)
                      refine lv_goto (tgt := 5) hx hb dM_registerOf_94 (by decide) ?_
                      exact ih5 (i + 1) (by omega) (by omega) ls (lv_sub hl [2, 3, 4, 1, 0] rfl)
                    · -- not taken
                      have c81 : ¬ (z + 1 ≤ mxf (rgf b ii) (T.take i)) := fun h => c81 ((nI_leI (a := z + 1) (b := mxf (rgf b ii) (T.take i)) (by omega) (by omega)).mpr h)
                      refine lv_iload hx hb dM_registerOf_84 (lv_at hl 6 rfl) ?_
                      refine zz_top (y := nI (mxf (rgf b ii) (T.take (i + 1)))) (congrArg nI (by rw [hst]; omega)) ?_
                      refine lv_goto (tgt := 90) hx hb dM_registerOf_86 (by decide) ?_
                      refine lv_istore_n (lv' := [(3, .int (nI (mxf (rgf b ii) (T.take (i + 1))))), (0, .ref m0), (1, .int (nI b)), (2, .int (nI ii)), (4, .int (nI i)), (5, .int (hsh (nI (T.getD i 0 / 256 % 256)))), (6, .int (nI (z + 1)))]) hx hb dM_registerOf_90 rfl hl (by decide) rfl (fun ls hl => ?_)
                      refine lv_iinc (v := nI (i + 1)) (lv' := [(4, .int (nI (i + 1))), (3, .int (nI (mxf (rgf b ii) (T.take (i + 1))))), (0, .ref m0), (1, .int (nI b)), (2, .int (nI ii)), (5, .int (hsh (nI (T.getD i 0 / 256 % 256)))), (6, .int (nI (z + 1)))]) hx hb dM_registerOf_91 hl (k := 4) rfl (nI_1 i) (by decide) rfl (fun ls hl => ?_)
                      refine lv_goto (tgt := 5) hx hb dM_registerOf_94 (by decide) ?_
                      exact ih5 (i + 1) (by omega) (by omega) ls (lv_sub hl [2, 3, 4, 1, 0] rfl)
                  · -- not taken
                    have c69 : bn (hsh (nI (T.getD i 0 / 256 % 256))) / 2 ^ (3 + (z + 1)) % 2 = 0 := (nI_eq (a := bn (hsh (nI (T.getD i 0 / 256 % 256))) / 2 ^ (3 + (z + 1)) % 2) (b := 0) (by omega) (by omega)).mp c69
                    refine lv_iinc (v := nI (z + 1 + 1)) (lv' := [(6, .int (nI (z + 1 + 1))), (0, .ref m0), (1, .int (nI b)), (2, .int (nI ii)), (3, .int (nI (mxf (rgf b ii) (T.take i)))), (4, .int (nI i)), (5, .int (hsh (nI (T.getD i 0 / 256 % 256))))]) hx hb dM_registerOf_72 hl (k := 6) rfl (nI_1 (z + 1)) (by decide) rfl (fun ls hl => ?_)
                    refine lv_goto (tgt := 53) hx hb dM_registerOf_75 (by decide) ?_
                    exact ih53 (z + 1) (by
                      rcases Nat.lt_or_ge z (rz (bn (hsh (nI (T.getD i 0 / 256 % 256))) / 16) 28) with q | q
                      · omega
                      · have e1 : z = rz (bn (hsh (nI (T.getD i 0 / 256 % 256))) / 16) 28 := by omega
                        have h9 := rz_hi 28 (bn (hsh (nI (T.getD i 0 / 256 % 256))) / 16) (by omega)
                        rw [← e1, ← sh16] at h9; omega) (by omega) ls (lv_sub hl [1, 2, 3, 4, 5, 6, 0] rfl)
            exact lp53 ((28 - 0) + 1) 0 (Nat.zero_le _) (Nat.lt_succ_self _) ls (lv_sub hl [2, 3, 4, 5, 6, 1, 0] rfl)
  exact lp5 ((T.length - 0) + 1) 0 (Nat.zero_le _) (Nat.lt_succ_self _) ls (lv_sub hl [2, 3, 4, 1, 0] rfl)

abbrev rm_M_aboutFew : Room := { frames := 0, cells := 0, slots := 0, locals := 0 }
set_option maxHeartbeats 4000000 in
set_option maxRecDepth 100000 in
theorem c_M_aboutFew (l : Launch) (z : Nat) (hz : z ≤ 16) : Met l yM_aboutFew wM_aboutFew rm_M_aboutFew (zz_N [.int (nI z)]) (vp_Si (fun r : Int32 => r = nI (few z))) 0 0 (fun _ => False) := by
  refine Met.ofW (cc := cM_aboutFew) (maxL := 1) (ret := (some .int)) (by decide) rfl ?_
  intro pg ev s mt args below meth kd s₁ B hml hv
  have hv : args = _ := hv
  subst hv
  have hx := B.exec
  have hb := B.bytes
  have hr := B.returns
  have ht : ∀ w ∈ W0, w.before _ s = true := fun w h => atoms_spec (ws := wM_aboutFew) B.pre w (List.mem_cons_of_mem _ h)
  have hown : s.vm.findClass "StatRowsModel" = some mt.cls := findClass_of_methodNamed B.named
  have hlocks := B.notSynchronized
  have hl := lv_entry ([.int (nI z)]) (n := 1) (Nat.le_of_ble_eq_true rfl)
  rw [lg_entry_eq]
  generalize (lg_sl ([.int (nI z)]) ++ List.replicate (1 - (lg_sl ([.int (nI z)])).length) Slot.unset).toArray = ls at hl ⊢
  have hl : lv_has ls 1 [(0, .int (nI z))] := hl
  refine lv_iload_n hx hb dM_aboutFew_0 rfl (lv_at hl 0 rfl) ?_
  by_cases t1_1 : nI z = nI 1
  · refine zz_top t1_1 ?_
    refine lv_tableIn (tgt := 76) hx hb dM_aboutFew_1 (by decide) (by decide) (by first | rfl | decide) (by decide) ?_
    refine lv_bipush (v := nI 44) hx hb dM_aboutFew_76 (by decide) ?_
    exact zz_iretR (v := nI 44) hx hb hr hlocks (by rw [(nI_eq (by omega) (by decide)).mp t1_1]; rfl) dM_aboutFew_78
  by_cases t1_2 : nI z = nI 2
  · refine zz_top t1_2 ?_
    refine lv_tableIn (tgt := 79) hx hb dM_aboutFew_1 (by decide) (by decide) (by first | rfl | decide) (by decide) ?_
    refine lv_bipush (v := nI 33) hx hb dM_aboutFew_79 (by decide) ?_
    exact zz_iretR (v := nI 33) hx hb hr hlocks (by rw [(nI_eq (by omega) (by decide)).mp t1_2]; rfl) dM_aboutFew_81
  by_cases t1_3 : nI z = nI 3
  · refine zz_top t1_3 ?_
    refine lv_tableIn (tgt := 82) hx hb dM_aboutFew_1 (by decide) (by decide) (by first | rfl | decide) (by decide) ?_
    refine lv_bipush (v := nI 26) hx hb dM_aboutFew_82 (by decide) ?_
    exact zz_iretR (v := nI 26) hx hb hr hlocks (by rw [(nI_eq (by omega) (by decide)).mp t1_3]; rfl) dM_aboutFew_84
  by_cases t1_4 : nI z = nI 4
  · refine zz_top t1_4 ?_
    refine lv_tableIn (tgt := 85) hx hb dM_aboutFew_1 (by decide) (by decide) (by first | rfl | decide) (by decide) ?_
    refine lv_bipush (v := nI 22) hx hb dM_aboutFew_85 (by decide) ?_
    exact zz_iretR (v := nI 22) hx hb hr hlocks (by rw [(nI_eq (by omega) (by decide)).mp t1_4]; rfl) dM_aboutFew_87
  by_cases t1_5 : nI z = nI 5
  · refine zz_top t1_5 ?_
    refine lv_tableIn (tgt := 88) hx hb dM_aboutFew_1 (by decide) (by decide) (by first | rfl | decide) (by decide) ?_
    refine lv_bipush (v := nI 18) hx hb dM_aboutFew_88 (by decide) ?_
    exact zz_iretR (v := nI 18) hx hb hr hlocks (by rw [(nI_eq (by omega) (by decide)).mp t1_5]; rfl) dM_aboutFew_90
  by_cases t1_6 : nI z = nI 6
  · refine zz_top t1_6 ?_
    refine lv_tableIn (tgt := 91) hx hb dM_aboutFew_1 (by decide) (by decide) (by first | rfl | decide) (by decide) ?_
    refine lv_bipush (v := nI 15) hx hb dM_aboutFew_91 (by decide) ?_
    exact zz_iretR (v := nI 15) hx hb hr hlocks (by rw [(nI_eq (by omega) (by decide)).mp t1_6]; rfl) dM_aboutFew_93
  by_cases t1_7 : nI z = nI 7
  · refine zz_top t1_7 ?_
    refine lv_tableIn (tgt := 94) hx hb dM_aboutFew_1 (by decide) (by decide) (by first | rfl | decide) (by decide) ?_
    refine lv_bipush (v := nI 13) hx hb dM_aboutFew_94 (by decide) ?_
    exact zz_iretR (v := nI 13) hx hb hr hlocks (by rw [(nI_eq (by omega) (by decide)).mp t1_7]; rfl) dM_aboutFew_96
  by_cases t1_8 : nI z = nI 8
  · refine zz_top t1_8 ?_
    refine lv_tableIn (tgt := 97) hx hb dM_aboutFew_1 (by decide) (by decide) (by first | rfl | decide) (by decide) ?_
    refine lv_bipush (v := nI 11) hx hb dM_aboutFew_97 (by decide) ?_
    exact zz_iretR (v := nI 11) hx hb hr hlocks (by rw [(nI_eq (by omega) (by decide)).mp t1_8]; rfl) dM_aboutFew_99
  by_cases t1_9 : nI z = nI 9
  · refine zz_top t1_9 ?_
    refine lv_tableIn (tgt := 100) hx hb dM_aboutFew_1 (by decide) (by decide) (by first | rfl | decide) (by decide) ?_
    refine lv_bipush (v := nI 9) hx hb dM_aboutFew_100 (by decide) ?_
    exact zz_iretR (v := nI 9) hx hb hr hlocks (by rw [(nI_eq (by omega) (by decide)).mp t1_9]; rfl) dM_aboutFew_102
  by_cases t1_10 : nI z = nI 10
  · refine zz_top t1_10 ?_
    refine lv_tableIn (tgt := 103) hx hb dM_aboutFew_1 (by decide) (by decide) (by first | rfl | decide) (by decide) ?_
    refine lv_bipush (v := nI 7) hx hb dM_aboutFew_103 (by decide) ?_
    exact zz_iretR (v := nI 7) hx hb hr hlocks (by rw [(nI_eq (by omega) (by decide)).mp t1_10]; rfl) dM_aboutFew_105
  by_cases t1_11 : nI z = nI 11
  · refine zz_top t1_11 ?_
    refine lv_tableIn (tgt := 106) hx hb dM_aboutFew_1 (by decide) (by decide) (by first | rfl | decide) (by decide) ?_
    refine lv_iconst (v := nI 5) hx hb dM_aboutFew_106 (by decide) ?_
    exact zz_iretR (v := nI 5) hx hb hr hlocks (by rw [(nI_eq (by omega) (by decide)).mp t1_11]; rfl) dM_aboutFew_107
  by_cases t1_12 : nI z = nI 12
  · refine zz_top t1_12 ?_
    refine lv_tableIn (tgt := 108) hx hb dM_aboutFew_1 (by decide) (by decide) (by first | rfl | decide) (by decide) ?_
    refine lv_iconst (v := nI 4) hx hb dM_aboutFew_108 (by decide) ?_
    exact zz_iretR (v := nI 4) hx hb hr hlocks (by rw [(nI_eq (by omega) (by decide)).mp t1_12]; rfl) dM_aboutFew_109
  by_cases t1_13 : nI z = nI 13
  · refine zz_top t1_13 ?_
    refine lv_tableIn (tgt := 110) hx hb dM_aboutFew_1 (by decide) (by decide) (by first | rfl | decide) (by decide) ?_
    refine lv_iconst (v := nI 3) hx hb dM_aboutFew_110 (by decide) ?_
    exact zz_iretR (v := nI 3) hx hb hr hlocks (by rw [(nI_eq (by omega) (by decide)).mp t1_13]; rfl) dM_aboutFew_111
  by_cases t1_14 : nI z = nI 14
  · refine zz_top t1_14 ?_
    refine lv_tableIn (tgt := 112) hx hb dM_aboutFew_1 (by decide) (by decide) (by first | rfl | decide) (by decide) ?_
    refine lv_iconst (v := nI 2) hx hb dM_aboutFew_112 (by decide) ?_
    exact zz_iretR (v := nI 2) hx hb hr hlocks (by rw [(nI_eq (by omega) (by decide)).mp t1_14]; rfl) dM_aboutFew_113
  by_cases t1_15 : nI z = nI 15
  · refine zz_top t1_15 ?_
    refine lv_tableIn (tgt := 114) hx hb dM_aboutFew_1 (by decide) (by decide) (by first | rfl | decide) (by decide) ?_
    refine lv_iconst (v := nI 1) hx hb dM_aboutFew_114 (by decide) ?_
    exact zz_iretR (v := nI 1) hx hb hr hlocks (by rw [(nI_eq (by omega) (by decide)).mp t1_15]; rfl) dM_aboutFew_115
  have hout1 : (nI z).toInt < 1 ∨ 15 < (nI z).toInt := zz_tout 1 15 (by decide) (fun k hk1 hk2 q => by
    rcases (show k = 1 ∨ k = 2 ∨ k = 3 ∨ k = 4 ∨ k = 5 ∨ k = 6 ∨ k = 7 ∨ k = 8 ∨ k = 9 ∨ k = 10 ∨ k = 11 ∨ k = 12 ∨ k = 13 ∨ k = 14 ∨ k = 15 by omega) with rfl | rfl | rfl | rfl | rfl | rfl | rfl | rfl | rfl | rfl | rfl | rfl | rfl | rfl | rfl
    · exact t1_1 q
    · exact t1_2 q
    · exact t1_3 q
    · exact t1_4 q
    · exact t1_5 q
    · exact t1_6 q
    · exact t1_7 q
    · exact t1_8 q
    · exact t1_9 q
    · exact t1_10 q
    · exact t1_11 q
    · exact t1_12 q
    · exact t1_13 q
    · exact t1_14 q
    · exact t1_15 q)
  refine lv_tableOut (tgt := 116) hx hb dM_aboutFew_1 hout1 (by decide) ?_
  refine lv_iconst (v := nI 0) hx hb dM_aboutFew_116 (by decide) ?_
  exact zz_iretR (v := nI 0) hx hb hr hlocks (by
    have h1 : z ≠ 1 := fun q => t1_1 (by rw [q]); have h2 : z ≠ 2 := fun q => t1_2 (by rw [q]); have h3 : z ≠ 3 := fun q => t1_3 (by rw [q]); have h4 : z ≠ 4 := fun q => t1_4 (by rw [q]); have h5 : z ≠ 5 := fun q => t1_5 (by rw [q]); have h6 : z ≠ 6 := fun q => t1_6 (by rw [q]); have h7 : z ≠ 7 := fun q => t1_7 (by rw [q]); have h8 : z ≠ 8 := fun q => t1_8 (by rw [q]); have h9 : z ≠ 9 := fun q => t1_9 (by rw [q]); have h10 : z ≠ 10 := fun q => t1_10 (by rw [q]); have h11 : z ≠ 11 := fun q => t1_11 (by rw [q]); have h12 : z ≠ 12 := fun q => t1_12 (by rw [q]); have h13 : z ≠ 13 := fun q => t1_13 (by rw [q]); have h14 : z ≠ 14 := fun q => t1_14 (by rw [q]); have h15 : z ≠ 15 := fun q => t1_15 (by rw [q])
    rcases (show z = 0 ∨ z = 16 by omega) with q | q <;> rw [q] <;> rfl) dM_aboutFew_117

abbrev rm_M_greatest : Room := { frames := 0, cells := 0, slots := 0, locals := 0 }
set_option maxHeartbeats 4000000 in
set_option maxRecDepth 100000 in
theorem c_M_greatest (l : Launch) (a b : Nat) (ha : a < 2 ^ 31) (hb2 : b < 2 ^ 31) : Met l yM_greatest wM_greatest rm_M_greatest (zz_N [.int (nI a), .int (nI b)]) (vp_Si (fun r : Int32 => r = nI (max 1 (max a b)))) 0 0 (fun _ => False) := by
  refine Met.ofW (cc := cM_greatest) (maxL := 3) (ret := (some .int)) (by decide) rfl ?_
  intro pg ev s mt args below meth kd s₁ B hml hv
  have hv : args = _ := hv
  subst hv
  have hx := B.exec
  have hb := B.bytes
  have hr := B.returns
  have ht : ∀ w ∈ W0, w.before _ s = true := fun w h => atoms_spec (ws := wM_greatest) B.pre w (List.mem_cons_of_mem _ h)
  have hown : s.vm.findClass "StatRowsModel" = some mt.cls := findClass_of_methodNamed B.named
  have hlocks := B.notSynchronized
  have hl := lv_entry ([.int (nI a), .int (nI b)]) (n := 3) (Nat.le_of_ble_eq_true rfl)
  rw [lg_entry_eq]
  generalize (lg_sl ([.int (nI a), .int (nI b)]) ++ List.replicate (3 - (lg_sl ([.int (nI a), .int (nI b)])).length) Slot.unset).toArray = ls at hl ⊢
  have hl : lv_has ls 3 [(0, .int (nI a)), (1, .int (nI b))] := hl
  refine lv_iload_n hx hb dM_greatest_0 rfl (lv_at hl 0 rfl) ?_
  refine lv_iload_n hx hb dM_greatest_1 rfl (lv_at hl 1 rfl) ?_
  refine lv_icmp_le (tgt := 9) hx hb dM_greatest_2 (by decide) (fun c2 => ?_) (fun c2 => ?_)
  · -- taken
    have c2 : a ≤ b := (nI_leI (a := a) (b := b) (by omega) (by omega)).mp c2
    refine lv_iload_n hx hb dM_greatest_9 rfl (lv_at hl 1 rfl) ?_
    refine lv_istore_n (lv' := [(2, .int (nI b)), (0, .int (nI a)), (1, .int (nI b))]) hx hb dM_greatest_10 rfl hl (by decide) rfl (fun ls hl => ?_)
    refine lv_iload_n hx hb dM_greatest_11 rfl (lv_at hl 0 rfl) ?_
    refine lv_iconst (v := nI 1) hx hb dM_greatest_12 (by decide) ?_
    refine lv_icmp_le (tgt := 20) hx hb dM_greatest_13 (by decide) (fun c13 => ?_) (fun c13 => ?_)
    · -- taken
      have c13 : b ≤ 1 := (nI_leI (a := b) (b := 1) (by omega) (by omega)).mp c13
      refine lv_iconst (v := nI 1) hx hb dM_greatest_20 (by decide) ?_
      exact zz_iretR (v := nI 1) hx hb hr hlocks (congrArg nI (by omega)) dM_greatest_21
    · -- not taken
      have c13 : ¬ (b ≤ 1) := fun h => c13 ((nI_leI (a := b) (b := 1) (by omega) (by omega)).mpr h)
      refine lv_iload_n hx hb dM_greatest_16 rfl (lv_at hl 0 rfl) ?_
      refine lv_goto (tgt := 21) hx hb dM_greatest_17 (by decide) ?_
      exact zz_iretR (v := nI b) hx hb hr hlocks (congrArg nI (by omega)) dM_greatest_21
  · -- not taken
    have c2 : ¬ (a ≤ b) := fun h => c2 ((nI_leI (a := a) (b := b) (by omega) (by omega)).mpr h)
    refine lv_iload_n hx hb dM_greatest_5 rfl (lv_at hl 0 rfl) ?_
    refine lv_goto (tgt := 10) hx hb dM_greatest_6 (by decide) ?_
    refine lv_istore_n (lv' := [(2, .int (nI a)), (0, .int (nI a)), (1, .int (nI b))]) hx hb dM_greatest_10 rfl hl (by decide) rfl (fun ls hl => ?_)
    refine lv_iload_n hx hb dM_greatest_11 rfl (lv_at hl 0 rfl) ?_
    refine lv_iconst (v := nI 1) hx hb dM_greatest_12 (by decide) ?_
    refine lv_icmp_le (tgt := 20) hx hb dM_greatest_13 (by decide) (fun c13 => ?_) (fun c13 => ?_)
    · -- taken
      have c13 : a ≤ 1 := (nI_leI (a := a) (b := 1) (by omega) (by omega)).mp c13
      refine lv_iconst (v := nI 1) hx hb dM_greatest_20 (by decide) ?_
      exact zz_iretR (v := nI 1) hx hb hr hlocks (congrArg nI (by omega)) dM_greatest_21
    · -- not taken
      have c13 : ¬ (a ≤ 1) := fun h => c13 ((nI_leI (a := a) (b := 1) (by omega) (by omega)).mpr h)
      refine lv_iload_n hx hb dM_greatest_16 rfl (lv_at hl 0 rfl) ?_
      refine lv_goto (tgt := 21) hx hb dM_greatest_17 (by decide) ?_
      exact zz_iretR (v := nI a) hx hb hr hlocks (congrArg nI (by omega)) dM_greatest_21

abbrev rm_M_fits : Room := { frames := 0, cells := 0, slots := 0, locals := 0 }
set_option maxHeartbeats 4000000 in
set_option maxRecDepth 100000 in
theorem c_M_fits (l : Launch) (x y : Int32) : Met l yM_fits wM_fits rm_M_fits (zz_N [.int x, .int y]) (vp_Si (fun r : Int32 => r = nI (mfit x y).toNat)) 0 0 (fun _ => False) := by
  refine Met.ofW (cc := cM_fits) (maxL := 2) (ret := (some .boolean)) (by decide) rfl ?_
  intro pg ev s mt args below meth kd s₁ B hml hv
  have hv : args = _ := hv
  subst hv
  have hx := B.exec
  have hb := B.bytes
  have hr := B.returns
  have ht : ∀ w ∈ W0, w.before _ s = true := fun w h => atoms_spec (ws := wM_fits) B.pre w (List.mem_cons_of_mem _ h)
  have hown : s.vm.findClass "StatRowsModel" = some mt.cls := findClass_of_methodNamed B.named
  have hlocks := B.notSynchronized
  have hl := lv_entry ([.int x, .int y]) (n := 2) (Nat.le_of_ble_eq_true rfl)
  rw [lg_entry_eq]
  generalize (lg_sl ([.int x, .int y]) ++ List.replicate (2 - (lg_sl ([.int x, .int y])).length) Slot.unset).toArray = ls at hl ⊢
  have hl : lv_has ls 2 [(0, .int x), (1, .int y)] := hl
  refine lv_iload_n hx hb dM_fits_0 rfl (lv_at hl 0 rfl) ?_
  refine lv_if_lt (tgt := 9) hx hb dM_fits_1 (by decide) (fun c1 => ?_) (fun c1 => ?_)
  · -- taken
    have hs : mfit x y = true := decide_eq_true (Or.inl c1)
    refine lv_iconst (v := nI 1) hx hb dM_fits_9 (by decide) ?_
    refine lv_goto (tgt := 14) hx hb dM_fits_10 (by decide) ?_
    exact zz_zretR (v := nI 1) hx hb hr hlocks (by decide) (by rw [hs]; rfl) dM_fits_14
  · -- not taken
    refine lv_iload_n hx hb dM_fits_4 rfl (lv_at hl 0 rfl) ?_
    refine lv_iload_n hx hb dM_fits_5 rfl (lv_at hl 1 rfl) ?_
    refine lv_icmp_ne (tgt := 13) hx hb dM_fits_6 (by decide) (fun c6 => ?_) (fun c6 => ?_)
    · -- taken
      have hs : mfit x y = false := decide_eq_false (fun q => q.elim c1 c6)
      refine lv_iconst (v := nI 0) hx hb dM_fits_13 (by decide) ?_
      exact zz_zretR (v := nI 0) hx hb hr hlocks (by decide) (by rw [hs]; rfl) dM_fits_14
    · -- not taken
      have hs : mfit x y = true := decide_eq_true (Or.inr c6)
      refine lv_iconst (v := nI 1) hx hb dM_fits_9 (by decide) ?_
      refine lv_goto (tgt := 14) hx hb dM_fits_10 (by decide) ?_
      exact zz_zretR (v := nI 1) hx hb hr hlocks (by decide) (by rw [hs]; rfl) dM_fits_14
