abbrev rm_M_pattern : Room := { frames := 0, cells := 0, slots := 0, locals := 0 }
set_option maxHeartbeats 4000000 in
set_option maxRecDepth 100000 in
theorem c_M_pattern (l : Launch) (D : va_G) (cI cB : ClassId) (sz : Nat) (m0 m1 m2 m3 m4 m5 m6 n k e tn : Nat) (ak fs fp fo : Nat → Int32) (hn : n ≤ 30) (hAk : ∀ i, i < n → ak (3 * i) = fs i ∧ ak (3 * i + 1) = fp i ∧ ak (3 * i + 2) = fo i) (s1 p1 o1 : Int32) : Met l yM_pattern wM_pattern rm_M_pattern (zz_P D vwCl [(cI, .int), (cB, .boolean)] [.ref m0, .int s1, .int p1, .int o1] [(m0, .inr (5, [.int (nI tn), .ref m1, .ref m2, .ref m3, .int (nI n), .ref m4, .int (nI e), .int (nI k), .ref m5, .ref m6])), (m4, .inl (cI, 90, .inl ak))] sz) (va_Qi (fun (r : Int32) (u : ((Nat → Int32) × Nat)) => (((decide (s1 = -1) || inr_ 256 s1) && (decide (p1 = -1) || inr_ 8 p1) && (decide (o1 = -1) || inr_ 256 o1)) = false ∧ r = -1 ∧ u = (ak, n)) ∨ (((decide (s1 = -1) || inr_ 256 s1) && (decide (p1 = -1) || inr_ 8 p1) && (decide (o1 = -1) || inr_ 256 o1)) = true ∧ ((∃ j, j < n ∧ (fs j = s1 ∧ fp j = p1 ∧ fo j = o1) ∧ (∀ i, i < j → ¬ (fs i = s1 ∧ fp i = p1 ∧ fo i = o1)) ∧ r = nI j ∧ u = (ak, n)) ∨ ((∀ i, i < n → ¬ (fs i = s1 ∧ fp i = p1 ∧ fo i = o1)) ∧ ((n = 30 ∧ r = -3 ∧ u = (ak, n)) ∨ (n < 30 ∧ r = nI n ∧ u.2 = n + 1 ∧ ∀ i, i < n + 1 → u.1 (3 * i) = upd fs n s1 i ∧ u.1 (3 * i + 1) = upd fp n p1 i ∧ u.1 (3 * i + 2) = upd fo n o1 i)))))) (fun u : ((Nat → Int32) × Nat) => zz_B D vwCl [(cI, .int), (cB, .boolean)] (va_A [(m0, .inr (5, [.int (nI tn), .ref m1, .ref m2, .ref m3, .int (nI n), .ref m4, .int (nI e), .int (nI k), .ref m5, .ref m6])), (m4, .inl (cI, 90, .inl ak))] sz) [(m0, .inr (5, [.int (nI tn), .ref m1, .ref m2, .ref m3, .int (nI u.2), .ref m4, .int (nI e), .int (nI k), .ref m5, .ref m6])), (m4, .inl (cI, 90, .inl u.1))]) (va_A [(m0, .inr (5, [.int (nI tn), .ref m1, .ref m2, .ref m3, .int (nI n), .ref m4, .int (nI e), .int (nI k), .ref m5, .ref m6])), (m4, .inl (cI, 90, .inl ak))] sz)) 0 0 (va_A [(m0, .inr (5, [.int (nI tn), .ref m1, .ref m2, .ref m3, .int (nI n), .ref m4, .int (nI e), .int (nI k), .ref m5, .ref m6])), (m4, .inl (cI, 90, .inl ak))] sz) := by
  refine Met.ofW (cc := cM_pattern) (maxL := 5) (ret := (some .int)) (by decide) rfl ?_
  intro pg ev s mt args below meth kd s₁ B hml hv
  obtain ⟨rfl, hsz, hP, hK, hD0, hN⟩ := hv
  have hx := B.exec
  have hb := B.bytes
  have hr := B.returns
  have ht : ∀ w ∈ W0, w.before _ s = true := fun w h => atoms_spec (ws := wM_pattern) B.pre w (List.mem_cons_of_mem _ h)
  have hown : s.vm.findClass "StatRowsModel" = some mt.cls := findClass_of_methodNamed B.named
  have hlocks := B.notSynchronized
  subst hsz
  have hD := hD0.self (sz := s.heap.size)
  generalize hAe : va_A [(m0, .inr (5, [.int (nI tn), .ref m1, .ref m2, .ref m3, .int (nI n), .ref m4, .int (nI e), .int (nI k), .ref m5, .ref m6])), (m4, .inl (cI, 90, .inl ak))] s.heap.size = A at hD ⊢
  have hA : ∀ q : Nat, s.heap.size ≤ q → A q := fun q h => by rw [← hAe]; exact Or.inr h
  have hS : va_S A s.heap s.heap [] := va_S.rf
  have hP : va_P D vwCl [(m0, .inr (5, [.int (nI tn), .ref m1, .ref m2, .ref m3, .int (nI n), .ref m4, .int (nI e), .int (nI k), .ref m5, .ref m6])), (m4, .inl (cI, 90, .inl ak))] s.heap := hP
  have hl := lv_entry ([.ref m0, .int s1, .int p1, .int o1]) (n := 5) (Nat.le_of_ble_eq_true rfl)
  rw [lg_entry_eq]
  generalize (lg_sl ([.ref m0, .int s1, .int p1, .int o1]) ++ List.replicate (5 - (lg_sl ([.ref m0, .int s1, .int p1, .int o1])).length) Slot.unset).toArray = ls at hl ⊢
  have hl : lv_has ls 5 [(0, .ref m0), (1, .int s1), (2, .int p1), (3, .int o1)] := hl
  refine lv_iload_n hx hb dM_pattern_0 rfl (lv_at hl 1 rfl) ?_
  refine lv_iconst (v := (-1)) hx hb dM_pattern_1 (by decide) ?_
  refine lv_icmp_lt (tgt := 35) hx hb dM_pattern_2 (by decide) (fun c2 => ?_) (fun c2 => ?_)
  · -- taken
    have hs : ((decide (s1 = -1) || inr_ 256 s1) && (decide (p1 = -1) || inr_ 8 p1) && (decide (o1 = -1) || inr_ 256 o1)) = false := by
      have : (decide (s1 = -1) || inr_ 256 s1) = false := by
        cases h : (decide (s1 = -1) || inr_ 256 s1)
        · rfl
        · exact absurd c2 ((oa_iff 255 (by decide) s1).mp h).1
      rw [this]; simp
    refine lv_iconst (v := (-1)) hx hb dM_pattern_35 (by decide) ?_
    exact zz_iretW (v := (-1)) (w1 := fun u : ((Nat → Int32) × Nat) => [(m0, .inr (5, [.int (nI tn), .ref m1, .ref m2, .ref m3, .int (nI u.2), .ref m4, .int (nI e), .int (nI k), .ref m5, .ref m6])), (m4, .inl (cI, 90, .inl u.1))]) (ak, n) hx hb hr hlocks (Or.inl ⟨hs, rfl, rfl⟩) hP hK hD hS dM_pattern_36
  · -- not taken
    refine lv_iload_n hx hb dM_pattern_5 rfl (lv_at hl 1 rfl) ?_
    refine lv_sipush (v := nI 255) hx hb dM_pattern_6 (by decide) ?_
    refine lv_icmp_gt (tgt := 35) hx hb dM_pattern_9 (by decide) (fun c9 => ?_) (fun c9 => ?_)
    · -- taken
      have hs : ((decide (s1 = -1) || inr_ 256 s1) && (decide (p1 = -1) || inr_ 8 p1) && (decide (o1 = -1) || inr_ 256 o1)) = false := by
        have : (decide (s1 = -1) || inr_ 256 s1) = false := by
          cases h : (decide (s1 = -1) || inr_ 256 s1)
          · rfl
          · exact absurd c9 ((oa_iff 255 (by decide) s1).mp h).2
        rw [this]; simp
      refine lv_iconst (v := (-1)) hx hb dM_pattern_35 (by decide) ?_
      exact zz_iretW (v := (-1)) (w1 := fun u : ((Nat → Int32) × Nat) => [(m0, .inr (5, [.int (nI tn), .ref m1, .ref m2, .ref m3, .int (nI u.2), .ref m4, .int (nI e), .int (nI k), .ref m5, .ref m6])), (m4, .inl (cI, 90, .inl u.1))]) (ak, n) hx hb hr hlocks (Or.inl ⟨hs, rfl, rfl⟩) hP hK hD hS dM_pattern_36
    · -- not taken
      refine lv_iload_n hx hb dM_pattern_12 rfl (lv_at hl 2 rfl) ?_
      refine lv_iconst (v := (-1)) hx hb dM_pattern_13 (by decide) ?_
      refine lv_icmp_lt (tgt := 35) hx hb dM_pattern_14 (by decide) (fun c14 => ?_) (fun c14 => ?_)
      · -- taken
        have hs : ((decide (s1 = -1) || inr_ 256 s1) && (decide (p1 = -1) || inr_ 8 p1) && (decide (o1 = -1) || inr_ 256 o1)) = false := by
          have : (decide (p1 = -1) || inr_ 8 p1) = false := by
            cases h : (decide (p1 = -1) || inr_ 8 p1)
            · rfl
            · exact absurd c14 ((oa_iff 7 (by decide) p1).mp h).1
          rw [this]; simp
        refine lv_iconst (v := (-1)) hx hb dM_pattern_35 (by decide) ?_
        exact zz_iretW (v := (-1)) (w1 := fun u : ((Nat → Int32) × Nat) => [(m0, .inr (5, [.int (nI tn), .ref m1, .ref m2, .ref m3, .int (nI u.2), .ref m4, .int (nI e), .int (nI k), .ref m5, .ref m6])), (m4, .inl (cI, 90, .inl u.1))]) (ak, n) hx hb hr hlocks (Or.inl ⟨hs, rfl, rfl⟩) hP hK hD hS dM_pattern_36
      · -- not taken
        refine lv_iload_n hx hb dM_pattern_17 rfl (lv_at hl 2 rfl) ?_
        refine lv_bipush (v := nI 7) hx hb dM_pattern_18 (by decide) ?_
        refine lv_icmp_gt (tgt := 35) hx hb dM_pattern_20 (by decide) (fun c20 => ?_) (fun c20 => ?_)
        · -- taken
          have hs : ((decide (s1 = -1) || inr_ 256 s1) && (decide (p1 = -1) || inr_ 8 p1) && (decide (o1 = -1) || inr_ 256 o1)) = false := by
            have : (decide (p1 = -1) || inr_ 8 p1) = false := by
              cases h : (decide (p1 = -1) || inr_ 8 p1)
              · rfl
              · exact absurd c20 ((oa_iff 7 (by decide) p1).mp h).2
            rw [this]; simp
          refine lv_iconst (v := (-1)) hx hb dM_pattern_35 (by decide) ?_
          exact zz_iretW (v := (-1)) (w1 := fun u : ((Nat → Int32) × Nat) => [(m0, .inr (5, [.int (nI tn), .ref m1, .ref m2, .ref m3, .int (nI u.2), .ref m4, .int (nI e), .int (nI k), .ref m5, .ref m6])), (m4, .inl (cI, 90, .inl u.1))]) (ak, n) hx hb hr hlocks (Or.inl ⟨hs, rfl, rfl⟩) hP hK hD hS dM_pattern_36
        · -- not taken
          refine lv_iload_n hx hb dM_pattern_23 rfl (lv_at hl 3 rfl) ?_
          refine lv_iconst (v := (-1)) hx hb dM_pattern_24 (by decide) ?_
          refine lv_icmp_lt (tgt := 35) hx hb dM_pattern_25 (by decide) (fun c25 => ?_) (fun c25 => ?_)
          · -- taken
            have hs : ((decide (s1 = -1) || inr_ 256 s1) && (decide (p1 = -1) || inr_ 8 p1) && (decide (o1 = -1) || inr_ 256 o1)) = false := by
              have : (decide (o1 = -1) || inr_ 256 o1) = false := by
                cases h : (decide (o1 = -1) || inr_ 256 o1)
                · rfl
                · exact absurd c25 ((oa_iff 255 (by decide) o1).mp h).1
              rw [this]; simp
            refine lv_iconst (v := (-1)) hx hb dM_pattern_35 (by decide) ?_
            exact zz_iretW (v := (-1)) (w1 := fun u : ((Nat → Int32) × Nat) => [(m0, .inr (5, [.int (nI tn), .ref m1, .ref m2, .ref m3, .int (nI u.2), .ref m4, .int (nI e), .int (nI k), .ref m5, .ref m6])), (m4, .inl (cI, 90, .inl u.1))]) (ak, n) hx hb hr hlocks (Or.inl ⟨hs, rfl, rfl⟩) hP hK hD hS dM_pattern_36
          · -- not taken
            refine lv_iload_n hx hb dM_pattern_28 rfl (lv_at hl 3 rfl) ?_
            refine lv_sipush (v := nI 255) hx hb dM_pattern_29 (by decide) ?_
            refine lv_icmp_le (tgt := 37) hx hb dM_pattern_32 (by decide) (fun c32 => ?_) (fun c32 => ?_)
            · -- taken
              have hs : ((decide (s1 = -1) || inr_ 256 s1) && (decide (p1 = -1) || inr_ 8 p1) && (decide (o1 = -1) || inr_ 256 o1)) = true := by
                rw [(oa_iff 255 (by decide) s1).mpr ⟨c2, c9⟩, (oa_iff 7 (by decide) p1).mpr ⟨c14, c20⟩, (oa_iff 255 (by decide) o1).mpr ⟨c25, i_le.mp c32⟩]; rfl
              refine lv_iconst (v := nI 0) hx hb dM_pattern_37 (by decide) ?_
              refine lv_istore (lv' := [(4, .int (nI 0)), (0, .ref m0), (1, .int s1), (2, .int p1), (3, .int o1)]) hx hb dM_pattern_38 hl (by decide) rfl (fun ls hl => ?_)
              have lp40 : ∀ (fu : Nat) (i : Nat) (hi : i ≤ n) (hno : ∀ j, j < i → ¬ (fs j = s1 ∧ fp j = p1 ∧ fo j = o1)) (hm : n - i < fu) (H : Heap) (locs : List Loc) (hP : va_P D vwCl [(m0, .inr (5, [.int (nI tn), .ref m1, .ref m2, .ref m3, .int (nI n), .ref m4, .int (nI e), .int (nI k), .ref m5, .ref m6])), (m4, .inl (cI, 90, .inl ak))] H) (hD : va_D A [(m0, .inr (5, [.int (nI tn), .ref m1, .ref m2, .ref m3, .int (nI n), .ref m4, .int (nI e), .int (nI k), .ref m5, .ref m6])), (m4, .inl (cI, 90, .inl ak))]) (hS : va_S A s.heap H locs) (ls : Array Slot) (hl : lv_has ls 5 [(0, .ref m0), (1, .int s1), (2, .int p1), (3, .int o1), (4, .int (nI i))]), W pg l ev (headSpec wM_pattern rm_M_pattern).room s mt (([.ref m0, .int s1, .int p1, .int o1] : List Value).toArray) below meth kd H locs 0 0 (MQ below (va_Qi (fun (r : Int32) (u : ((Nat → Int32) × Nat)) => (((decide (s1 = -1) || inr_ 256 s1) && (decide (p1 = -1) || inr_ 8 p1) && (decide (o1 = -1) || inr_ 256 o1)) = false ∧ r = -1 ∧ u = (ak, n)) ∨ (((decide (s1 = -1) || inr_ 256 s1) && (decide (p1 = -1) || inr_ 8 p1) && (decide (o1 = -1) || inr_ 256 o1)) = true ∧ ((∃ j, j < n ∧ (fs j = s1 ∧ fp j = p1 ∧ fo j = o1) ∧ (∀ i, i < j → ¬ (fs i = s1 ∧ fp i = p1 ∧ fo i = o1)) ∧ r = nI j ∧ u = (ak, n)) ∨ ((∀ i, i < n → ¬ (fs i = s1 ∧ fp i = p1 ∧ fo i = o1)) ∧ ((n = 30 ∧ r = -3 ∧ u = (ak, n)) ∨ (n < 30 ∧ r = nI n ∧ u.2 = n + 1 ∧ ∀ i, i < n + 1 → u.1 (3 * i) = upd fs n s1 i ∧ u.1 (3 * i + 1) = upd fp n p1 i ∧ u.1 (3 * i + 2) = upd fo n o1 i)))))) (fun u : ((Nat → Int32) × Nat) => zz_B D vwCl [(cI, .int), (cB, .boolean)] A [(m0, .inr (5, [.int (nI tn), .ref m1, .ref m2, .ref m3, .int (nI u.2), .ref m4, .int (nI e), .int (nI k), .ref m5, .ref m6])), (m4, .inl (cI, 90, .inl u.1))]) A) (([.ref m0, .int s1, .int p1, .int o1] : List Value).toArray) s 0 0 A) (F0 mt 40 ls []) := by
                intro fu
                induction fu with
                | zero => intro i hi hno hm; exact absurd hm (Nat.not_lt_zero _)
                | succ fu ih40 =>
                  intro i hi hno hm H locs hP hD hS ls hl
                  refine lv_iload hx hb dM_pattern_40 (lv_at hl 4 rfl) ?_
                  refine lv_aload_n hx hb dM_pattern_42 rfl (lv_at hl 0 rfl) ?_
                  refine va_get (D := D) (ci := 5) (v := .int (nI n)) (C := "StatRowsModel") (T := TM) (N := 10) hx hb ht inM hown hK hP 0 rfl rfl 4 (by decide) (ht _ wd393) (fun _ h9 => h9) rfl dM_pattern_43 ?_
                  refine lv_icmp_ge (tgt := 101) hx hb dM_pattern_46 (by decide) (fun c46 => ?_) (fun c46 => ?_)
                  · -- taken
                    have c46 : n ≤ i := (nI_leI (a := n) (b := i) (by omega) (by omega)).mp c46
                    have hno : ∀ j, j < n → ¬ (fs j = s1 ∧ fp j = p1 ∧ fo j = o1) := fun j h => hno j (by omega)
                    refine lv_aload_n hx hb dM_pattern_101 rfl (lv_at hl 0 rfl) ?_
                    refine va_get (D := D) (ci := 5) (v := .int (nI n)) (C := "StatRowsModel") (T := TM) (N := 10) hx hb ht inM hown hK hP 0 rfl rfl 4 (by decide) (ht _ wd393) (fun _ h9 => h9) rfl dM_pattern_102 ?_
                    refine lv_bipush (v := nI 30) hx hb dM_pattern_105 (by decide) ?_
                    refine lv_icmp_ne (tgt := 113) hx hb dM_pattern_107 (by decide) (fun c107 => ?_) (fun c107 => ?_)
                    · -- taken
                      have c107 : ¬ (n = 30) := fun h => c107 ((nI_eq (a := n) (b := 30) (by omega) (by omega)).mpr h)
                      refine lv_aload_n hx hb dM_pattern_113 rfl (lv_at hl 0 rfl) ?_
                      refine va_get (D := D) (ci := 5) (v := .ref m4) (C := "StatRowsModel") (T := TM) (N := 10) hx hb ht inM hown hK hP 0 rfl rfl 5 (by decide) (ht _ wd394) (fun _ h9 => h9) rfl dM_pattern_114 ?_
                      refine lv_iconst (v := nI 3) hx hb dM_pattern_117 (by decide) ?_
                      refine lv_aload_n hx hb dM_pattern_118 rfl (lv_at hl 0 rfl) ?_
                      refine va_get (D := D) (ci := 5) (v := .int (nI n)) (C := "StatRowsModel") (T := TM) (N := 10) hx hb ht inM hown hK hP 0 rfl rfl 4 (by decide) (ht _ wd393) (fun _ h9 => h9) rfl dM_pattern_119 ?_
                      refine lv_imul hx hb dM_pattern_122 ?_
                      refine zz_top (y := nI (3 * n)) (pk_mul 3 n) ?_
                      refine lv_iload_n hx hb dM_pattern_123 rfl (lv_at hl 1 rfl) ?_
                      refine zz_iast (k := 3 * n) hx hb hK hP hD hS 1 0 rfl rfl (by omega) (by decide) dM_pattern_124 (fun H locs hP hD hS => ?_)
                      have hP : va_P D vwCl [(m0, .inr (5, [.int (nI tn), .ref m1, .ref m2, .ref m3, .int (nI n), .ref m4, .int (nI e), .int (nI k), .ref m5, .ref m6])), (m4, .inl (cI, 90, .inl (upd ak (3 * n) s1)))] H := hP
                      have hD : va_D A [(m0, .inr (5, [.int (nI tn), .ref m1, .ref m2, .ref m3, .int (nI n), .ref m4, .int (nI e), .int (nI k), .ref m5, .ref m6])), (m4, .inl (cI, 90, .inl (upd ak (3 * n) s1)))] := hD
                      refine lv_aload_n hx hb dM_pattern_125 rfl (lv_at hl 0 rfl) ?_
                      refine va_get (D := D) (ci := 5) (v := .ref m4) (C := "StatRowsModel") (T := TM) (N := 10) hx hb ht inM hown hK hP 0 rfl rfl 5 (by decide) (ht _ wd394) (fun _ h9 => h9) rfl dM_pattern_126 ?_
                      refine lv_iconst (v := nI 3) hx hb dM_pattern_129 (by decide) ?_
                      refine lv_aload_n hx hb dM_pattern_130 rfl (lv_at hl 0 rfl) ?_
                      refine va_get (D := D) (ci := 5) (v := .int (nI n)) (C := "StatRowsModel") (T := TM) (N := 10) hx hb ht inM hown hK hP 0 rfl rfl 4 (by decide) (ht _ wd393) (fun _ h9 => h9) rfl dM_pattern_131 ?_
                      refine lv_imul hx hb dM_pattern_134 ?_
                      refine zz_top (y := nI (3 * n)) (pk_mul 3 n) ?_
                      refine lv_iconst (v := nI 1) hx hb dM_pattern_135 (by decide) ?_
                      refine lv_iadd hx hb dM_pattern_136 ?_
                      refine zz_top (y := nI ((3 * n) + 1)) (nI_add (3 * n) 1) ?_
                      refine lv_iload_n hx hb dM_pattern_137 rfl (lv_at hl 2 rfl) ?_
                      refine zz_iast (k := (3 * n) + 1) hx hb hK hP hD hS 1 0 rfl rfl (by omega) (by decide) dM_pattern_138 (fun H locs hP hD hS => ?_)
                      have hP : va_P D vwCl [(m0, .inr (5, [.int (nI tn), .ref m1, .ref m2, .ref m3, .int (nI n), .ref m4, .int (nI e), .int (nI k), .ref m5, .ref m6])), (m4, .inl (cI, 90, .inl (upd (upd ak (3 * n) s1) ((3 * n) + 1) p1)))] H := hP
                      have hD : va_D A [(m0, .inr (5, [.int (nI tn), .ref m1, .ref m2, .ref m3, .int (nI n), .ref m4, .int (nI e), .int (nI k), .ref m5, .ref m6])), (m4, .inl (cI, 90, .inl (upd (upd ak (3 * n) s1) ((3 * n) + 1) p1)))] := hD
                      refine lv_aload_n hx hb dM_pattern_139 rfl (lv_at hl 0 rfl) ?_
                      refine va_get (D := D) (ci := 5) (v := .ref m4) (C := "StatRowsModel") (T := TM) (N := 10) hx hb ht inM hown hK hP 0 rfl rfl 5 (by decide) (ht _ wd394) (fun _ h9 => h9) rfl dM_pattern_140 ?_
                      refine lv_iconst (v := nI 3) hx hb dM_pattern_143 (by decide) ?_
                      refine lv_aload_n hx hb dM_pattern_144 rfl (lv_at hl 0 rfl) ?_
                      refine va_get (D := D) (ci := 5) (v := .int (nI n)) (C := "StatRowsModel") (T := TM) (N := 10) hx hb ht inM hown hK hP 0 rfl rfl 4 (by decide) (ht _ wd393) (fun _ h9 => h9) rfl dM_pattern_145 ?_
                      refine lv_imul hx hb dM_pattern_148 ?_
                      refine zz_top (y := nI (3 * n)) (pk_mul 3 n) ?_
                      refine lv_iconst (v := nI 2) hx hb dM_pattern_149 (by decide) ?_
                      refine lv_iadd hx hb dM_pattern_150 ?_
                      refine zz_top (y := nI ((3 * n) + 2)) (nI_add (3 * n) 2) ?_
                      refine lv_iload_n hx hb dM_pattern_151 rfl (lv_at hl 3 rfl) ?_
                      refine zz_iast (k := (3 * n) + 2) hx hb hK hP hD hS 1 0 rfl rfl (by omega) (by decide) dM_pattern_152 (fun H locs hP hD hS => ?_)
                      have hP : va_P D vwCl [(m0, .inr (5, [.int (nI tn), .ref m1, .ref m2, .ref m3, .int (nI n), .ref m4, .int (nI e), .int (nI k), .ref m5, .ref m6])), (m4, .inl (cI, 90, .inl (upd (upd (upd ak (3 * n) s1) ((3 * n) + 1) p1) ((3 * n) + 2) o1)))] H := hP
                      have hD : va_D A [(m0, .inr (5, [.int (nI tn), .ref m1, .ref m2, .ref m3, .int (nI n), .ref m4, .int (nI e), .int (nI k), .ref m5, .ref m6])), (m4, .inl (cI, 90, .inl (upd (upd (upd ak (3 * n) s1) ((3 * n) + 1) p1) ((3 * n) + 2) o1)))] := hD
                      refine lv_aload_n hx hb dM_pattern_153 rfl (lv_at hl 0 rfl) ?_
                      refine lv_dup hx hb dM_pattern_154 rfl ?_
                      refine va_get (D := D) (ci := 5) (v := .int (nI n)) (C := "StatRowsModel") (T := TM) (N := 10) hx hb ht inM hown hK hP 0 rfl rfl 4 (by decide) (ht _ wd393) (fun _ h9 => h9) rfl dM_pattern_155 ?_
                      refine lv_iconst (v := nI 1) hx hb dM_pattern_158 (by decide) ?_
                      refine lv_iadd hx hb dM_pattern_159 ?_
                      refine zz_top (y := nI (n + 1)) (nI_add n 1) ?_
                      refine va_put (D := D) (ci := 5) (v := .int (nI (n + 1))) (ty := .int) (C := "StatRowsModel") (T := TM) (N := 10) hx hb ht inM tyM okM nmM hown hK hP hD hS 0 rfl rfl 4 (by decide) (ht _ wd393) (fun _ h9 => h9) rfl (by decide +kernel) rfl rfl (Nat.le_of_ble_eq_true rfl) dM_pattern_160 (fun H locs hP hD hS => ?_)
                      have hP : va_P D vwCl [(m0, .inr (5, [.int (nI tn), .ref m1, .ref m2, .ref m3, .int (nI (n + 1)), .ref m4, .int (nI e), .int (nI k), .ref m5, .ref m6])), (m4, .inl (cI, 90, .inl (upd (upd (upd ak (3 * n) s1) ((3 * n) + 1) p1) ((3 * n) + 2) o1)))] H := hP
                      have hD : va_D A [(m0, .inr (5, [.int (nI tn), .ref m1, .ref m2, .ref m3, .int (nI (n + 1)), .ref m4, .int (nI e), .int (nI k), .ref m5, .ref m6])), (m4, .inl (cI, 90, .inl (upd (upd (upd ak (3 * n) s1) ((3 * n) + 1) p1) ((3 * n) + 2) o1)))] := hD
                      refine lv_aload_n hx hb dM_pattern_163 rfl (lv_at hl 0 rfl) ?_
                      refine va_get (D := D) (ci := 5) (v := .int (nI (n + 1))) (C := "StatRowsModel") (T := TM) (N := 10) hx hb ht inM hown hK hP 0 rfl rfl 4 (by decide) (ht _ wd393) (fun _ h9 => h9) rfl dM_pattern_164 ?_
                      refine lv_iconst (v := nI 1) hx hb dM_pattern_167 (by decide) ?_
                      refine lv_isub hx hb dM_pattern_168 ?_
                      refine zz_top (y := nI ((n + 1) - 1)) (pk_sub (a := n + 1) (b := 1) (by omega)) ?_
                      exact zz_iretW (v := nI ((n + 1) - 1)) (w1 := fun u : ((Nat → Int32) × Nat) => [(m0, .inr (5, [.int (nI tn), .ref m1, .ref m2, .ref m3, .int (nI u.2), .ref m4, .int (nI e), .int (nI k), .ref m5, .ref m6])), (m4, .inl (cI, 90, .inl u.1))]) (upd (upd (upd ak (3 * n) s1) ((3 * n) + 1) p1) ((3 * n) + 2) o1, n + 1) hx hb hr hlocks (Or.inr ⟨hs, Or.inr ⟨hno, Or.inr ⟨by omega, rfl, rfl, ak_new hAk⟩⟩⟩) hP hK hD hS dM_pattern_169
                    · -- not taken
                      have c107 : n = 30 := (nI_eq (a := n) (b := 30) (by omega) (by omega)).mp c107
                      refine lv_bipush (v := (-3)) hx hb dM_pattern_110 (by decide) ?_
                      exact zz_iretW (v := (-3)) (w1 := fun u : ((Nat → Int32) × Nat) => [(m0, .inr (5, [.int (nI tn), .ref m1, .ref m2, .ref m3, .int (nI u.2), .ref m4, .int (nI e), .int (nI k), .ref m5, .ref m6])), (m4, .inl (cI, 90, .inl u.1))]) (ak, n) hx hb hr hlocks (Or.inr ⟨hs, Or.inr ⟨hno, Or.inl ⟨c107, rfl, rfl⟩⟩⟩) hP hK hD hS dM_pattern_112
                  · -- not taken
                    have c46 : ¬ (n ≤ i) := fun h => c46 ((nI_leI (a := n) (b := i) (by omega) (by omega)).mpr h)
                    refine lv_aload_n hx hb dM_pattern_49 rfl (lv_at hl 0 rfl) ?_
                    refine va_get (D := D) (ci := 5) (v := .ref m4) (C := "StatRowsModel") (T := TM) (N := 10) hx hb ht inM hown hK hP 0 rfl rfl 5 (by decide) (ht _ wd394) (fun _ h9 => h9) rfl dM_pattern_50 ?_
                    refine lv_iconst (v := nI 3) hx hb dM_pattern_53 (by decide) ?_
                    refine lv_iload hx hb dM_pattern_54 (lv_at hl 4 rfl) ?_
                    refine lv_imul hx hb dM_pattern_56 ?_
                    refine zz_top (y := nI (3 * i)) (pk_mul 3 i) ?_
                    refine zz_iald (k := 3 * i) hx hb hK hP 1 0 rfl rfl (by omega) (by decide) dM_pattern_57 ?_
                    refine zz_top (y := fs i) ((hAk i (by omega)).1) ?_
                    refine lv_iload_n hx hb dM_pattern_58 rfl (lv_at hl 1 rfl) ?_
                    refine lv_icmp_ne (tgt := 95) hx hb dM_pattern_59 (by decide) (fun c59 => ?_) (fun c59 => ?_)
                    · -- taken
                      have hne : ¬ (fs i = s1 ∧ fp i = p1 ∧ fo i = o1) := fun q => c59 q.1
                      refine lv_iinc (v := nI (i + 1)) (lv' := [(4, .int (nI (i + 1))), (0, .ref m0), (1, .int s1), (2, .int p1), (3, .int o1)]) hx hb dM_pattern_95 hl (k := 4) rfl (nI_1 i) (by decide) rfl (fun ls hl => ?_)
                      refine lv_goto (tgt := 40) hx hb dM_pattern_98 (by decide) ?_
                      exact ih40 (i + 1) (by omega) (fun j h => by
                        by_cases q : j = i
                        · rw [q]; exact hne
                        · exact hno j (by omega)) (by omega) _ _ hP hD hS ls (lv_sub hl [1, 2, 3, 4, 0] rfl)
                    · -- not taken
                      refine lv_aload_n hx hb dM_pattern_62 rfl (lv_at hl 0 rfl) ?_
                      refine va_get (D := D) (ci := 5) (v := .ref m4) (C := "StatRowsModel") (T := TM) (N := 10) hx hb ht inM hown hK hP 0 rfl rfl 5 (by decide) (ht _ wd394) (fun _ h9 => h9) rfl dM_pattern_63 ?_
                      refine lv_iconst (v := nI 3) hx hb dM_pattern_66 (by decide) ?_
                      refine lv_iload hx hb dM_pattern_67 (lv_at hl 4 rfl) ?_
                      refine lv_imul hx hb dM_pattern_69 ?_
                      refine zz_top (y := nI (3 * i)) (pk_mul 3 i) ?_
                      refine lv_iconst (v := nI 1) hx hb dM_pattern_70 (by decide) ?_
                      refine lv_iadd hx hb dM_pattern_71 ?_
                      refine zz_top (y := nI ((3 * i) + 1)) (nI_add (3 * i) 1) ?_
                      refine zz_iald (k := (3 * i) + 1) hx hb hK hP 1 0 rfl rfl (by omega) (by decide) dM_pattern_72 ?_
                      refine zz_top (y := fp i) ((hAk i (by omega)).2.1) ?_
                      refine lv_iload_n hx hb dM_pattern_73 rfl (lv_at hl 2 rfl) ?_
                      refine lv_icmp_ne (tgt := 95) hx hb dM_pattern_74 (by decide) (fun c74 => ?_) (fun c74 => ?_)
                      · -- taken
                        have hne : ¬ (fs i = s1 ∧ fp i = p1 ∧ fo i = o1) := fun q => c74 q.2.1
                        refine lv_iinc (v := nI (i + 1)) (lv' := [(4, .int (nI (i + 1))), (0, .ref m0), (1, .int s1), (2, .int p1), (3, .int o1)]) hx hb dM_pattern_95 hl (k := 4) rfl (nI_1 i) (by decide) rfl (fun ls hl => ?_)
                        refine lv_goto (tgt := 40) hx hb dM_pattern_98 (by decide) ?_
                        exact ih40 (i + 1) (by omega) (fun j h => by
                          by_cases q : j = i
                          · rw [q]; exact hne
                          · exact hno j (by omega)) (by omega) _ _ hP hD hS ls (lv_sub hl [1, 2, 3, 4, 0] rfl)
                      · -- not taken
                        refine lv_aload_n hx hb dM_pattern_77 rfl (lv_at hl 0 rfl) ?_
                        refine va_get (D := D) (ci := 5) (v := .ref m4) (C := "StatRowsModel") (T := TM) (N := 10) hx hb ht inM hown hK hP 0 rfl rfl 5 (by decide) (ht _ wd394) (fun _ h9 => h9) rfl dM_pattern_78 ?_
                        refine lv_iconst (v := nI 3) hx hb dM_pattern_81 (by decide) ?_
                        refine lv_iload hx hb dM_pattern_82 (lv_at hl 4 rfl) ?_
                        refine lv_imul hx hb dM_pattern_84 ?_
                        refine zz_top (y := nI (3 * i)) (pk_mul 3 i) ?_
                        refine lv_iconst (v := nI 2) hx hb dM_pattern_85 (by decide) ?_
                        refine lv_iadd hx hb dM_pattern_86 ?_
                        refine zz_top (y := nI ((3 * i) + 2)) (nI_add (3 * i) 2) ?_
                        refine zz_iald (k := (3 * i) + 2) hx hb hK hP 1 0 rfl rfl (by omega) (by decide) dM_pattern_87 ?_
                        refine zz_top (y := fo i) ((hAk i (by omega)).2.2) ?_
                        refine lv_iload_n hx hb dM_pattern_88 rfl (lv_at hl 3 rfl) ?_
                        refine lv_icmp_ne (tgt := 95) hx hb dM_pattern_89 (by decide) (fun c89 => ?_) (fun c89 => ?_)
                        · -- taken
                          have hne : ¬ (fs i = s1 ∧ fp i = p1 ∧ fo i = o1) := fun q => c89 q.2.2
                          refine lv_iinc (v := nI (i + 1)) (lv' := [(4, .int (nI (i + 1))), (0, .ref m0), (1, .int s1), (2, .int p1), (3, .int o1)]) hx hb dM_pattern_95 hl (k := 4) rfl (nI_1 i) (by decide) rfl (fun ls hl => ?_)
                          refine lv_goto (tgt := 40) hx hb dM_pattern_98 (by decide) ?_
                          exact ih40 (i + 1) (by omega) (fun j h => by
                            by_cases q : j = i
                            · rw [q]; exact hne
                            · exact hno j (by omega)) (by omega) _ _ hP hD hS ls (lv_sub hl [1, 2, 3, 4, 0] rfl)
                        · -- not taken
                          refine lv_iload hx hb dM_pattern_92 (lv_at hl 4 rfl) ?_
                          exact zz_iretW (v := nI i) (w1 := fun u : ((Nat → Int32) × Nat) => [(m0, .inr (5, [.int (nI tn), .ref m1, .ref m2, .ref m3, .int (nI u.2), .ref m4, .int (nI e), .int (nI k), .ref m5, .ref m6])), (m4, .inl (cI, 90, .inl u.1))]) (ak, n) hx hb hr hlocks (Or.inr ⟨hs, Or.inl ⟨i, by omega, ⟨c59, c74, c89⟩, hno, rfl, rfl⟩⟩) hP hK hD hS dM_pattern_94
              exact lp40 ((n - 0) + 1) 0 (Nat.zero_le _) (fun j h => absurd h (Nat.not_lt_zero _)) (Nat.lt_succ_self _) s.heap _ hP hD hS ls (lv_sub hl [1, 2, 3, 4, 0] rfl)
            · -- not taken
              have hs : ((decide (s1 = -1) || inr_ 256 s1) && (decide (p1 = -1) || inr_ 8 p1) && (decide (o1 = -1) || inr_ 256 o1)) = false := by
                have : (decide (o1 = -1) || inr_ 256 o1) = false := by
                  cases h : (decide (o1 = -1) || inr_ 256 o1)
                  · rfl
                  · exact absurd (Classical.not_not.mp (fun q => c32 (i_le.mpr q))) ((oa_iff 255 (by decide) o1).mp h).2
                rw [this]; simp
              refine lv_iconst (v := (-1)) hx hb dM_pattern_35 (by decide) ?_
              exact zz_iretW (v := (-1)) (w1 := fun u : ((Nat → Int32) × Nat) => [(m0, .inr (5, [.int (nI tn), .ref m1, .ref m2, .ref m3, .int (nI u.2), .ref m4, .int (nI e), .int (nI k), .ref m5, .ref m6])), (m4, .inl (cI, 90, .inl u.1))]) (ak, n) hx hb hr hlocks (Or.inl ⟨hs, rfl, rfl⟩) hP hK hD hS dM_pattern_36

abbrev rm_M_matches : Room := { frames := 1, cells := 0, slots := 0, locals := 21 }
set_option maxHeartbeats 4000000 in
set_option maxRecDepth 100000 in
theorem c_M_matches (l : Launch) (D : va_G) (cI cB : ClassId) (m0 m1 m2 m3 m4 m5 m6 n k e : Nat) (su pd ob : Nat → Int32) (T : List Nat) (hM : RM T su pd ob) (ak fs fp fo : Nat → Int32) (hn : n ≤ 30) (hAk : ∀ i, i < n → ak (3 * i) = fs i ∧ ak (3 * i + 1) = fp i ∧ ak (3 * i + 2) = fo i) (row : Int32) : Met l yM_matches wM_matches rm_M_matches (zz_R D vwCl [(cI, .int), (cB, .boolean)] [.ref m0, .int row] [(m0, .inr (5, [.int (nI T.length), .ref m1, .ref m2, .ref m3, .int (nI n), .ref m4, .int (nI e), .int (nI k), .ref m5, .ref m6])), (m1, .inl (cI, 400, .inl su)), (m2, .inl (cI, 400, .inl pd)), (m3, .inl (cI, 400, .inl ob)), (m4, .inl (cI, 90, .inl ak))]) (vp_Si (fun r : Int32 => (¬ (¬ row < 0 ∧ ¬ nI n ≤ row) ∧ r = -1) ∨ ∃ kk, kk < n ∧ row = nI kk ∧ r = nI (T.countP (mgo (fs kk) (fp kk) (fo kk))))) 0 0 (fun _ => False) := by
  refine Met.ofW (cc := cM_matches) (maxL := 4) (ret := (some .int)) (by decide) rfl ?_
  intro pg ev s mt args below meth kd s₁ B hml hv
  obtain ⟨rfl, hP, hK, hN⟩ := hv
  have hx := B.exec
  have hb := B.bytes
  have hr := B.returns
  have ht : ∀ w ∈ W0, w.before _ s = true := fun w h => atoms_spec (ws := wM_matches) B.pre w (List.mem_cons_of_mem _ h)
  have hown : s.vm.findClass "StatRowsModel" = some mt.cls := findClass_of_methodNamed B.named
  have hlocks := B.notSynchronized
  have hl := lv_entry ([.ref m0, .int row]) (n := 4) (Nat.le_of_ble_eq_true rfl)
  rw [lg_entry_eq]
  generalize (lg_sl ([.ref m0, .int row]) ++ List.replicate (4 - (lg_sl ([.ref m0, .int row])).length) Slot.unset).toArray = ls at hl ⊢
  have hl : lv_has ls 4 [(0, .ref m0), (1, .int row)] := hl
  have hM4 := hM.2.1
  refine lv_iload_n hx hb dM_matches_0 rfl (lv_at hl 1 rfl) ?_
  refine lv_if_lt (tgt := 12) hx hb dM_matches_1 (by decide) (fun c1 => ?_) (fun c1 => ?_)
  · -- taken
    have hbad : ¬ (¬ row < 0 ∧ ¬ nI n ≤ row) := fun q => q.1 c1
    refine lv_iconst (v := (-1)) hx hb dM_matches_12 (by decide) ?_
    exact zz_iretR (v := (-1)) hx hb hr hlocks (Or.inl ⟨hbad, rfl⟩) dM_matches_13
  · -- not taken
    refine lv_iload_n hx hb dM_matches_4 rfl (lv_at hl 1 rfl) ?_
    refine lv_aload_n hx hb dM_matches_5 rfl (lv_at hl 0 rfl) ?_
    refine va_get (D := D) (ci := 5) (v := .int (nI n)) (C := "StatRowsModel") (T := TM) (N := 10) hx hb ht inM hown hK hP 0 rfl rfl 4 (by decide) (ht _ wd393) (fun _ h9 => h9) rfl dM_matches_6 ?_
    refine lv_icmp_lt (tgt := 14) hx hb dM_matches_9 (by decide) (fun c9 => ?_) (fun c9 => ?_)
    · -- taken
      obtain ⟨kk, hkk, ekk⟩ := zz_in (n := n) (by omega) c1 (fun q => (i_le.mp q) c9)
      rw [ekk] at hl
      refine lv_iconst (v := nI 0) hx hb dM_matches_14 (by decide) ?_
      refine lv_istore_n (lv' := [(2, .int (nI 0)), (0, .ref m0), (1, .int (nI kk))]) hx hb dM_matches_15 rfl hl (by decide) rfl (fun ls hl => ?_)
      refine lv_iconst (v := nI 0) hx hb dM_matches_16 (by decide) ?_
      refine lv_istore_n (lv' := [(3, .int (nI 0)), (2, .int (nI 0)), (0, .ref m0), (1, .int (nI kk))]) hx hb dM_matches_17 rfl hl (by decide) rfl (fun ls hl => ?_)
      have lp18 : ∀ (fu : Nat) (i : Nat) (hi : i ≤ T.length) (hm : T.length - i < fu) (ls : Array Slot) (hl : lv_has ls 4 [(0, .ref m0), (1, .int (nI kk)), (2, .int (nI ((T.take i).countP (mgo (fs kk) (fp kk) (fo kk))))), (3, .int (nI i))]), W pg l ev (headSpec wM_matches rm_M_matches).room s mt (([.ref m0, .int row] : List Value).toArray) below meth kd s.heap [] 0 0 (MQ below (vp_Si (fun r : Int32 => (¬ (¬ row < 0 ∧ ¬ nI n ≤ row) ∧ r = -1) ∨ ∃ kk, kk < n ∧ row = nI kk ∧ r = nI (T.countP (mgo (fs kk) (fp kk) (fo kk))))) (([.ref m0, .int row] : List Value).toArray) s 0 0 (fun _ => False)) (F0 mt 18 ls []) := by
        intro fu
        induction fu with
        | zero => intro i hi hm; exact absurd hm (Nat.not_lt_zero _)
        | succ fu ih18 =>
          intro i hi hm ls hl
          refine lv_iload_n hx hb dM_matches_18 rfl (lv_at hl 3 rfl) ?_
          refine lv_aload_n hx hb dM_matches_19 rfl (lv_at hl 0 rfl) ?_
          refine va_get (D := D) (ci := 5) (v := .int (nI T.length)) (C := "StatRowsModel") (T := TM) (N := 10) hx hb ht inM hown hK hP 0 rfl rfl 0 (by decide) (ht _ wd389) (fun _ h9 => h9) rfl dM_matches_20 ?_
          refine lv_icmp_ge (tgt := 104) hx hb dM_matches_23 (by decide) (fun c23 => ?_) (fun c23 => ?_)
          · -- taken
            have c23 : T.length ≤ i := (nI_leI (a := T.length) (b := i) (by omega) (by omega)).mp c23
            refine lv_iload_n hx hb dM_matches_104 rfl (lv_at hl 2 rfl) ?_
            exact zz_iretR (v := nI ((T.take i).countP (mgo (fs kk) (fp kk) (fo kk)))) hx hb hr hlocks (Or.inr ⟨kk, hkk, ekk, by rw [tkl _ i (by omega)]⟩) dM_matches_105
          · -- not taken
            have c23 : ¬ (T.length ≤ i) := fun h => c23 ((nI_leI (a := T.length) (b := i) (by omega) (by omega)).mpr h)
            have hCi := hM.2.2.1 i (by omega)
            have b1 := btl (mfit (fs kk) (nI (T.getD i 0 / 256 % 256)))
            have b2 := btl (mfit (fp kk) (nI (T.getD i 0 / 65536)))
            have b3 := btl (mfit (fo kk) (nI (T.getD i 0 % 256)))
            refine lv_aload_n hx hb dM_matches_26 rfl (lv_at hl 0 rfl) ?_
            refine va_get (D := D) (ci := 5) (v := .ref m4) (C := "StatRowsModel") (T := TM) (N := 10) hx hb ht inM hown hK hP 0 rfl rfl 5 (by decide) (ht _ wd394) (fun _ h9 => h9) rfl dM_matches_27 ?_
            refine lv_iconst (v := nI 3) hx hb dM_matches_30 (by decide) ?_
            refine lv_iload_n hx hb dM_matches_31 rfl (lv_at hl 1 rfl) ?_
            refine lv_imul hx hb dM_matches_32 ?_
            refine zz_top (y := nI (3 * kk)) (pk_mul 3 kk) ?_
            refine zz_iald (k := 3 * kk) hx hb hK hP 4 0 rfl rfl (by omega) (by decide) dM_matches_33 ?_
            refine zz_top (y := fs kk) ((hAk kk hkk).1) ?_
            refine lv_aload_n hx hb dM_matches_34 rfl (lv_at hl 0 rfl) ?_
            refine va_get (D := D) (ci := 5) (v := .ref m1) (C := "StatRowsModel") (T := TM) (N := 10) hx hb ht inM hown hK hP 0 rfl rfl 1 (by decide) (ht _ wd390) (fun _ h9 => h9) rfl dM_matches_35 ?_
            refine lv_iload_n hx hb dM_matches_38 rfl (lv_at hl 3 rfl) ?_
            refine zz_iald (k := i) hx hb hK hP 1 0 rfl rfl (by omega) (by decide) dM_matches_39 ?_
            refine zz_top (y := nI (T.getD i 0 / 256 % 256)) ((hM.1 i (by omega)).1) ?_
            refine zz_ci (v := nI ((mfit (fs kk) (nI (T.getD i 0 / 256 % 256))).toNat)) (W.runS (As := [.int (fs kk), .int (nI (T.getD i 0 / 256 % 256))]) (rest := []) ⟨hx, hb, hml, hown, ht⟩ (c_M_fits l _ _) (va_cwS 2 ht (gd_S wd530 wd531 wd6 wd532) rfl rfl rfl (by decide +kernel) ⟨Nat.le_of_ble_eq_true rfl, Nat.le_of_ble_eq_true rfl⟩) zz_N_S rfl rfl hl.1 rfl (lv_room (Nat.le_of_ble_eq_true rfl)) dM_matches_40 ⟨Nat.le_of_ble_eq_true rfl, Nat.le_of_ble_eq_true rfl⟩) ?_
            refine lv_if_eq (tgt := 96) hx hb dM_matches_43 (by decide) (fun c43 => ?_) (fun c43 => ?_)
            · -- taken
              have c43 : (mfit (fs kk) (nI (T.getD i 0 / 256 % 256))).toNat = 0 := (nI_eq (a := (mfit (fs kk) (nI (T.getD i 0 / 256 % 256))).toNat) (b := 0) (by omega) (by omega)).mp c43
              have hg : (mgo (fs kk) (fp kk) (fo kk)) (T.getD i 0) = false := by unfold mgo; rw [bt0 c43]; rfl
              refine lv_iload_n hx hb dM_matches_96 rfl (lv_at hl 2 rfl) ?_
              refine zz_top (y := nI ((T.take (i + 1)).countP (mgo (fs kk) (fp kk) (fo kk)))) (congrArg nI (by rw [tk1 _ i 0 (by omega), cp1, hg]; rfl)) ?_
              refine lv_istore_n (lv' := [(2, .int (nI ((T.take (i + 1)).countP (mgo (fs kk) (fp kk) (fo kk))))), (0, .ref m0), (1, .int (nI kk)), (3, .int (nI i))]) hx hb dM_matches_97 rfl hl (by decide) rfl (fun ls hl => ?_)
              refine lv_iinc (v := nI (i + 1)) (lv' := [(3, .int (nI (i + 1))), (2, .int (nI ((T.take (i + 1)).countP (mgo (fs kk) (fp kk) (fo kk))))), (0, .ref m0), (1, .int (nI kk))]) hx hb dM_matches_98 hl (k := 3) rfl (nI_1 i) (by decide) rfl (fun ls hl => ?_)
              refine lv_goto (tgt := 18) hx hb dM_matches_101 (by decide) ?_
              exact ih18 (i + 1) (by omega) (by omega) ls (lv_sub hl [2, 3, 1, 0] rfl)
            · -- not taken
              have c43 : ¬ ((mfit (fs kk) (nI (T.getD i 0 / 256 % 256))).toNat = 0) := fun h => c43 ((nI_eq (a := (mfit (fs kk) (nI (T.getD i 0 / 256 % 256))).toNat) (b := 0) (by omega) (by omega)).mpr h)
              have e1 := bt1 c43
              refine lv_aload_n hx hb dM_matches_46 rfl (lv_at hl 0 rfl) ?_
              refine va_get (D := D) (ci := 5) (v := .ref m4) (C := "StatRowsModel") (T := TM) (N := 10) hx hb ht inM hown hK hP 0 rfl rfl 5 (by decide) (ht _ wd394) (fun _ h9 => h9) rfl dM_matches_47 ?_
              refine lv_iconst (v := nI 3) hx hb dM_matches_50 (by decide) ?_
              refine lv_iload_n hx hb dM_matches_51 rfl (lv_at hl 1 rfl) ?_
              refine lv_imul hx hb dM_matches_52 ?_
              refine zz_top (y := nI (3 * kk)) (pk_mul 3 kk) ?_
              refine lv_iconst (v := nI 1) hx hb dM_matches_53 (by decide) ?_
              refine lv_iadd hx hb dM_matches_54 ?_
              refine zz_top (y := nI ((3 * kk) + 1)) (nI_add (3 * kk) 1) ?_
              refine zz_iald (k := (3 * kk) + 1) hx hb hK hP 4 0 rfl rfl (by omega) (by decide) dM_matches_55 ?_
              refine zz_top (y := fp kk) ((hAk kk hkk).2.1) ?_
              refine lv_aload_n hx hb dM_matches_56 rfl (lv_at hl 0 rfl) ?_
              refine va_get (D := D) (ci := 5) (v := .ref m2) (C := "StatRowsModel") (T := TM) (N := 10) hx hb ht inM hown hK hP 0 rfl rfl 2 (by decide) (ht _ wd391) (fun _ h9 => h9) rfl dM_matches_57 ?_
              refine lv_iload_n hx hb dM_matches_60 rfl (lv_at hl 3 rfl) ?_
              refine zz_iald (k := i) hx hb hK hP 2 0 rfl rfl (by omega) (by decide) dM_matches_61 ?_
              refine zz_top (y := nI (T.getD i 0 / 65536)) ((hM.1 i (by omega)).2.1) ?_
              refine zz_ci (v := nI ((mfit (fp kk) (nI (T.getD i 0 / 65536))).toNat)) (W.runS (As := [.int (fp kk), .int (nI (T.getD i 0 / 65536))]) (rest := []) ⟨hx, hb, hml, hown, ht⟩ (c_M_fits l _ _) (va_cwS 2 ht (gd_S wd530 wd531 wd6 wd532) rfl rfl rfl (by decide +kernel) ⟨Nat.le_of_ble_eq_true rfl, Nat.le_of_ble_eq_true rfl⟩) zz_N_S rfl rfl hl.1 rfl (lv_room (Nat.le_of_ble_eq_true rfl)) dM_matches_62 ⟨Nat.le_of_ble_eq_true rfl, Nat.le_of_ble_eq_true rfl⟩) ?_
              refine lv_if_eq (tgt := 96) hx hb dM_matches_65 (by decide) (fun c65 => ?_) (fun c65 => ?_)
              · -- taken
                have c65 : (mfit (fp kk) (nI (T.getD i 0 / 65536))).toNat = 0 := (nI_eq (a := (mfit (fp kk) (nI (T.getD i 0 / 65536))).toNat) (b := 0) (by omega) (by omega)).mp c65
                have hg : (mgo (fs kk) (fp kk) (fo kk)) (T.getD i 0) = false := by unfold mgo; rw [e1, bt0 c65]; rfl
                refine lv_iload_n hx hb dM_matches_96 rfl (lv_at hl 2 rfl) ?_
                refine zz_top (y := nI ((T.take (i + 1)).countP (mgo (fs kk) (fp kk) (fo kk)))) (congrArg nI (by rw [tk1 _ i 0 (by omega), cp1, hg]; rfl)) ?_
                refine lv_istore_n (lv' := [(2, .int (nI ((T.take (i + 1)).countP (mgo (fs kk) (fp kk) (fo kk))))), (0, .ref m0), (1, .int (nI kk)), (3, .int (nI i))]) hx hb dM_matches_97 rfl hl (by decide) rfl (fun ls hl => ?_)
                refine lv_iinc (v := nI (i + 1)) (lv' := [(3, .int (nI (i + 1))), (2, .int (nI ((T.take (i + 1)).countP (mgo (fs kk) (fp kk) (fo kk))))), (0, .ref m0), (1, .int (nI kk))]) hx hb dM_matches_98 hl (k := 3) rfl (nI_1 i) (by decide) rfl (fun ls hl => ?_)
                refine lv_goto (tgt := 18) hx hb dM_matches_101 (by decide) ?_
                exact ih18 (i + 1) (by omega) (by omega) ls (lv_sub hl [2, 3, 1, 0] rfl)
              · -- not taken
                have c65 : ¬ ((mfit (fp kk) (nI (T.getD i 0 / 65536))).toNat = 0) := fun h => c65 ((nI_eq (a := (mfit (fp kk) (nI (T.getD i 0 / 65536))).toNat) (b := 0) (by omega) (by omega)).mpr h)
                have e2 := bt1 c65
                refine lv_aload_n hx hb dM_matches_68 rfl (lv_at hl 0 rfl) ?_
                refine va_get (D := D) (ci := 5) (v := .ref m4) (C := "StatRowsModel") (T := TM) (N := 10) hx hb ht inM hown hK hP 0 rfl rfl 5 (by decide) (ht _ wd394) (fun _ h9 => h9) rfl dM_matches_69 ?_
                refine lv_iconst (v := nI 3) hx hb dM_matches_72 (by decide) ?_
                refine lv_iload_n hx hb dM_matches_73 rfl (lv_at hl 1 rfl) ?_
                refine lv_imul hx hb dM_matches_74 ?_
                refine zz_top (y := nI (3 * kk)) (pk_mul 3 kk) ?_
                refine lv_iconst (v := nI 2) hx hb dM_matches_75 (by decide) ?_
                refine lv_iadd hx hb dM_matches_76 ?_
                refine zz_top (y := nI ((3 * kk) + 2)) (nI_add (3 * kk) 2) ?_
                refine zz_iald (k := (3 * kk) + 2) hx hb hK hP 4 0 rfl rfl (by omega) (by decide) dM_matches_77 ?_
                refine zz_top (y := fo kk) ((hAk kk hkk).2.2) ?_
                refine lv_aload_n hx hb dM_matches_78 rfl (lv_at hl 0 rfl) ?_
                refine va_get (D := D) (ci := 5) (v := .ref m3) (C := "StatRowsModel") (T := TM) (N := 10) hx hb ht inM hown hK hP 0 rfl rfl 3 (by decide) (ht _ wd392) (fun _ h9 => h9) rfl dM_matches_79 ?_
                refine lv_iload_n hx hb dM_matches_82 rfl (lv_at hl 3 rfl) ?_
                refine zz_iald (k := i) hx hb hK hP 3 0 rfl rfl (by omega) (by decide) dM_matches_83 ?_
                refine zz_top (y := nI (T.getD i 0 % 256)) ((hM.1 i (by omega)).2.2) ?_
                refine zz_ci (v := nI ((mfit (fo kk) (nI (T.getD i 0 % 256))).toNat)) (W.runS (As := [.int (fo kk), .int (nI (T.getD i 0 % 256))]) (rest := []) ⟨hx, hb, hml, hown, ht⟩ (c_M_fits l _ _) (va_cwS 2 ht (gd_S wd530 wd531 wd6 wd532) rfl rfl rfl (by decide +kernel) ⟨Nat.le_of_ble_eq_true rfl, Nat.le_of_ble_eq_true rfl⟩) zz_N_S rfl rfl hl.1 rfl (lv_room (Nat.le_of_ble_eq_true rfl)) dM_matches_84 ⟨Nat.le_of_ble_eq_true rfl, Nat.le_of_ble_eq_true rfl⟩) ?_
                refine lv_if_eq (tgt := 96) hx hb dM_matches_87 (by decide) (fun c87 => ?_) (fun c87 => ?_)
                · -- taken
                  have c87 : (mfit (fo kk) (nI (T.getD i 0 % 256))).toNat = 0 := (nI_eq (a := (mfit (fo kk) (nI (T.getD i 0 % 256))).toNat) (b := 0) (by omega) (by omega)).mp c87
                  have hg : (mgo (fs kk) (fp kk) (fo kk)) (T.getD i 0) = false := by unfold mgo; rw [e1, e2, bt0 c87]; rfl
                  refine lv_iload_n hx hb dM_matches_96 rfl (lv_at hl 2 rfl) ?_
                  refine zz_top (y := nI ((T.take (i + 1)).countP (mgo (fs kk) (fp kk) (fo kk)))) (congrArg nI (by rw [tk1 _ i 0 (by omega), cp1, hg]; rfl)) ?_
                  refine lv_istore_n (lv' := [(2, .int (nI ((T.take (i + 1)).countP (mgo (fs kk) (fp kk) (fo kk))))), (0, .ref m0), (1, .int (nI kk)), (3, .int (nI i))]) hx hb dM_matches_97 rfl hl (by decide) rfl (fun ls hl => ?_)
                  refine lv_iinc (v := nI (i + 1)) (lv' := [(3, .int (nI (i + 1))), (2, .int (nI ((T.take (i + 1)).countP (mgo (fs kk) (fp kk) (fo kk))))), (0, .ref m0), (1, .int (nI kk))]) hx hb dM_matches_98 hl (k := 3) rfl (nI_1 i) (by decide) rfl (fun ls hl => ?_)
                  refine lv_goto (tgt := 18) hx hb dM_matches_101 (by decide) ?_
                  exact ih18 (i + 1) (by omega) (by omega) ls (lv_sub hl [2, 3, 1, 0] rfl)
                · -- not taken
                  have c87 : ¬ ((mfit (fo kk) (nI (T.getD i 0 % 256))).toNat = 0) := fun h => c87 ((nI_eq (a := (mfit (fo kk) (nI (T.getD i 0 % 256))).toNat) (b := 0) (by omega) (by omega)).mpr h)
                  have hg : (mgo (fs kk) (fp kk) (fo kk)) (T.getD i 0) = true := by unfold mgo; rw [e1, e2, bt1 c87]; rfl
                  refine lv_iload_n hx hb dM_matches_90 rfl (lv_at hl 2 rfl) ?_
                  refine lv_iconst (v := nI 1) hx hb dM_matches_91 (by decide) ?_
                  refine lv_iadd hx hb dM_matches_92 ?_
                  refine zz_top (y := nI (((T.take i).countP (mgo (fs kk) (fp kk) (fo kk))) + 1)) (nI_add ((T.take i).countP (mgo (fs kk) (fp kk) (fo kk))) 1) ?_
                  refine zz_top (y := nI ((T.take (i + 1)).countP (mgo (fs kk) (fp kk) (fo kk)))) (congrArg nI (by rw [tk1 _ i 0 (by omega), cp1, hg]; rfl)) ?_
                  refine lv_goto (tgt := 97) hx hb dM_matches_93 (by decide) ?_
                  refine lv_istore_n (lv' := [(2, .int (nI ((T.take (i + 1)).countP (mgo (fs kk) (fp kk) (fo kk))))), (0, .ref m0), (1, .int (nI kk)), (3, .int (nI i))]) hx hb dM_matches_97 rfl hl (by decide) rfl (fun ls hl => ?_)
                  refine lv_iinc (v := nI (i + 1)) (lv' := [(3, .int (nI (i + 1))), (2, .int (nI ((T.take (i + 1)).countP (mgo (fs kk) (fp kk) (fo kk))))), (0, .ref m0), (1, .int (nI kk))]) hx hb dM_matches_98 hl (k := 3) rfl (nI_1 i) (by decide) rfl (fun ls hl => ?_)
                  refine lv_goto (tgt := 18) hx hb dM_matches_101 (by decide) ?_
                  exact ih18 (i + 1) (by omega) (by omega) ls (lv_sub hl [2, 3, 1, 0] rfl)
      exact lp18 ((T.length - 0) + 1) 0 (Nat.zero_le _) (Nat.lt_succ_self _) ls (lv_sub hl [2, 3, 1, 0] rfl)
    · -- not taken
      have hbad : ¬ (¬ row < 0 ∧ ¬ nI n ≤ row) := fun q => q.2 (i_le.mpr c9)
      refine lv_iconst (v := (-1)) hx hb dM_matches_12 (by decide) ?_
      exact zz_iretR (v := (-1)) hx hb hr hlocks (Or.inl ⟨hbad, rfl⟩) dM_matches_13

abbrev rm_M_version : Room := { frames := 1, cells := 0, slots := 0, locals := 23 }
set_option maxHeartbeats 4000000 in
set_option maxRecDepth 100000 in
theorem c_M_version (l : Launch) (D : va_G) (cI cB : ClassId) (sz : Nat) (m0 m1 m2 m3 m4 m5 m6 n k e : Nat) (su pd ob : Nat → Int32) (T : List Nat) (hM : RM T su pd ob) (z : Nat → Int32) (hke : k ≤ e) (he : e < 1000) (h40 : e ≤ k + 40) : Met l yM_version wM_version rm_M_version (zz_P D vwCl [(cI, .int), (cB, .boolean)] [.ref m0] [(m0, .inr (5, [.int (nI T.length), .ref m1, .ref m2, .ref m3, .int (nI n), .ref m4, .int (nI e), .int (nI k), .ref m5, .ref m6])), (m1, .inl (cI, 400, .inl su)), (m2, .inl (cI, 400, .inl pd)), (m3, .inl (cI, 400, .inl ob)), (m5, .inl (cI, 320, .inl z))] sz) (va_Qi (fun (r : Int32) (u : ((Nat → Int32) × Nat)) => (40 ≤ e - k ∧ r = -3 ∧ u = (z, e)) ∨ (e - k < 40 ∧ r = nI e ∧ u.2 = e + 1 ∧ ∀ j, j < 320 → u.1 j = if e % 40 * 8 ≤ j ∧ j < e % 40 * 8 + 8 then nI (T.countP (isp (j - e % 40 * 8))) else z j)) (fun u : ((Nat → Int32) × Nat) => zz_B D vwCl [(cI, .int), (cB, .boolean)] (va_A [(m0, .inr (5, [.int (nI T.length), .ref m1, .ref m2, .ref m3, .int (nI n), .ref m4, .int (nI e), .int (nI k), .ref m5, .ref m6])), (m1, .inl (cI, 400, .inl su)), (m2, .inl (cI, 400, .inl pd)), (m3, .inl (cI, 400, .inl ob)), (m5, .inl (cI, 320, .inl z))] sz) [(m0, .inr (5, [.int (nI T.length), .ref m1, .ref m2, .ref m3, .int (nI n), .ref m4, .int (nI u.2), .int (nI k), .ref m5, .ref m6])), (m1, .inl (cI, 400, .inl su)), (m2, .inl (cI, 400, .inl pd)), (m3, .inl (cI, 400, .inl ob)), (m5, .inl (cI, 320, .inl u.1))]) (va_A [(m0, .inr (5, [.int (nI T.length), .ref m1, .ref m2, .ref m3, .int (nI n), .ref m4, .int (nI e), .int (nI k), .ref m5, .ref m6])), (m1, .inl (cI, 400, .inl su)), (m2, .inl (cI, 400, .inl pd)), (m3, .inl (cI, 400, .inl ob)), (m5, .inl (cI, 320, .inl z))] sz)) 0 0 (va_A [(m0, .inr (5, [.int (nI T.length), .ref m1, .ref m2, .ref m3, .int (nI n), .ref m4, .int (nI e), .int (nI k), .ref m5, .ref m6])), (m1, .inl (cI, 400, .inl su)), (m2, .inl (cI, 400, .inl pd)), (m3, .inl (cI, 400, .inl ob)), (m5, .inl (cI, 320, .inl z))] sz) := by
  refine Met.ofW (cc := cM_version) (maxL := 2) (ret := (some .int)) (by decide) rfl ?_
  intro pg ev s mt args below meth kd s₁ B hml hv
  obtain ⟨rfl, hsz, hP, hK, hD0, hN⟩ := hv
  have hx := B.exec
  have hb := B.bytes
  have hr := B.returns
  have ht : ∀ w ∈ W0, w.before _ s = true := fun w h => atoms_spec (ws := wM_version) B.pre w (List.mem_cons_of_mem _ h)
  have hown : s.vm.findClass "StatRowsModel" = some mt.cls := findClass_of_methodNamed B.named
  have hlocks := B.notSynchronized
  subst hsz
  have hD := hD0.self (sz := s.heap.size)
  generalize hAe : va_A [(m0, .inr (5, [.int (nI T.length), .ref m1, .ref m2, .ref m3, .int (nI n), .ref m4, .int (nI e), .int (nI k), .ref m5, .ref m6])), (m1, .inl (cI, 400, .inl su)), (m2, .inl (cI, 400, .inl pd)), (m3, .inl (cI, 400, .inl ob)), (m5, .inl (cI, 320, .inl z))] s.heap.size = A at hD ⊢
  have hA : ∀ q : Nat, s.heap.size ≤ q → A q := fun q h => by rw [← hAe]; exact Or.inr h
  have hS : va_S A s.heap s.heap [] := va_S.rf
  have hP : va_P D vwCl [(m0, .inr (5, [.int (nI T.length), .ref m1, .ref m2, .ref m3, .int (nI n), .ref m4, .int (nI e), .int (nI k), .ref m5, .ref m6])), (m1, .inl (cI, 400, .inl su)), (m2, .inl (cI, 400, .inl pd)), (m3, .inl (cI, 400, .inl ob)), (m5, .inl (cI, 320, .inl z))] s.heap := hP
  have hl := lv_entry ([.ref m0]) (n := 2) (Nat.le_of_ble_eq_true rfl)
  rw [lg_entry_eq]
  generalize (lg_sl ([.ref m0]) ++ List.replicate (2 - (lg_sl ([.ref m0])).length) Slot.unset).toArray = ls at hl ⊢
  have hl : lv_has ls 2 [(0, .ref m0)] := hl
  have hM4 := hM.2.1
  refine lv_aload_n hx hb dM_version_0 rfl (lv_at hl 0 rfl) ?_
  refine va_get (D := D) (ci := 5) (v := .int (nI e)) (C := "StatRowsModel") (T := TM) (N := 10) hx hb ht inM hown hK hP 0 rfl rfl 6 (by decide) (ht _ wd395) (fun _ h9 => h9) rfl dM_version_1 ?_
  refine lv_aload_n hx hb dM_version_4 rfl (lv_at hl 0 rfl) ?_
  refine va_get (D := D) (ci := 5) (v := .int (nI k)) (C := "StatRowsModel") (T := TM) (N := 10) hx hb ht inM hown hK hP 0 rfl rfl 7 (by decide) (ht _ wd396) (fun _ h9 => h9) rfl dM_version_5 ?_
  refine lv_isub hx hb dM_version_8 ?_
  refine zz_top (y := nI (e - k)) (pk_sub (a := e) (b := k) (by omega)) ?_
  refine lv_bipush (v := nI 40) hx hb dM_version_9 (by decide) ?_
  refine lv_icmp_ne (tgt := 17) hx hb dM_version_11 (by decide) (fun c11 => ?_) (fun c11 => ?_)
  · -- taken
    have c11 : ¬ (e - k = 40) := fun h => c11 ((nI_eq (a := e - k) (b := 40) (by omega) (by omega)).mpr h)
    refine lv_iconst (v := nI 0) hx hb dM_version_17 (by decide) ?_
    refine lv_istore_n (lv' := [(1, .int (nI 0)), (0, .ref m0)]) hx hb dM_version_18 rfl hl (by decide) rfl (fun ls hl => ?_)
    have lp19 : ∀ (fu : Nat) (i : Nat) (zz : Nat → Int32) (hi : i ≤ 8) (hz : ∀ j, j < 320 → zz j = if e % 40 * 8 ≤ j ∧ j < e % 40 * 8 + i then nI (T.countP (isp (j - e % 40 * 8))) else z j) (hm : 8 - i < fu) (H : Heap) (locs : List Loc) (hP : va_P D vwCl [(m0, .inr (5, [.int (nI T.length), .ref m1, .ref m2, .ref m3, .int (nI n), .ref m4, .int (nI e), .int (nI k), .ref m5, .ref m6])), (m1, .inl (cI, 400, .inl su)), (m2, .inl (cI, 400, .inl pd)), (m3, .inl (cI, 400, .inl ob)), (m5, .inl (cI, 320, .inl zz))] H) (hD : va_D A [(m0, .inr (5, [.int (nI T.length), .ref m1, .ref m2, .ref m3, .int (nI n), .ref m4, .int (nI e), .int (nI k), .ref m5, .ref m6])), (m1, .inl (cI, 400, .inl su)), (m2, .inl (cI, 400, .inl pd)), (m3, .inl (cI, 400, .inl ob)), (m5, .inl (cI, 320, .inl zz))]) (hS : va_S A s.heap H locs) (ls : Array Slot) (hl : lv_has ls 2 [(0, .ref m0), (1, .int (nI i))]), W pg l ev (headSpec wM_version rm_M_version).room s mt (([.ref m0] : List Value).toArray) below meth kd H locs 0 0 (MQ below (va_Qi (fun (r : Int32) (u : ((Nat → Int32) × Nat)) => (40 ≤ e - k ∧ r = -3 ∧ u = (z, e)) ∨ (e - k < 40 ∧ r = nI e ∧ u.2 = e + 1 ∧ ∀ j, j < 320 → u.1 j = if e % 40 * 8 ≤ j ∧ j < e % 40 * 8 + 8 then nI (T.countP (isp (j - e % 40 * 8))) else z j)) (fun u : ((Nat → Int32) × Nat) => zz_B D vwCl [(cI, .int), (cB, .boolean)] A [(m0, .inr (5, [.int (nI T.length), .ref m1, .ref m2, .ref m3, .int (nI n), .ref m4, .int (nI u.2), .int (nI k), .ref m5, .ref m6])), (m1, .inl (cI, 400, .inl su)), (m2, .inl (cI, 400, .inl pd)), (m3, .inl (cI, 400, .inl ob)), (m5, .inl (cI, 320, .inl u.1))]) A) (([.ref m0] : List Value).toArray) s 0 0 A) (F0 mt 19 ls []) := by
      intro fu
      induction fu with
      | zero => intro i zz hi hz hm; exact absurd hm (Nat.not_lt_zero _)
      | succ fu ih19 =>
        intro i zz hi hz hm H locs hP hD hS ls hl
        refine lv_iload_n hx hb dM_version_19 rfl (lv_at hl 1 rfl) ?_
        refine lv_bipush (v := nI 8) hx hb dM_version_20 (by decide) ?_
        refine lv_icmp_ge (tgt := 53) hx hb dM_version_22 (by decide) (fun c22 => ?_) (fun c22 => ?_)
        · -- taken
          have c22 : 8 ≤ i := (nI_leI (a := 8) (b := i) (by omega) (by omega)).mp c22
          refine lv_aload_n hx hb dM_version_53 rfl (lv_at hl 0 rfl) ?_
          refine lv_dup hx hb dM_version_54 rfl ?_
          refine va_get (D := D) (ci := 5) (v := .int (nI e)) (C := "StatRowsModel") (T := TM) (N := 10) hx hb ht inM hown hK hP 0 rfl rfl 6 (by decide) (ht _ wd395) (fun _ h9 => h9) rfl dM_version_55 ?_
          refine lv_iconst (v := nI 1) hx hb dM_version_58 (by decide) ?_
          refine lv_iadd hx hb dM_version_59 ?_
          refine zz_top (y := nI (e + 1)) (nI_add e 1) ?_
          refine va_put (D := D) (ci := 5) (v := .int (nI (e + 1))) (ty := .int) (C := "StatRowsModel") (T := TM) (N := 10) hx hb ht inM tyM okM nmM hown hK hP hD hS 0 rfl rfl 6 (by decide) (ht _ wd395) (fun _ h9 => h9) rfl (by decide +kernel) rfl rfl (Nat.le_of_ble_eq_true rfl) dM_version_60 (fun H locs hP hD hS => ?_)
          have hP : va_P D vwCl [(m0, .inr (5, [.int (nI T.length), .ref m1, .ref m2, .ref m3, .int (nI n), .ref m4, .int (nI (e + 1)), .int (nI k), .ref m5, .ref m6])), (m1, .inl (cI, 400, .inl su)), (m2, .inl (cI, 400, .inl pd)), (m3, .inl (cI, 400, .inl ob)), (m5, .inl (cI, 320, .inl zz))] H := hP
          have hD : va_D A [(m0, .inr (5, [.int (nI T.length), .ref m1, .ref m2, .ref m3, .int (nI n), .ref m4, .int (nI (e + 1)), .int (nI k), .ref m5, .ref m6])), (m1, .inl (cI, 400, .inl su)), (m2, .inl (cI, 400, .inl pd)), (m3, .inl (cI, 400, .inl ob)), (m5, .inl (cI, 320, .inl zz))] := hD
          refine lv_aload_n hx hb dM_version_63 rfl (lv_at hl 0 rfl) ?_
          refine va_get (D := D) (ci := 5) (v := .int (nI (e + 1))) (C := "StatRowsModel") (T := TM) (N := 10) hx hb ht inM hown hK hP 0 rfl rfl 6 (by decide) (ht _ wd395) (fun _ h9 => h9) rfl dM_version_64 ?_
          refine lv_iconst (v := nI 1) hx hb dM_version_67 (by decide) ?_
          refine lv_isub hx hb dM_version_68 ?_
          refine zz_top (y := nI ((e + 1) - 1)) (pk_sub (a := e + 1) (b := 1) (by omega)) ?_
          exact zz_iretW (v := nI ((e + 1) - 1)) (w1 := fun u : ((Nat → Int32) × Nat) => [(m0, .inr (5, [.int (nI T.length), .ref m1, .ref m2, .ref m3, .int (nI n), .ref m4, .int (nI u.2), .int (nI k), .ref m5, .ref m6])), (m1, .inl (cI, 400, .inl su)), (m2, .inl (cI, 400, .inl pd)), (m3, .inl (cI, 400, .inl ob)), (m5, .inl (cI, 320, .inl u.1))]) (zz, e + 1) hx hb hr hlocks (Or.inr ⟨by omega, rfl, rfl, fun j hj => by
            have h := hz j hj
            rw [show i = 8 by omega] at h
            exact h⟩) hP hK hD hS dM_version_69
        · -- not taken
          have c22 : ¬ (8 ≤ i) := fun h => c22 ((nI_leI (a := 8) (b := i) (by omega) (by omega)).mpr h)
          refine lv_aload_n hx hb dM_version_25 rfl (lv_at hl 0 rfl) ?_
          refine va_get (D := D) (ci := 5) (v := .ref m5) (C := "StatRowsModel") (T := TM) (N := 10) hx hb ht inM hown hK hP 0 rfl rfl 8 (by decide) (ht _ wd397) (fun _ h9 => h9) rfl dM_version_26 ?_
          refine lv_bipush (v := nI 8) hx hb dM_version_29 (by decide) ?_
          refine lv_aload_n hx hb dM_version_31 rfl (lv_at hl 0 rfl) ?_
          refine va_get (D := D) (ci := 5) (v := .int (nI e)) (C := "StatRowsModel") (T := TM) (N := 10) hx hb ht inM hown hK hP 0 rfl rfl 6 (by decide) (ht _ wd395) (fun _ h9 => h9) rfl dM_version_32 ?_
          refine lv_bipush (v := nI 40) hx hb dM_version_35 (by decide) ?_
          refine lv_irem hx hb dM_version_37 (by decide) ?_
          refine zz_top (y := nI (e % 40)) (pk_rem (a := e) (d := 40) (by omega) (by omega) (by omega)) ?_
          refine lv_imul hx hb dM_version_38 ?_
          refine zz_top (y := nI (8 * (e % 40))) (pk_mul 8 (e % 40)) ?_
          refine lv_iload_n hx hb dM_version_39 rfl (lv_at hl 1 rfl) ?_
          refine lv_iadd hx hb dM_version_40 ?_
          refine zz_top (y := nI ((8 * (e % 40)) + i)) (nI_add (8 * (e % 40)) i) ?_
          refine lv_aload_n hx hb dM_version_41 rfl (lv_at hl 0 rfl) ?_
          refine lv_iload_n hx hb dM_version_42 rfl (lv_at hl 1 rfl) ?_
          refine zz_ci (v := nI (T.countP (isp i))) (W.runV (As := [.int (nI i)]) (rest := [.int (nI ((8 * (e % 40)) + i)), .ref m5]) ⟨hx, hb, hml, hown, ht⟩ (c_M_countOf l D cI cB m0 m1 m2 m3 m4 m5 m6 n k e su pd ob T hM i (by omega)) (cwV 1 ht (gd_V wd443 wd445 wp17 wd6 wd446) rfl rfl rfl (by decide +kernel) ⟨Nat.le_of_ble_eq_true rfl, Nat.le_of_ble_eq_true rfl⟩) (zz_R_V hN hK (hP.sub (ws' := [(m0, .inr (5, [.int (nI T.length), .ref m1, .ref m2, .ref m3, .int (nI n), .ref m4, .int (nI e), .int (nI k), .ref m5, .ref m6])), (m1, .inl (cI, 400, .inl su)), (m2, .inl (cI, 400, .inl pd)), (m3, .inl (cI, 400, .inl ob))]) [0, 1, 2, 3] rfl) 5 0 rfl rfl) rfl rfl hl.1 rfl (lv_room (Nat.le_of_ble_eq_true rfl)) dM_version_43 ⟨Nat.le_of_ble_eq_true rfl, Nat.le_of_ble_eq_true rfl⟩) ?_
          refine zz_iast (k := (8 * (e % 40)) + i) hx hb hK hP hD hS 4 0 rfl rfl (by omega) (by decide) dM_version_46 (fun H locs hP hD hS => ?_)
          have hP : va_P D vwCl [(m0, .inr (5, [.int (nI T.length), .ref m1, .ref m2, .ref m3, .int (nI n), .ref m4, .int (nI e), .int (nI k), .ref m5, .ref m6])), (m1, .inl (cI, 400, .inl su)), (m2, .inl (cI, 400, .inl pd)), (m3, .inl (cI, 400, .inl ob)), (m5, .inl (cI, 320, .inl (upd zz ((8 * (e % 40)) + i) (nI (T.countP (isp i))))))] H := hP
          have hD : va_D A [(m0, .inr (5, [.int (nI T.length), .ref m1, .ref m2, .ref m3, .int (nI n), .ref m4, .int (nI e), .int (nI k), .ref m5, .ref m6])), (m1, .inl (cI, 400, .inl su)), (m2, .inl (cI, 400, .inl pd)), (m3, .inl (cI, 400, .inl ob)), (m5, .inl (cI, 320, .inl (upd zz ((8 * (e % 40)) + i) (nI (T.countP (isp i))))))] := hD
          refine lv_iinc (v := nI (i + 1)) (lv' := [(1, .int (nI (i + 1))), (0, .ref m0)]) hx hb dM_version_47 hl (k := 1) rfl (nI_1 i) (by decide) rfl (fun ls hl => ?_)
          refine lv_goto (tgt := 19) hx hb dM_version_50 (by decide) ?_
          exact ih19 (i + 1) (upd zz ((8 * (e % 40)) + i) (nI (T.countP (isp i)))) (by omega) (fun j hj => by
            by_cases h : j = 8 * (e % 40) + i
            · rw [h, pk_us, if_pos (by omega), show 8 * (e % 40) + i - e % 40 * 8 = i by omega]
            · rw [pk_un h, hz j hj]
              by_cases h2 : e % 40 * 8 ≤ j ∧ j < e % 40 * 8 + i
              · rw [if_pos h2, if_pos (by omega)]
              · rw [if_neg h2, if_neg (by omega)]) (by omega) _ _ hP hD hS ls (lv_sub hl [1, 0] rfl)
    exact lp19 ((8 - 0) + 1) 0 z (Nat.zero_le _) (fun j hj => by rw [if_neg (by omega)]) (Nat.lt_succ_self _) s.heap _ hP hD hS ls (lv_sub hl [1, 0] rfl)
  · -- not taken
    have c11 : e - k = 40 := (nI_eq (a := e - k) (b := 40) (by omega) (by omega)).mp c11
    refine lv_bipush (v := (-3)) hx hb dM_version_14 (by decide) ?_
    exact zz_iretW (v := (-3)) (w1 := fun u : ((Nat → Int32) × Nat) => [(m0, .inr (5, [.int (nI T.length), .ref m1, .ref m2, .ref m3, .int (nI n), .ref m4, .int (nI u.2), .int (nI k), .ref m5, .ref m6])), (m1, .inl (cI, 400, .inl su)), (m2, .inl (cI, 400, .inl pd)), (m3, .inl (cI, 400, .inl ob)), (m5, .inl (cI, 320, .inl u.1))]) (z, e) hx hb hr hlocks (Or.inl ⟨by omega, rfl, rfl⟩) hP hK hD hS dM_version_16

abbrev rm_M_countAt : Room := { frames := 1, cells := 0, slots := 0, locals := 20 }
set_option maxHeartbeats 4000000 in
set_option maxRecDepth 100000 in
theorem c_M_countAt (l : Launch) (D : va_G) (cI cB : ClassId) (m0 m1 m2 m3 m4 m5 m6 n k e tn : Nat) (z : Nat → Int32) (hke : k ≤ e) (he : e < 1000) (p1 x : Int32) : Met l yM_countAt wM_countAt rm_M_countAt (zz_R D vwCl [(cI, .int), (cB, .boolean)] [.ref m0, .int p1, .int x] [(m0, .inr (5, [.int (nI tn), .ref m1, .ref m2, .ref m3, .int (nI n), .ref m4, .int (nI e), .int (nI k), .ref m5, .ref m6])), (m5, .inl (cI, 320, .inl z))]) (vp_Si (fun r : Int32 => (inr_ 8 p1 = false ∧ r = -1) ∨ ∃ pp, pp < 8 ∧ p1 = nI pp ∧ ((¬ (¬ x < 0 ∧ ¬ nI e ≤ x) ∧ r = -1) ∨ ∃ v, v < e ∧ x = nI v ∧ r = if v < k then -2 else z (v % 40 * 8 + pp)))) 0 0 (fun _ => False) := by
  refine Met.ofW (cc := cM_countAt) (maxL := 3) (ret := (some .int)) (by decide) rfl ?_
  intro pg ev s mt args below meth kd s₁ B hml hv
  obtain ⟨rfl, hP, hK, hN⟩ := hv
  have hx := B.exec
  have hb := B.bytes
  have hr := B.returns
  have ht : ∀ w ∈ W0, w.before _ s = true := fun w h => atoms_spec (ws := wM_countAt) B.pre w (List.mem_cons_of_mem _ h)
  have hown : s.vm.findClass "StatRowsModel" = some mt.cls := findClass_of_methodNamed B.named
  have hlocks := B.notSynchronized
  have hl := lv_entry ([.ref m0, .int p1, .int x]) (n := 3) (Nat.le_of_ble_eq_true rfl)
  rw [lg_entry_eq]
  generalize (lg_sl ([.ref m0, .int p1, .int x]) ++ List.replicate (3 - (lg_sl ([.ref m0, .int p1, .int x])).length) Slot.unset).toArray = ls at hl ⊢
  have hl : lv_has ls 3 [(0, .ref m0), (1, .int p1), (2, .int x)] := hl
  have bl0 := btl (inr_ 8 p1)
  refine lv_iload_n hx hb dM_countAt_0 rfl (lv_at hl 1 rfl) ?_
  refine zz_ci (v := nI ((inr_ 8 p1).toNat)) (W.runS (As := [.int p1]) (rest := []) ⟨hx, hb, hml, hown, ht⟩ (c_M_isPredicate l p1) (va_cwS 1 ht (gd_S wd428 wd429 wd6 wd430) rfl rfl rfl (by decide +kernel) ⟨Nat.le_of_ble_eq_true rfl, Nat.le_of_ble_eq_true rfl⟩) zz_N_S rfl rfl hl.1 rfl (lv_room (Nat.le_of_ble_eq_true rfl)) dM_countAt_1 ⟨Nat.le_of_ble_eq_true rfl, Nat.le_of_ble_eq_true rfl⟩) ?_
  refine lv_if_eq (tgt := 19) hx hb dM_countAt_4 (by decide) (fun c4 => ?_) (fun c4 => ?_)
  · -- taken
    have c4 : (inr_ 8 p1).toNat = 0 := (nI_eq (a := (inr_ 8 p1).toNat) (b := 0) (by omega) (by omega)).mp c4
    have hb1 : inr_ 8 p1 = false := bt0 c4
    have hwh : (inr_ 8 p1 = false ∧ (-1 : Int32) = -1) ∨ ∃ pp, pp < 8 ∧ p1 = nI pp ∧ ((¬ (¬ x < 0 ∧ ¬ nI e ≤ x) ∧ (-1 : Int32) = -1) ∨ ∃ v, v < e ∧ x = nI v ∧ (-1 : Int32) = if v < k then -2 else z (v % 40 * 8 + pp)) := Or.inl ⟨hb1, rfl⟩
    refine lv_iconst (v := (-1)) hx hb dM_countAt_19 (by decide) ?_
    exact zz_iretR (v := (-1)) hx hb hr hlocks (hwh) dM_countAt_20
  · -- not taken
    have c4 : ¬ ((inr_ 8 p1).toNat = 0) := fun h => c4 ((nI_eq (a := (inr_ 8 p1).toNat) (b := 0) (by omega) (by omega)).mpr h)
    have hb1 := bt1 c4
    obtain ⟨pp, hpp, epp⟩ := inr_t (by decide) hb1
    rw [epp] at hl
    refine lv_iload_n hx hb dM_countAt_7 rfl (lv_at hl 2 rfl) ?_
    refine lv_if_lt (tgt := 19) hx hb dM_countAt_8 (by decide) (fun c8 => ?_) (fun c8 => ?_)
    · -- taken
      have hwh : (inr_ 8 p1 = false ∧ (-1 : Int32) = -1) ∨ ∃ pp, pp < 8 ∧ p1 = nI pp ∧ ((¬ (¬ x < 0 ∧ ¬ nI e ≤ x) ∧ (-1 : Int32) = -1) ∨ ∃ v, v < e ∧ x = nI v ∧ (-1 : Int32) = if v < k then -2 else z (v % 40 * 8 + pp)) := Or.inr ⟨pp, hpp, epp, Or.inl ⟨fun q => q.1 c8, rfl⟩⟩
      refine lv_iconst (v := (-1)) hx hb dM_countAt_19 (by decide) ?_
      exact zz_iretR (v := (-1)) hx hb hr hlocks (hwh) dM_countAt_20
    · -- not taken
      refine lv_iload_n hx hb dM_countAt_11 rfl (lv_at hl 2 rfl) ?_
      refine lv_aload_n hx hb dM_countAt_12 rfl (lv_at hl 0 rfl) ?_
      refine va_get (D := D) (ci := 5) (v := .int (nI e)) (C := "StatRowsModel") (T := TM) (N := 10) hx hb ht inM hown hK hP 0 rfl rfl 6 (by decide) (ht _ wd395) (fun _ h9 => h9) rfl dM_countAt_13 ?_
      refine lv_icmp_lt (tgt := 21) hx hb dM_countAt_16 (by decide) (fun c16 => ?_) (fun c16 => ?_)
      · -- taken
        obtain ⟨v, hv, ev⟩ := zz_in (n := e) (by omega) c8 (fun q => (i_le.mp q) c16)
        rw [ev] at hl
        refine lv_iload_n hx hb dM_countAt_21 rfl (lv_at hl 2 rfl) ?_
        refine lv_aload_n hx hb dM_countAt_22 rfl (lv_at hl 0 rfl) ?_
        refine va_get (D := D) (ci := 5) (v := .int (nI k)) (C := "StatRowsModel") (T := TM) (N := 10) hx hb ht inM hown hK hP 0 rfl rfl 7 (by decide) (ht _ wd396) (fun _ h9 => h9) rfl dM_countAt_23 ?_
        refine lv_icmp_ge (tgt := 34) hx hb dM_countAt_26 (by decide) (fun c26 => ?_) (fun c26 => ?_)
        · -- taken
          have c26 : k ≤ v := (nI_leI (a := k) (b := v) (by omega) (by omega)).mp c26
          refine lv_aload_n hx hb dM_countAt_34 rfl (lv_at hl 0 rfl) ?_
          refine va_get (D := D) (ci := 5) (v := .ref m5) (C := "StatRowsModel") (T := TM) (N := 10) hx hb ht inM hown hK hP 0 rfl rfl 8 (by decide) (ht _ wd397) (fun _ h9 => h9) rfl dM_countAt_35 ?_
          refine lv_bipush (v := nI 8) hx hb dM_countAt_38 (by decide) ?_
          refine lv_iload_n hx hb dM_countAt_40 rfl (lv_at hl 2 rfl) ?_
          refine lv_bipush (v := nI 40) hx hb dM_countAt_41 (by decide) ?_
          refine lv_irem hx hb dM_countAt_43 (by decide) ?_
          refine zz_top (y := nI (v % 40)) (pk_rem (a := v) (d := 40) (by omega) (by omega) (by omega)) ?_
          refine lv_imul hx hb dM_countAt_44 ?_
          refine zz_top (y := nI (8 * (v % 40))) (pk_mul 8 (v % 40)) ?_
          refine lv_iload_n hx hb dM_countAt_45 rfl (lv_at hl 1 rfl) ?_
          refine lv_iadd hx hb dM_countAt_46 ?_
          refine zz_top (y := nI ((8 * (v % 40)) + pp)) (nI_add (8 * (v % 40)) pp) ?_
          refine zz_iald (k := (8 * (v % 40)) + pp) hx hb hK hP 1 0 rfl rfl (by omega) (by decide) dM_countAt_47 ?_
          exact zz_iretR (v := z ((8 * (v % 40)) + pp)) hx hb hr hlocks (Or.inr ⟨pp, hpp, epp, Or.inr ⟨v, hv, ev, by rw [if_neg (by omega)]; congr 1; omega⟩⟩) dM_countAt_48
        · -- not taken
          have c26 : ¬ (k ≤ v) := fun h => c26 ((nI_leI (a := k) (b := v) (by omega) (by omega)).mpr h)
          refine lv_bipush (v := (-2)) hx hb dM_countAt_29 (by decide) ?_
          refine lv_goto (tgt := 48) hx hb dM_countAt_31 (by decide) ?_
          exact zz_iretR (v := (-2)) hx hb hr hlocks (Or.inr ⟨pp, hpp, epp, Or.inr ⟨v, hv, ev, by rw [if_pos (by omega)]⟩⟩) dM_countAt_48
      · -- not taken
        have hwh : (inr_ 8 p1 = false ∧ (-1 : Int32) = -1) ∨ ∃ pp, pp < 8 ∧ p1 = nI pp ∧ ((¬ (¬ x < 0 ∧ ¬ nI e ≤ x) ∧ (-1 : Int32) = -1) ∨ ∃ v, v < e ∧ x = nI v ∧ (-1 : Int32) = if v < k then -2 else z (v % 40 * 8 + pp)) := Or.inr ⟨pp, hpp, epp, Or.inl ⟨fun q => q.2 (i_le.mpr c16), rfl⟩⟩
        refine lv_iconst (v := (-1)) hx hb dM_countAt_19 (by decide) ?_
        exact zz_iretR (v := (-1)) hx hb hr hlocks (hwh) dM_countAt_20

abbrev rm_M_forget : Room := { frames := 0, cells := 0, slots := 0, locals := 0 }
set_option maxHeartbeats 4000000 in
set_option maxRecDepth 100000 in
theorem c_M_forget (l : Launch) (D : va_G) (cI cB : ClassId) (sz : Nat) (m0 m1 m2 m3 m4 m5 m6 n k e tn : Nat) (hke : k ≤ e) (he : e < 1000) (x : Int32) : Met l yM_forget wM_forget rm_M_forget (zz_P D vwCl [(cI, .int), (cB, .boolean)] [.ref m0, .int x] [(m0, .inr (5, [.int (nI tn), .ref m1, .ref m2, .ref m3, .int (nI n), .ref m4, .int (nI e), .int (nI k), .ref m5, .ref m6]))] sz) (va_Qi (fun (r : Int32) (u : Nat) => (¬ (¬ x < 0 ∧ ¬ nI e ≤ x) ∧ r = -1 ∧ u = k) ∨ ∃ v, v < e ∧ x = nI v ∧ r = nI (v - k) ∧ u = k + (v - k)) (fun u : Nat => zz_B D vwCl [(cI, .int), (cB, .boolean)] (va_A [(m0, .inr (5, [.int (nI tn), .ref m1, .ref m2, .ref m3, .int (nI n), .ref m4, .int (nI e), .int (nI k), .ref m5, .ref m6]))] sz) [(m0, .inr (5, [.int (nI tn), .ref m1, .ref m2, .ref m3, .int (nI n), .ref m4, .int (nI e), .int (nI u), .ref m5, .ref m6]))]) (va_A [(m0, .inr (5, [.int (nI tn), .ref m1, .ref m2, .ref m3, .int (nI n), .ref m4, .int (nI e), .int (nI k), .ref m5, .ref m6]))] sz)) 0 0 (va_A [(m0, .inr (5, [.int (nI tn), .ref m1, .ref m2, .ref m3, .int (nI n), .ref m4, .int (nI e), .int (nI k), .ref m5, .ref m6]))] sz) := by
  refine Met.ofW (cc := cM_forget) (maxL := 3) (ret := (some .int)) (by decide) rfl ?_
  intro pg ev s mt args below meth kd s₁ B hml hv
  obtain ⟨rfl, hsz, hP, hK, hD0, hN⟩ := hv
  have hx := B.exec
  have hb := B.bytes
  have hr := B.returns
  have ht : ∀ w ∈ W0, w.before _ s = true := fun w h => atoms_spec (ws := wM_forget) B.pre w (List.mem_cons_of_mem _ h)
  have hown : s.vm.findClass "StatRowsModel" = some mt.cls := findClass_of_methodNamed B.named
  have hlocks := B.notSynchronized
  subst hsz
  have hD := hD0.self (sz := s.heap.size)
  generalize hAe : va_A [(m0, .inr (5, [.int (nI tn), .ref m1, .ref m2, .ref m3, .int (nI n), .ref m4, .int (nI e), .int (nI k), .ref m5, .ref m6]))] s.heap.size = A at hD ⊢
  have hA : ∀ q : Nat, s.heap.size ≤ q → A q := fun q h => by rw [← hAe]; exact Or.inr h
  have hS : va_S A s.heap s.heap [] := va_S.rf
  have hP : va_P D vwCl [(m0, .inr (5, [.int (nI tn), .ref m1, .ref m2, .ref m3, .int (nI n), .ref m4, .int (nI e), .int (nI k), .ref m5, .ref m6]))] s.heap := hP
  have hl := lv_entry ([.ref m0, .int x]) (n := 3) (Nat.le_of_ble_eq_true rfl)
  rw [lg_entry_eq]
  generalize (lg_sl ([.ref m0, .int x]) ++ List.replicate (3 - (lg_sl ([.ref m0, .int x])).length) Slot.unset).toArray = ls at hl ⊢
  have hl : lv_has ls 3 [(0, .ref m0), (1, .int x)] := hl
  refine lv_iload_n hx hb dM_forget_0 rfl (lv_at hl 1 rfl) ?_
  refine lv_if_lt (tgt := 12) hx hb dM_forget_1 (by decide) (fun c1 => ?_) (fun c1 => ?_)
  · -- taken
    have hbad : ¬ (¬ x < 0 ∧ ¬ nI e ≤ x) := fun q => q.1 c1
    refine lv_iconst (v := (-1)) hx hb dM_forget_12 (by decide) ?_
    exact zz_iretW (v := (-1)) (w1 := fun u : Nat => [(m0, .inr (5, [.int (nI tn), .ref m1, .ref m2, .ref m3, .int (nI n), .ref m4, .int (nI e), .int (nI u), .ref m5, .ref m6]))]) k hx hb hr hlocks (Or.inl ⟨hbad, rfl, rfl⟩) hP hK hD hS dM_forget_13
  · -- not taken
    refine lv_iload_n hx hb dM_forget_4 rfl (lv_at hl 1 rfl) ?_
    refine lv_aload_n hx hb dM_forget_5 rfl (lv_at hl 0 rfl) ?_
    refine va_get (D := D) (ci := 5) (v := .int (nI e)) (C := "StatRowsModel") (T := TM) (N := 10) hx hb ht inM hown hK hP 0 rfl rfl 6 (by decide) (ht _ wd395) (fun _ h9 => h9) rfl dM_forget_6 ?_
    refine lv_icmp_lt (tgt := 14) hx hb dM_forget_9 (by decide) (fun c9 => ?_) (fun c9 => ?_)
    · -- taken
      obtain ⟨v, hv, ev⟩ := zz_in (n := e) (by omega) c1 (fun q => (i_le.mp q) c9)
      rw [ev] at hl
      refine lv_iload_n hx hb dM_forget_14 rfl (lv_at hl 1 rfl) ?_
      refine lv_aload_n hx hb dM_forget_15 rfl (lv_at hl 0 rfl) ?_
      refine va_get (D := D) (ci := 5) (v := .int (nI k)) (C := "StatRowsModel") (T := TM) (N := 10) hx hb ht inM hown hK hP 0 rfl rfl 7 (by decide) (ht _ wd396) (fun _ h9 => h9) rfl dM_forget_16 ?_
      refine lv_icmp_le (tgt := 31) hx hb dM_forget_19 (by decide) (fun c19 => ?_) (fun c19 => ?_)
      · -- taken
        have c19 : v ≤ k := (nI_leI (a := v) (b := k) (by omega) (by omega)).mp c19
        refine lv_iconst (v := nI 0) hx hb dM_forget_31 (by decide) ?_
        refine zz_top (y := nI (v - k)) (congrArg nI (by omega)) ?_
        refine lv_istore_n (lv' := [(2, .int (nI (v - k))), (0, .ref m0), (1, .int (nI v))]) hx hb dM_forget_32 rfl hl (by decide) rfl (fun ls hl => ?_)
        refine lv_aload_n hx hb dM_forget_33 rfl (lv_at hl 1 rfl) ?_
        refine lv_aload_n hx hb dM_forget_34 rfl (lv_at hl 1 rfl) ?_
        refine va_get (D := D) (ci := 5) (v := .int (nI k)) (C := "StatRowsModel") (T := TM) (N := 10) hx hb ht inM hown hK hP 0 rfl rfl 7 (by decide) (ht _ wd396) (fun _ h9 => h9) rfl dM_forget_35 ?_
        refine lv_iload_n hx hb dM_forget_38 rfl (lv_at hl 0 rfl) ?_
        refine lv_iadd hx hb dM_forget_39 ?_
        refine zz_top (y := nI (k + (v - k))) (nI_add k (v - k)) ?_
        refine va_put (D := D) (ci := 5) (v := .int (nI (k + (v - k)))) (ty := .int) (C := "StatRowsModel") (T := TM) (N := 10) hx hb ht inM tyM okM nmM hown hK hP hD hS 0 rfl rfl 7 (by decide) (ht _ wd396) (fun _ h9 => h9) rfl (by decide +kernel) rfl rfl (Nat.le_of_ble_eq_true rfl) dM_forget_40 (fun H locs hP hD hS => ?_)
        have hP : va_P D vwCl [(m0, .inr (5, [.int (nI tn), .ref m1, .ref m2, .ref m3, .int (nI n), .ref m4, .int (nI e), .int (nI (k + (v - k))), .ref m5, .ref m6]))] H := hP
        have hD : va_D A [(m0, .inr (5, [.int (nI tn), .ref m1, .ref m2, .ref m3, .int (nI n), .ref m4, .int (nI e), .int (nI (k + (v - k))), .ref m5, .ref m6]))] := hD
        refine lv_iload_n hx hb dM_forget_43 rfl (lv_at hl 0 rfl) ?_
        exact zz_iretW (v := nI (v - k)) (w1 := fun u : Nat => [(m0, .inr (5, [.int (nI tn), .ref m1, .ref m2, .ref m3, .int (nI n), .ref m4, .int (nI e), .int (nI u), .ref m5, .ref m6]))]) (k + (v - k)) hx hb hr hlocks (Or.inr ⟨v, hv, ev, rfl, rfl⟩) hP hK hD hS dM_forget_44
      · -- not taken
        have c19 : ¬ (v ≤ k) := fun h => c19 ((nI_leI (a := v) (b := k) (by omega) (by omega)).mpr h)
        refine lv_iload_n hx hb dM_forget_22 rfl (lv_at hl 1 rfl) ?_
        refine lv_aload_n hx hb dM_forget_23 rfl (lv_at hl 0 rfl) ?_
        refine va_get (D := D) (ci := 5) (v := .int (nI k)) (C := "StatRowsModel") (T := TM) (N := 10) hx hb ht inM hown hK hP 0 rfl rfl 7 (by decide) (ht _ wd396) (fun _ h9 => h9) rfl dM_forget_24 ?_
        refine lv_isub hx hb dM_forget_27 ?_
        refine zz_top (y := nI (v - k)) (pk_sub (a := v) (b := k) (by omega)) ?_
        refine lv_goto (tgt := 32) hx hb dM_forget_28 (by decide) ?_
        refine lv_istore_n (lv' := [(2, .int (nI (v - k))), (0, .ref m0), (1, .int (nI v))]) hx hb dM_forget_32 rfl hl (by decide) rfl (fun ls hl => ?_)
        refine lv_aload_n hx hb dM_forget_33 rfl (lv_at hl 1 rfl) ?_
        refine lv_aload_n hx hb dM_forget_34 rfl (lv_at hl 1 rfl) ?_
        refine va_get (D := D) (ci := 5) (v := .int (nI k)) (C := "StatRowsModel") (T := TM) (N := 10) hx hb ht inM hown hK hP 0 rfl rfl 7 (by decide) (ht _ wd396) (fun _ h9 => h9) rfl dM_forget_35 ?_
        refine lv_iload_n hx hb dM_forget_38 rfl (lv_at hl 0 rfl) ?_
        refine lv_iadd hx hb dM_forget_39 ?_
        refine zz_top (y := nI (k + (v - k))) (nI_add k (v - k)) ?_
        refine va_put (D := D) (ci := 5) (v := .int (nI (k + (v - k)))) (ty := .int) (C := "StatRowsModel") (T := TM) (N := 10) hx hb ht inM tyM okM nmM hown hK hP hD hS 0 rfl rfl 7 (by decide) (ht _ wd396) (fun _ h9 => h9) rfl (by decide +kernel) rfl rfl (Nat.le_of_ble_eq_true rfl) dM_forget_40 (fun H locs hP hD hS => ?_)
        have hP : va_P D vwCl [(m0, .inr (5, [.int (nI tn), .ref m1, .ref m2, .ref m3, .int (nI n), .ref m4, .int (nI e), .int (nI (k + (v - k))), .ref m5, .ref m6]))] H := hP
        have hD : va_D A [(m0, .inr (5, [.int (nI tn), .ref m1, .ref m2, .ref m3, .int (nI n), .ref m4, .int (nI e), .int (nI (k + (v - k))), .ref m5, .ref m6]))] := hD
        refine lv_iload_n hx hb dM_forget_43 rfl (lv_at hl 0 rfl) ?_
        exact zz_iretW (v := nI (v - k)) (w1 := fun u : Nat => [(m0, .inr (5, [.int (nI tn), .ref m1, .ref m2, .ref m3, .int (nI n), .ref m4, .int (nI e), .int (nI u), .ref m5, .ref m6]))]) (k + (v - k)) hx hb hr hlocks (Or.inr ⟨v, hv, ev, rfl, rfl⟩) hP hK hD hS dM_forget_44
    · -- not taken
      have hbad : ¬ (¬ x < 0 ∧ ¬ nI e ≤ x) := fun q => q.2 (i_le.mpr c9)
      refine lv_iconst (v := (-1)) hx hb dM_forget_12 (by decide) ?_
      exact zz_iretW (v := (-1)) (w1 := fun u : Nat => [(m0, .inr (5, [.int (nI tn), .ref m1, .ref m2, .ref m3, .int (nI n), .ref m4, .int (nI e), .int (nI u), .ref m5, .ref m6]))]) k hx hb hr hlocks (Or.inl ⟨hbad, rfl, rfl⟩) hP hK hD hS dM_forget_13

abbrev rm_M_told : Room := { frames := 0, cells := 0, slots := 0, locals := 0 }
set_option maxHeartbeats 4000000 in
set_option maxRecDepth 100000 in
theorem c_M_told (l : Launch) (D : va_G) (cI cB : ClassId) (m0 m1 m2 m3 m4 m5 m6 n k e tn : Nat) (hke : k ≤ e) (he : e < 1000) (wh : Int32) : Met l yM_told wM_told rm_M_told (zz_R D vwCl [(cI, .int), (cB, .boolean)] [.ref m0, .int wh] [(m0, .inr (5, [.int (nI tn), .ref m1, .ref m2, .ref m3, .int (nI n), .ref m4, .int (nI e), .int (nI k), .ref m5, .ref m6]))]) (vp_Si (fun r : Int32 => (wh = nI 0 ∧ r = nI tn) ∨ (wh = nI 1 ∧ r = nI n) ∨ (wh = nI 2 ∧ r = nI e) ∨ (wh = nI 3 ∧ r = nI (e - k)) ∨ (wh ≠ nI 0 ∧ wh ≠ nI 1 ∧ wh ≠ nI 2 ∧ wh ≠ nI 3 ∧ r = -1))) 0 0 (fun _ => False) := by
  refine Met.ofW (cc := cM_told) (maxL := 2) (ret := (some .int)) (by decide) rfl ?_
  intro pg ev s mt args below meth kd s₁ B hml hv
  obtain ⟨rfl, hP, hK, hN⟩ := hv
  have hx := B.exec
  have hb := B.bytes
  have hr := B.returns
  have ht : ∀ w ∈ W0, w.before _ s = true := fun w h => atoms_spec (ws := wM_told) B.pre w (List.mem_cons_of_mem _ h)
  have hown : s.vm.findClass "StatRowsModel" = some mt.cls := findClass_of_methodNamed B.named
  have hlocks := B.notSynchronized
  have hl := lv_entry ([.ref m0, .int wh]) (n := 2) (Nat.le_of_ble_eq_true rfl)
  rw [lg_entry_eq]
  generalize (lg_sl ([.ref m0, .int wh]) ++ List.replicate (2 - (lg_sl ([.ref m0, .int wh])).length) Slot.unset).toArray = ls at hl ⊢
  have hl : lv_has ls 2 [(0, .ref m0), (1, .int wh)] := hl
  refine lv_iload_n hx hb dM_told_0 rfl (lv_at hl 1 rfl) ?_
  refine lv_if_ne (tgt := 11) hx hb dM_told_1 (by decide) (fun c1 => ?_) (fun c1 => ?_)
  · -- taken
    refine lv_iload_n hx hb dM_told_11 rfl (lv_at hl 1 rfl) ?_
    refine lv_iconst (v := nI 1) hx hb dM_told_12 (by decide) ?_
    refine lv_icmp_ne (tgt := 23) hx hb dM_told_13 (by decide) (fun c13 => ?_) (fun c13 => ?_)
    · -- taken
      refine lv_iload_n hx hb dM_told_23 rfl (lv_at hl 1 rfl) ?_
      refine lv_iconst (v := nI 2) hx hb dM_told_24 (by decide) ?_
      refine lv_icmp_ne (tgt := 35) hx hb dM_told_25 (by decide) (fun c25 => ?_) (fun c25 => ?_)
      · -- taken
        refine lv_iload_n hx hb dM_told_35 rfl (lv_at hl 1 rfl) ?_
        refine lv_iconst (v := nI 3) hx hb dM_told_36 (by decide) ?_
        refine lv_icmp_ne (tgt := 52) hx hb dM_told_37 (by decide) (fun c37 => ?_) (fun c37 => ?_)
        · -- taken
          refine lv_iconst (v := (-1)) hx hb dM_told_52 (by decide) ?_
          exact zz_iretR (v := (-1)) hx hb hr hlocks (Or.inr (Or.inr (Or.inr (Or.inr ⟨c1, c13, c25, c37, rfl⟩)))) dM_told_53
        · -- not taken
          refine lv_aload_n hx hb dM_told_40 rfl (lv_at hl 0 rfl) ?_
          refine va_get (D := D) (ci := 5) (v := .int (nI e)) (C := "StatRowsModel") (T := TM) (N := 10) hx hb ht inM hown hK hP 0 rfl rfl 6 (by decide) (ht _ wd395) (fun _ h9 => h9) rfl dM_told_41 ?_
          refine lv_aload_n hx hb dM_told_44 rfl (lv_at hl 0 rfl) ?_
          refine va_get (D := D) (ci := 5) (v := .int (nI k)) (C := "StatRowsModel") (T := TM) (N := 10) hx hb ht inM hown hK hP 0 rfl rfl 7 (by decide) (ht _ wd396) (fun _ h9 => h9) rfl dM_told_45 ?_
          refine lv_isub hx hb dM_told_48 ?_
          refine zz_top (y := nI (e - k)) (pk_sub (a := e) (b := k) (by omega)) ?_
          refine lv_goto (tgt := 53) hx hb dM_told_49 (by decide) ?_
          exact zz_iretR (v := nI (e - k)) hx hb hr hlocks (Or.inr (Or.inr (Or.inr (Or.inl ⟨c37, rfl⟩)))) dM_told_53
      · -- not taken
        refine lv_aload_n hx hb dM_told_28 rfl (lv_at hl 0 rfl) ?_
        refine va_get (D := D) (ci := 5) (v := .int (nI e)) (C := "StatRowsModel") (T := TM) (N := 10) hx hb ht inM hown hK hP 0 rfl rfl 6 (by decide) (ht _ wd395) (fun _ h9 => h9) rfl dM_told_29 ?_
        refine lv_goto (tgt := 53) hx hb dM_told_32 (by decide) ?_
        exact zz_iretR (v := nI e) hx hb hr hlocks (Or.inr (Or.inr (Or.inl ⟨c25, rfl⟩))) dM_told_53
    · -- not taken
      refine lv_aload_n hx hb dM_told_16 rfl (lv_at hl 0 rfl) ?_
      refine va_get (D := D) (ci := 5) (v := .int (nI n)) (C := "StatRowsModel") (T := TM) (N := 10) hx hb ht inM hown hK hP 0 rfl rfl 4 (by decide) (ht _ wd393) (fun _ h9 => h9) rfl dM_told_17 ?_
      refine lv_goto (tgt := 53) hx hb dM_told_20 (by decide) ?_
      exact zz_iretR (v := nI n) hx hb hr hlocks (Or.inr (Or.inl ⟨c13, rfl⟩)) dM_told_53
  · -- not taken
    refine lv_aload_n hx hb dM_told_4 rfl (lv_at hl 0 rfl) ?_
    refine va_get (D := D) (ci := 5) (v := .int (nI tn)) (C := "StatRowsModel") (T := TM) (N := 10) hx hb ht inM hown hK hP 0 rfl rfl 0 (by decide) (ht _ wd389) (fun _ h9 => h9) rfl dM_told_5 ?_
    refine lv_goto (tgt := 53) hx hb dM_told_8 (by decide) ?_
    exact zz_iretR (v := nI tn) hx hb hr hlocks (Or.inl ⟨c1, rfl⟩) dM_told_53
