abbrev rm_X_quantile : Room := { frames := 3, cells := 0, slots := 0, locals := 67 }
set_option maxHeartbeats 4000000 in
set_option maxRecDepth 100000 in
theorem c_X_quantile (l : Launch) (D : va_G) (cI cB : ClassId) (sz : Nat) (x0 t0 t1 t2 p0 v0 g0 ta : Nat) (f g : Nat → Int32) (Ls : Nat → List Nat) (hT : RT Ls f g) (tl : Nat → Int32) (p1 k1 : Int32) : Met l yX_quantile wX_quantile rm_X_quantile (zz_P D vwCl [(cI, .int), (cB, .boolean)] [.ref x0, .int p1, .int k1] [(x0, .inr (4, [.ref t0, .ref p0, .ref v0, .ref g0, .ref ta])), (t0, .inr (0, [.ref t1, .ref t2])), (t1, .inl (cI, 400, .inl f)), (t2, .inl (cI, 9, .inl g)), (ta, .inl (cI, 256, .inl tl))] sz) (va_Qi (fun (r : Int32) (u : (Nat → Int32)) => (¬ (inr_ 8 p1 = true ∧ ¬ k1 < nI 1 ∧ ¬ nI 8 < k1) ∧ r = -1) ∨ ∃ pp kk, pp < 8 ∧ 1 ≤ kk ∧ kk ≤ 8 ∧ p1 = nI pp ∧ k1 = nI kk ∧ (((Ls pp).length = 0 ∧ r = -2) ∨ (0 < (Ls pp).length ∧ ∃ o, o < 256 ∧ r = nI o ∧ (∀ j, j < o → 8 * clt (Ls pp) (j + 1) < kk * (Ls pp).length) ∧ kk * (Ls pp).length ≤ 8 * clt (Ls pp) (o + 1)))) (fun u : (Nat → Int32) => zz_B D vwCl [(cI, .int), (cB, .boolean)] (va_A [(x0, .inr (4, [.ref t0, .ref p0, .ref v0, .ref g0, .ref ta])), (t0, .inr (0, [.ref t1, .ref t2])), (t1, .inl (cI, 400, .inl f)), (t2, .inl (cI, 9, .inl g)), (ta, .inl (cI, 256, .inl tl))] sz) [(x0, .inr (4, [.ref t0, .ref p0, .ref v0, .ref g0, .ref ta])), (t0, .inr (0, [.ref t1, .ref t2])), (t1, .inl (cI, 400, .inl f)), (t2, .inl (cI, 9, .inl g)), (ta, .inl (cI, 256, .inl u))]) (va_A [(x0, .inr (4, [.ref t0, .ref p0, .ref v0, .ref g0, .ref ta])), (t0, .inr (0, [.ref t1, .ref t2])), (t1, .inl (cI, 400, .inl f)), (t2, .inl (cI, 9, .inl g)), (ta, .inl (cI, 256, .inl tl))] sz)) 0 0 (va_A [(x0, .inr (4, [.ref t0, .ref p0, .ref v0, .ref g0, .ref ta])), (t0, .inr (0, [.ref t1, .ref t2])), (t1, .inl (cI, 400, .inl f)), (t2, .inl (cI, 9, .inl g)), (ta, .inl (cI, 256, .inl tl))] sz) := by
  refine Met.ofW (cc := cX_quantile) (maxL := 6) (ret := (some .int)) (by decide) rfl ?_
  intro pg ev s mt args below meth kd s₁ B hml hv
  obtain ⟨rfl, hsz, hP, hK, hD0, hN⟩ := hv
  have hx := B.exec
  have hb := B.bytes
  have hr := B.returns
  have ht : ∀ w ∈ W0, w.before _ s = true := fun w h => atoms_spec (ws := wX_quantile) B.pre w (List.mem_cons_of_mem _ h)
  have hown : s.vm.findClass "StatRows" = some mt.cls := findClass_of_methodNamed B.named
  have hlocks := B.notSynchronized
  subst hsz
  have hD := hD0.self (sz := s.heap.size)
  generalize hAe : va_A [(x0, .inr (4, [.ref t0, .ref p0, .ref v0, .ref g0, .ref ta])), (t0, .inr (0, [.ref t1, .ref t2])), (t1, .inl (cI, 400, .inl f)), (t2, .inl (cI, 9, .inl g)), (ta, .inl (cI, 256, .inl tl))] s.heap.size = A at hD ⊢
  have hA : ∀ q : Nat, s.heap.size ≤ q → A q := fun q h => by rw [← hAe]; exact Or.inr h
  have hS : va_S A s.heap s.heap [] := va_S.rf
  have hP : va_P D vwCl [(x0, .inr (4, [.ref t0, .ref p0, .ref v0, .ref g0, .ref ta])), (t0, .inr (0, [.ref t1, .ref t2])), (t1, .inl (cI, 400, .inl f)), (t2, .inl (cI, 9, .inl g)), (ta, .inl (cI, 256, .inl tl))] s.heap := hP
  have hl := lv_entry ([.ref x0, .int p1, .int k1]) (n := 6) (Nat.le_of_ble_eq_true rfl)
  rw [lg_entry_eq]
  generalize (lg_sl ([.ref x0, .int p1, .int k1]) ++ List.replicate (6 - (lg_sl ([.ref x0, .int p1, .int k1])).length) Slot.unset).toArray = ls at hl ⊢
  have hl : lv_has ls 6 [(0, .ref x0), (1, .int p1), (2, .int k1)] := hl
  have h400 := hT.2.2.1
  have bl0 := btl (inr_ 8 p1)
  refine lv_iload_n hx hb dX_quantile_0 rfl (lv_at hl 1 rfl) ?_
  refine zz_ci (v := nI ((inr_ 8 p1).toNat)) (W.runS (As := [.int p1]) (rest := []) ⟨hx, hb, hml, hown, ht⟩ (c_X_isPredicate l p1) (va_cwS 1 ht (gd_S wd103 wd104 wd1 wd105) rfl rfl rfl (by decide +kernel) ⟨Nat.le_of_ble_eq_true rfl, Nat.le_of_ble_eq_true rfl⟩) zz_N_S rfl rfl hl.1 rfl (lv_room (Nat.le_of_ble_eq_true rfl)) dX_quantile_1 ⟨Nat.le_of_ble_eq_true rfl, Nat.le_of_ble_eq_true rfl⟩) ?_
  refine lv_if_eq (tgt := 18) hx hb dX_quantile_4 (by decide) (fun c4 => ?_) (fun c4 => ?_)
  · -- taken
    have c4 : (inr_ 8 p1).toNat = 0 := (nI_eq (a := (inr_ 8 p1).toNat) (b := 0) (by omega) (by omega)).mp c4
    have hbb : ¬ (inr_ 8 p1 = true ∧ ¬ k1 < nI 1 ∧ ¬ nI 8 < k1) := fun q => by rw [bt0 c4] at q; cases q.1
    refine lv_iconst (v := (-1)) hx hb dX_quantile_18 (by decide) ?_
    exact zz_iretW (v := (-1)) (w1 := fun u : (Nat → Int32) => [(x0, .inr (4, [.ref t0, .ref p0, .ref v0, .ref g0, .ref ta])), (t0, .inr (0, [.ref t1, .ref t2])), (t1, .inl (cI, 400, .inl f)), (t2, .inl (cI, 9, .inl g)), (ta, .inl (cI, 256, .inl u))]) tl hx hb hr hlocks (Or.inl ⟨hbb, rfl⟩) hP hK hD hS dX_quantile_19
  · -- not taken
    have c4 : ¬ ((inr_ 8 p1).toNat = 0) := fun h => c4 ((nI_eq (a := (inr_ 8 p1).toNat) (b := 0) (by omega) (by omega)).mpr h)
    have hb1 := bt1 c4
    refine lv_iload_n hx hb dX_quantile_7 rfl (lv_at hl 2 rfl) ?_
    refine lv_iconst (v := nI 1) hx hb dX_quantile_8 (by decide) ?_
    refine lv_icmp_lt (tgt := 18) hx hb dX_quantile_9 (by decide) (fun c9 => ?_) (fun c9 => ?_)
    · -- taken
      have hbb : ¬ (inr_ 8 p1 = true ∧ ¬ k1 < nI 1 ∧ ¬ nI 8 < k1) := fun q => q.2.1 c9
      refine lv_iconst (v := (-1)) hx hb dX_quantile_18 (by decide) ?_
      exact zz_iretW (v := (-1)) (w1 := fun u : (Nat → Int32) => [(x0, .inr (4, [.ref t0, .ref p0, .ref v0, .ref g0, .ref ta])), (t0, .inr (0, [.ref t1, .ref t2])), (t1, .inl (cI, 400, .inl f)), (t2, .inl (cI, 9, .inl g)), (ta, .inl (cI, 256, .inl u))]) tl hx hb hr hlocks (Or.inl ⟨hbb, rfl⟩) hP hK hD hS dX_quantile_19
    · -- not taken
      refine lv_iload_n hx hb dX_quantile_12 rfl (lv_at hl 2 rfl) ?_
      refine lv_bipush (v := nI 8) hx hb dX_quantile_13 (by decide) ?_
      refine lv_icmp_le (tgt := 20) hx hb dX_quantile_15 (by decide) (fun c15 => ?_) (fun c15 => ?_)
      · -- taken
        obtain ⟨pp, hpp, epp⟩ := inr_t (by decide) hb1
        rw [epp] at hl
        obtain ⟨kk, hk1, hk8, ekk⟩ := kin c9 (i_le.mp c15)
        rw [ekk] at hl
        have htp := tr_top (Ls := Ls) hpp
        have hdue : kk * (Ls pp).length ≤ 8 * 400 := Nat.mul_le_mul (by omega) (by omega)
        refine lv_iload_n hx hb dX_quantile_20 rfl (lv_at hl 2 rfl) ?_
        refine lv_aload_n hx hb dX_quantile_21 rfl (lv_at hl 0 rfl) ?_
        refine va_get (D := D) (ci := 4) (v := .ref t0) (C := "StatRows") (T := TX) (N := 5) hx hb ht inX hown hK hP 0 rfl rfl 0 (by decide) (ht _ wd77) (fun _ h9 => h9) rfl dX_quantile_22 ?_
        refine lv_iload_n hx hb dX_quantile_25 rfl (lv_at hl 1 rfl) ?_
        refine zz_ci (v := nI (tr_off Ls pp + (Ls pp).length - tr_off Ls pp)) (W.runV (As := [.int (nI pp)]) (rest := [.int (nI kk)]) ⟨hx, hb, hml, hown, ht⟩ (c_T_sizeOf l D cI cB t0 t1 t2 f g pp (tr_off Ls pp) (tr_off Ls pp + (Ls pp).length) hpp (hT.1 pp (by omega)) (hT.1 (pp + 1) (by omega)) (by omega)) (cwV 1 ht (gd_V wd152 wd153 wd154 wd2 wd155) rfl rfl rfl (by decide +kernel) ⟨Nat.le_of_ble_eq_true rfl, Nat.le_of_ble_eq_true rfl⟩) (zz_R_V hN hK (hP.sub (ws' := [(t0, .inr (0, [.ref t1, .ref t2])), (t1, .inl (cI, 400, .inl f)), (t2, .inl (cI, 9, .inl g))]) [1, 2, 3] rfl) 0 0 rfl rfl) rfl rfl hl.1 rfl (lv_room (Nat.le_of_ble_eq_true rfl)) dX_quantile_26 ⟨Nat.le_of_ble_eq_true rfl, Nat.le_of_ble_eq_true rfl⟩) ?_
        refine zz_top (y := nI ((Ls pp).length)) (congrArg nI (by omega)) ?_
        refine lv_imul hx hb dX_quantile_29 ?_
        refine zz_top (y := nI (kk * ((Ls pp).length))) (pk_mul kk ((Ls pp).length)) ?_
        refine lv_istore_n (lv' := [(3, .int (nI (kk * ((Ls pp).length)))), (0, .ref x0), (1, .int (nI pp)), (2, .int (nI kk))]) hx hb dX_quantile_30 rfl hl (by decide) rfl (fun ls hl => ?_)
        refine lv_iload_n hx hb dX_quantile_31 rfl (lv_at hl 0 rfl) ?_
        refine lv_if_ne (tgt := 38) hx hb dX_quantile_32 (by decide) (fun c32 => ?_) (fun c32 => ?_)
        · -- taken
          have c32 : ¬ (kk * ((Ls pp).length) = 0) := fun h => c32 ((nI_eq (a := kk * ((Ls pp).length)) (b := 0) (by omega) (by omega)).mpr h)
          have hl0 : 0 < (Ls pp).length := len_pos c32
          refine lv_aload_n hx hb dX_quantile_38 rfl (lv_at hl 1 rfl) ?_
          refine lv_iload_n hx hb dX_quantile_39 rfl (lv_at hl 2 rfl) ?_
          refine lv_iconst (v := nI 0) hx hb dX_quantile_40 (by decide) ?_
          refine zz_wv (wc := [(x0, .inr (4, [.ref t0, .ref p0, .ref v0, .ref g0, .ref ta])), (t0, .inr (0, [.ref t1, .ref t2])), (t1, .inl (cI, 400, .inl f)), (t2, .inl (cI, 9, .inl g)), (ta, .inl (cI, 256, .inl tl))]) (wr := []) (va_runV (As := [.int (nI pp), .int (nI 0)]) (rest := []) ⟨hx, hb, hml, hown, ht⟩ (c_X_tallyObjects l D cI cB s.heap.size x0 t0 t1 t2 p0 v0 g0 ta f g Ls hT tl pp hpp false) (cwV 2 ht (gd_V wd185 wd187 wp8 wd1 wd188) rfl rfl rfl (by decide +kernel) ⟨Nat.le_of_ble_eq_true rfl, Nat.le_of_ble_eq_true rfl⟩) (zz_P_V hN hK (hP.sub (ws' := [(x0, .inr (4, [.ref t0, .ref p0, .ref v0, .ref g0, .ref ta])), (t0, .inr (0, [.ref t1, .ref t2])), (t1, .inl (cI, 400, .inl f)), (t2, .inl (cI, 9, .inl g)), (ta, .inl (cI, 256, .inl tl))]) [0, 1, 2, 3, 4] rfl) (hD.sub (ws' := [(x0, .inr (4, [.ref t0, .ref p0, .ref v0, .ref g0, .ref ta])), (t0, .inr (0, [.ref t1, .ref t2])), (t1, .inl (cI, 400, .inl f)), (t2, .inl (cI, 9, .inl g)), (ta, .inl (cI, 256, .inl tl))]) [0, 1, 2, 3, 4] (by decide) rfl) 4 0 rfl rfl) rfl rfl hl.1 rfl (lv_room (Nat.le_of_ble_eq_true rfl)) dX_quantile_41 ⟨Nat.le_of_ble_eq_true rfl, Nat.le_of_ble_eq_true rfl⟩) hP hD hS hA [0, 1, 2, 3, 4] [] rfl rfl (by decide) (by decide) (fun u41 H locs hq41 hP hD hS => ?_)
          have hP := hP.sub (ws' := [(x0, .inr (4, [.ref t0, .ref p0, .ref v0, .ref g0, .ref ta])), (t0, .inr (0, [.ref t1, .ref t2])), (t1, .inl (cI, 400, .inl f)), (t2, .inl (cI, 9, .inl g)), (ta, .inl (cI, 256, .inl u41))]) [0, 1, 2, 3, 4] rfl
          have hD := hD.sub (ws' := [(x0, .inr (4, [.ref t0, .ref p0, .ref v0, .ref g0, .ref ta])), (t0, .inr (0, [.ref t1, .ref t2])), (t1, .inl (cI, 400, .inl f)), (t2, .inl (cI, 9, .inl g)), (ta, .inl (cI, 256, .inl u41))]) [0, 1, 2, 3, 4] (by decide) rfl
          refine lv_iconst (v := nI 0) hx hb dX_quantile_44 (by decide) ?_
          refine lv_istore (lv' := [(4, .int (nI 0)), (3, .int (nI (kk * ((Ls pp).length)))), (0, .ref x0), (1, .int (nI pp)), (2, .int (nI kk))]) hx hb dX_quantile_45 hl (by decide) rfl (fun ls hl => ?_)
          have ez : (0 : Nat) = clt (Ls pp) 0 := (clt_0 _).symm
          rw [show nI 0 = nI (clt (Ls pp) 0) from congrArg nI ez] at hl
          refine lv_iconst (v := nI 0) hx hb dX_quantile_47 (by decide) ?_
          refine lv_istore (lv' := [(5, .int (nI 0)), (4, .int (nI (clt (Ls pp) 0))), (3, .int (nI (kk * ((Ls pp).length)))), (0, .ref x0), (1, .int (nI pp)), (2, .int (nI kk))]) hx hb dX_quantile_48 hl (by decide) rfl (fun ls hl => ?_)
          have lp50 : ∀ (fu : Nat) (o : Nat) (ho : o ≤ 256) (hlt : ∀ j, j < o → 8 * clt (Ls pp) (j + 1) < kk * (Ls pp).length) (hm : 256 - o < fu) (H : Heap) (locs : List Loc) (hP : va_P D vwCl [(x0, .inr (4, [.ref t0, .ref p0, .ref v0, .ref g0, .ref ta])), (t0, .inr (0, [.ref t1, .ref t2])), (t1, .inl (cI, 400, .inl f)), (t2, .inl (cI, 9, .inl g)), (ta, .inl (cI, 256, .inl u41))] H) (hD : va_D A [(x0, .inr (4, [.ref t0, .ref p0, .ref v0, .ref g0, .ref ta])), (t0, .inr (0, [.ref t1, .ref t2])), (t1, .inl (cI, 400, .inl f)), (t2, .inl (cI, 9, .inl g)), (ta, .inl (cI, 256, .inl u41))]) (hS : va_S A s.heap H locs) (ls : Array Slot) (hl : lv_has ls 6 [(0, .ref x0), (3, .int (nI (kk * (Ls pp).length))), (4, .int (nI (clt (Ls pp) o))), (5, .int (nI o))]), W pg l ev (headSpec wX_quantile rm_X_quantile).room s mt (([.ref x0, .int p1, .int k1] : List Value).toArray) below meth kd H locs 0 0 (MQ below (va_Qi (fun (r : Int32) (u : (Nat → Int32)) => (¬ (inr_ 8 p1 = true ∧ ¬ k1 < nI 1 ∧ ¬ nI 8 < k1) ∧ r = -1) ∨ ∃ pp kk, pp < 8 ∧ 1 ≤ kk ∧ kk ≤ 8 ∧ p1 = nI pp ∧ k1 = nI kk ∧ (((Ls pp).length = 0 ∧ r = -2) ∨ (0 < (Ls pp).length ∧ ∃ o, o < 256 ∧ r = nI o ∧ (∀ j, j < o → 8 * clt (Ls pp) (j + 1) < kk * (Ls pp).length) ∧ kk * (Ls pp).length ≤ 8 * clt (Ls pp) (o + 1)))) (fun u : (Nat → Int32) => zz_B D vwCl [(cI, .int), (cB, .boolean)] A [(x0, .inr (4, [.ref t0, .ref p0, .ref v0, .ref g0, .ref ta])), (t0, .inr (0, [.ref t1, .ref t2])), (t1, .inl (cI, 400, .inl f)), (t2, .inl (cI, 9, .inl g)), (ta, .inl (cI, 256, .inl u))]) A) (([.ref x0, .int p1, .int k1] : List Value).toArray) s 0 0 A) (F0 mt 50 ls []) := by
            intro fu
            induction fu with
            | zero => intro o ho hlt hm; exact absurd hm (Nat.not_lt_zero _)
            | succ fu ih50 =>
              intro o ho hlt hm H locs hP hD hS ls hl
              refine lv_iload hx hb dX_quantile_50 (lv_at hl 3 rfl) ?_
              refine lv_sipush (v := nI 256) hx hb dX_quantile_52 (by decide) ?_
              refine lv_icmp_ge (tgt := 88) hx hb dX_quantile_55 (by decide) (fun c55 => ?_) (fun c55 => ?_)
              · -- taken
                have c55 : 256 ≤ o := (nI_leI (a := 256) (b := o) (by omega) (by omega)).mp c55
                exfalso
                have h1 := hlt 255 (by omega)
                rw [show 255 + 1 = 256 from rfl, clt_top] at h1
                have h2 : kk * (Ls pp).length ≤ 8 * (Ls pp).length := Nat.mul_le_mul_right _ hk8
                omega
              · -- not taken
                have c55 : ¬ (256 ≤ o) := fun h => c55 ((nI_leI (a := 256) (b := o) (by omega) (by omega)).mpr h)
                refine lv_iload hx hb dX_quantile_58 (lv_at hl 2 rfl) ?_
                refine lv_aload_n hx hb dX_quantile_60 rfl (lv_at hl 0 rfl) ?_
                refine va_get (D := D) (ci := 4) (v := .ref ta) (C := "StatRows") (T := TX) (N := 5) hx hb ht inX hown hK hP 0 rfl rfl 4 (by decide) (ht _ wd81) (fun _ h9 => h9) rfl dX_quantile_61 ?_
                refine lv_iload hx hb dX_quantile_64 (lv_at hl 3 rfl) ?_
                refine zz_iald (k := o) hx hb hK hP 4 0 rfl rfl (by omega) (by decide) dX_quantile_66 ?_
                refine zz_top (y := nI (0 + (Ls pp).countP (fun c => okf false c && obj_ c == o))) (hq41 o (by omega)) ?_
                refine lv_iadd hx hb dX_quantile_67 ?_
                refine zz_top (y := nI (clt (Ls pp) (o + 1))) ((nI_add _ _).trans (congrArg nI (by rw [clt_s, Nat.zero_add]; rfl))) ?_
                refine lv_istore (lv' := [(4, .int (nI (clt (Ls pp) (o + 1)))), (0, .ref x0), (3, .int (nI (kk * (Ls pp).length))), (5, .int (nI o))]) hx hb dX_quantile_68 hl (by decide) rfl (fun ls hl => ?_)
                refine lv_bipush (v := nI 8) hx hb dX_quantile_70 (by decide) ?_
                refine lv_iload hx hb dX_quantile_72 (lv_at hl 0 rfl) ?_
                refine lv_imul hx hb dX_quantile_74 ?_
                refine zz_top (y := nI (8 * (clt (Ls pp) (o + 1)))) (pk_mul 8 (clt (Ls pp) (o + 1))) ?_
                refine lv_iload_n hx hb dX_quantile_75 rfl (lv_at hl 2 rfl) ?_
                have hcl := clt_le (Ls pp) (o + 1)
                refine lv_icmp_lt (tgt := 82) hx hb dX_quantile_76 (by decide) (fun c76 => ?_) (fun c76 => ?_)
                · -- taken
                  have c76 : 8 * (clt (Ls pp) (o + 1)) < kk * (Ls pp).length := (nI_ltI (a := 8 * (clt (Ls pp) (o + 1))) (b := kk * (Ls pp).length) (by omega) (by omega)).mp c76
                  refine lv_iinc (v := nI (o + 1)) (lv' := [(5, .int (nI (o + 1))), (4, .int (nI (clt (Ls pp) (o + 1)))), (0, .ref x0), (3, .int (nI (kk * (Ls pp).length)))]) hx hb dX_quantile_82 hl (k := 3) rfl (nI_1 o) (by decide) rfl (fun ls hl => ?_)
                  refine lv_goto (tgt := 50) hx hb dX_quantile_85 (by decide) ?_
                  exact ih50 (o + 1) (by omega) (fun j h => by
                    by_cases q : j = o
                    · rw [q]; exact c76
                    · exact hlt j (by omega)) (by omega) _ _ hP hD hS ls (lv_sub hl [2, 3, 1, 0] rfl)
                · -- not taken
                  have c76 : ¬ (8 * (clt (Ls pp) (o + 1)) < kk * (Ls pp).length) := fun h => c76 ((nI_ltI (a := 8 * (clt (Ls pp) (o + 1))) (b := kk * (Ls pp).length) (by omega) (by omega)).mpr h)
                  refine lv_iload hx hb dX_quantile_79 (lv_at hl 3 rfl) ?_
                  exact zz_iretW (v := nI o) (w1 := fun u : (Nat → Int32) => [(x0, .inr (4, [.ref t0, .ref p0, .ref v0, .ref g0, .ref ta])), (t0, .inr (0, [.ref t1, .ref t2])), (t1, .inl (cI, 400, .inl f)), (t2, .inl (cI, 9, .inl g)), (ta, .inl (cI, 256, .inl u))]) u41 hx hb hr hlocks (Or.inr ⟨pp, kk, hpp, hk1, hk8, epp, ekk, Or.inr ⟨hl0, o, by omega, rfl, hlt, by omega⟩⟩) hP hK hD hS dX_quantile_81
          exact lp50 ((256 - 0) + 1) 0 (Nat.zero_le _) (fun j h => absurd h (Nat.not_lt_zero _)) (Nat.lt_succ_self _) _ _ hP hD hS ls (lv_sub hl [3, 2, 1, 0] rfl)
        · -- not taken
          have c32 : kk * ((Ls pp).length) = 0 := (nI_eq (a := kk * ((Ls pp).length)) (b := 0) (by omega) (by omega)).mp c32
          have hl0 : (Ls pp).length = 0 := (Nat.mul_eq_zero.mp (by omega)).resolve_left (by omega)
          refine lv_bipush (v := (-2)) hx hb dX_quantile_35 (by decide) ?_
          exact zz_iretW (v := (-2)) (w1 := fun u : (Nat → Int32) => [(x0, .inr (4, [.ref t0, .ref p0, .ref v0, .ref g0, .ref ta])), (t0, .inr (0, [.ref t1, .ref t2])), (t1, .inl (cI, 400, .inl f)), (t2, .inl (cI, 9, .inl g)), (ta, .inl (cI, 256, .inl u))]) tl hx hb hr hlocks (Or.inr ⟨pp, kk, hpp, hk1, hk8, epp, ekk, Or.inl ⟨hl0, rfl⟩⟩) hP hK hD hS dX_quantile_37
      · -- not taken
        have hbb : ¬ (inr_ 8 p1 = true ∧ ¬ k1 < nI 1 ∧ ¬ nI 8 < k1) := fun q => c15 (i_le.mpr q.2.2)
        refine lv_iconst (v := (-1)) hx hb dX_quantile_18 (by decide) ?_
        exact zz_iretW (v := (-1)) (w1 := fun u : (Nat → Int32) => [(x0, .inr (4, [.ref t0, .ref p0, .ref v0, .ref g0, .ref ta])), (t0, .inr (0, [.ref t1, .ref t2])), (t1, .inl (cI, 400, .inl f)), (t2, .inl (cI, 9, .inl g)), (ta, .inl (cI, 256, .inl u))]) tl hx hb hr hlocks (Or.inl ⟨hbb, rfl⟩) hP hK hD hS dX_quantile_19

abbrev rm_X_register : Room := { frames := 3, cells := 0, slots := 0, locals := 76 }
set_option maxHeartbeats 4000000 in
set_option maxRecDepth 100000 in
theorem c_X_register (l : Launch) (D : va_G) (cI cB : ClassId) (sz : Nat) (x0 t0 t1 t2 p0 v0 g0 ta g1 : Nat) (f g : Nat → Int32) (Ls : Nat → List Nat) (hT : RT Ls f g) (tl rk : Nat → Int32) (b1 i1 : Int32) : Met l yX_register wX_register rm_X_register (zz_P D vwCl [(cI, .int), (cB, .boolean)] [.ref x0, .int b1, .int i1] [(x0, .inr (4, [.ref t0, .ref p0, .ref v0, .ref g0, .ref ta])), (t0, .inr (0, [.ref t1, .ref t2])), (t1, .inl (cI, 400, .inl f)), (t2, .inl (cI, 9, .inl g)), (ta, .inl (cI, 256, .inl tl)), (g0, .inr (3, [.ref g1])), (g1, .inl (cI, 16, .inl rk))] sz) (va_Qi (fun (r : Int32) (u : ((Nat → Int32) × (Nat → Int32))) => (¬ (inr_ 256 b1 = true ∧ ¬ i1 < 0 ∧ i1 < nI 16) ∧ r = -1) ∨ ∃ bb ii, bb < 256 ∧ ii < 16 ∧ b1 = nI bb ∧ i1 = nI ii ∧ r = nI (rkf (fun v => anyb Ls bb v 8) ii 256)) (fun u : ((Nat → Int32) × (Nat → Int32)) => zz_B D vwCl [(cI, .int), (cB, .boolean)] (va_A [(x0, .inr (4, [.ref t0, .ref p0, .ref v0, .ref g0, .ref ta])), (t0, .inr (0, [.ref t1, .ref t2])), (t1, .inl (cI, 400, .inl f)), (t2, .inl (cI, 9, .inl g)), (ta, .inl (cI, 256, .inl tl)), (g0, .inr (3, [.ref g1])), (g1, .inl (cI, 16, .inl rk))] sz) [(x0, .inr (4, [.ref t0, .ref p0, .ref v0, .ref g0, .ref ta])), (t0, .inr (0, [.ref t1, .ref t2])), (t1, .inl (cI, 400, .inl f)), (t2, .inl (cI, 9, .inl g)), (ta, .inl (cI, 256, .inl u.1)), (g0, .inr (3, [.ref g1])), (g1, .inl (cI, 16, .inl u.2))]) (va_A [(x0, .inr (4, [.ref t0, .ref p0, .ref v0, .ref g0, .ref ta])), (t0, .inr (0, [.ref t1, .ref t2])), (t1, .inl (cI, 400, .inl f)), (t2, .inl (cI, 9, .inl g)), (ta, .inl (cI, 256, .inl tl)), (g0, .inr (3, [.ref g1])), (g1, .inl (cI, 16, .inl rk))] sz)) 0 0 (va_A [(x0, .inr (4, [.ref t0, .ref p0, .ref v0, .ref g0, .ref ta])), (t0, .inr (0, [.ref t1, .ref t2])), (t1, .inl (cI, 400, .inl f)), (t2, .inl (cI, 9, .inl g)), (ta, .inl (cI, 256, .inl tl)), (g0, .inr (3, [.ref g1])), (g1, .inl (cI, 16, .inl rk))] sz) := by
  refine Met.ofW (cc := cX_register) (maxL := 3) (ret := (some .int)) (by decide) rfl ?_
  intro pg ev s mt args below meth kd s₁ B hml hv
  obtain ⟨rfl, hsz, hP, hK, hD0, hN⟩ := hv
  have hx := B.exec
  have hb := B.bytes
  have hr := B.returns
  have ht : ∀ w ∈ W0, w.before _ s = true := fun w h => atoms_spec (ws := wX_register) B.pre w (List.mem_cons_of_mem _ h)
  have hown : s.vm.findClass "StatRows" = some mt.cls := findClass_of_methodNamed B.named
  have hlocks := B.notSynchronized
  subst hsz
  have hD := hD0.self (sz := s.heap.size)
  generalize hAe : va_A [(x0, .inr (4, [.ref t0, .ref p0, .ref v0, .ref g0, .ref ta])), (t0, .inr (0, [.ref t1, .ref t2])), (t1, .inl (cI, 400, .inl f)), (t2, .inl (cI, 9, .inl g)), (ta, .inl (cI, 256, .inl tl)), (g0, .inr (3, [.ref g1])), (g1, .inl (cI, 16, .inl rk))] s.heap.size = A at hD ⊢
  have hA : ∀ q : Nat, s.heap.size ≤ q → A q := fun q h => by rw [← hAe]; exact Or.inr h
  have hS : va_S A s.heap s.heap [] := va_S.rf
  have hP : va_P D vwCl [(x0, .inr (4, [.ref t0, .ref p0, .ref v0, .ref g0, .ref ta])), (t0, .inr (0, [.ref t1, .ref t2])), (t1, .inl (cI, 400, .inl f)), (t2, .inl (cI, 9, .inl g)), (ta, .inl (cI, 256, .inl tl)), (g0, .inr (3, [.ref g1])), (g1, .inl (cI, 16, .inl rk))] s.heap := hP
  have hl := lv_entry ([.ref x0, .int b1, .int i1]) (n := 3) (Nat.le_of_ble_eq_true rfl)
  rw [lg_entry_eq]
  generalize (lg_sl ([.ref x0, .int b1, .int i1]) ++ List.replicate (3 - (lg_sl ([.ref x0, .int b1, .int i1])).length) Slot.unset).toArray = ls at hl ⊢
  have hl : lv_has ls 3 [(0, .ref x0), (1, .int b1), (2, .int i1)] := hl
  have h400 := hT.2.2.1
  have bl0 := btl (inr_ 256 b1)
  refine lv_iload_n hx hb dX_register_0 rfl (lv_at hl 1 rfl) ?_
  refine zz_ci (v := nI ((inr_ 256 b1).toNat)) (W.runS (As := [.int b1]) (rest := []) ⟨hx, hb, hml, hown, ht⟩ (c_X_isPredicateSet l b1) (va_cwS 1 ht (gd_S wd231 wd232 wd1 wd233) rfl rfl rfl (by decide +kernel) ⟨Nat.le_of_ble_eq_true rfl, Nat.le_of_ble_eq_true rfl⟩) zz_N_S rfl rfl hl.1 rfl (lv_room (Nat.le_of_ble_eq_true rfl)) dX_register_1 ⟨Nat.le_of_ble_eq_true rfl, Nat.le_of_ble_eq_true rfl⟩) ?_
  refine lv_if_eq (tgt := 17) hx hb dX_register_4 (by decide) (fun c4 => ?_) (fun c4 => ?_)
  · -- taken
    have c4 : (inr_ 256 b1).toNat = 0 := (nI_eq (a := (inr_ 256 b1).toNat) (b := 0) (by omega) (by omega)).mp c4
    have hnn : ¬ (inr_ 256 b1 = true ∧ ¬ i1 < 0 ∧ i1 < nI 16) := fun q => by rw [bt0 c4] at q; cases q.1
    refine lv_iconst (v := (-1)) hx hb dX_register_17 (by decide) ?_
    exact zz_iretW (v := (-1)) (w1 := fun u : ((Nat → Int32) × (Nat → Int32)) => [(x0, .inr (4, [.ref t0, .ref p0, .ref v0, .ref g0, .ref ta])), (t0, .inr (0, [.ref t1, .ref t2])), (t1, .inl (cI, 400, .inl f)), (t2, .inl (cI, 9, .inl g)), (ta, .inl (cI, 256, .inl u.1)), (g0, .inr (3, [.ref g1])), (g1, .inl (cI, 16, .inl u.2))]) (tl, rk) hx hb hr hlocks (Or.inl ⟨hnn, rfl⟩) hP hK hD hS dX_register_18
  · -- not taken
    have c4 : ¬ ((inr_ 256 b1).toNat = 0) := fun h => c4 ((nI_eq (a := (inr_ 256 b1).toNat) (b := 0) (by omega) (by omega)).mpr h)
    have hb1 := bt1 c4
    refine lv_iload_n hx hb dX_register_7 rfl (lv_at hl 2 rfl) ?_
    refine lv_if_lt (tgt := 17) hx hb dX_register_8 (by decide) (fun c8 => ?_) (fun c8 => ?_)
    · -- taken
      have hnn : ¬ (inr_ 256 b1 = true ∧ ¬ i1 < 0 ∧ i1 < nI 16) := fun q => q.2.1 c8
      refine lv_iconst (v := (-1)) hx hb dX_register_17 (by decide) ?_
      exact zz_iretW (v := (-1)) (w1 := fun u : ((Nat → Int32) × (Nat → Int32)) => [(x0, .inr (4, [.ref t0, .ref p0, .ref v0, .ref g0, .ref ta])), (t0, .inr (0, [.ref t1, .ref t2])), (t1, .inl (cI, 400, .inl f)), (t2, .inl (cI, 9, .inl g)), (ta, .inl (cI, 256, .inl u.1)), (g0, .inr (3, [.ref g1])), (g1, .inl (cI, 16, .inl u.2))]) (tl, rk) hx hb hr hlocks (Or.inl ⟨hnn, rfl⟩) hP hK hD hS dX_register_18
    · -- not taken
      refine lv_iload_n hx hb dX_register_11 rfl (lv_at hl 2 rfl) ?_
      refine lv_bipush (v := nI 16) hx hb dX_register_12 (by decide) ?_
      refine lv_icmp_lt (tgt := 19) hx hb dX_register_14 (by decide) (fun c14 => ?_) (fun c14 => ?_)
      · -- taken
        obtain ⟨bb, hbb, ebb⟩ := inr_t (by decide) hb1
        rw [ebb] at hl
        obtain ⟨ii, hii, eii⟩ := zz_in (n := 16) (by decide) c8 (fun q => (i_le.mp q) c14)
        rw [eii] at hl
        refine lv_aload_n hx hb dX_register_19 rfl (lv_at hl 0 rfl) ?_
        refine lv_iload_n hx hb dX_register_20 rfl (lv_at hl 1 rfl) ?_
        refine zz_wv (wc := [(x0, .inr (4, [.ref t0, .ref p0, .ref v0, .ref g0, .ref ta])), (t0, .inr (0, [.ref t1, .ref t2])), (t1, .inl (cI, 400, .inl f)), (t2, .inl (cI, 9, .inl g)), (ta, .inl (cI, 256, .inl tl))]) (wr := [(g0, .inr (3, [.ref g1])), (g1, .inl (cI, 16, .inl rk))]) (va_runV (As := [.int (nI bb)]) (rest := []) ⟨hx, hb, hml, hown, ht⟩ (c_X_tallySubjectsOfAll l D cI cB s.heap.size x0 t0 t1 t2 p0 v0 g0 ta f g Ls hT tl bb hbb) (cwV 1 ht (gd_V wd234 wd236 wp11 wd1 wd237) rfl rfl rfl (by decide +kernel) ⟨Nat.le_of_ble_eq_true rfl, Nat.le_of_ble_eq_true rfl⟩) (zz_P_V hN hK (hP.sub (ws' := [(x0, .inr (4, [.ref t0, .ref p0, .ref v0, .ref g0, .ref ta])), (t0, .inr (0, [.ref t1, .ref t2])), (t1, .inl (cI, 400, .inl f)), (t2, .inl (cI, 9, .inl g)), (ta, .inl (cI, 256, .inl tl))]) [0, 1, 2, 3, 4] rfl) (hD.sub (ws' := [(x0, .inr (4, [.ref t0, .ref p0, .ref v0, .ref g0, .ref ta])), (t0, .inr (0, [.ref t1, .ref t2])), (t1, .inl (cI, 400, .inl f)), (t2, .inl (cI, 9, .inl g)), (ta, .inl (cI, 256, .inl tl))]) [0, 1, 2, 3, 4] (by decide) rfl) 4 0 rfl rfl) rfl rfl hl.1 rfl (lv_room (Nat.le_of_ble_eq_true rfl)) dX_register_21 ⟨Nat.le_of_ble_eq_true rfl, Nat.le_of_ble_eq_true rfl⟩) hP hD hS hA [0, 1, 2, 3, 4] [5, 6] rfl rfl (by decide) (by decide) (fun u21 H locs hq21 hP hD hS => ?_)
        have hP := hP.sub (ws' := [(x0, .inr (4, [.ref t0, .ref p0, .ref v0, .ref g0, .ref ta])), (t0, .inr (0, [.ref t1, .ref t2])), (t1, .inl (cI, 400, .inl f)), (t2, .inl (cI, 9, .inl g)), (ta, .inl (cI, 256, .inl u21)), (g0, .inr (3, [.ref g1])), (g1, .inl (cI, 16, .inl rk))]) [2, 3, 4, 5, 6, 0, 1] rfl
        have hD := hD.sub (ws' := [(x0, .inr (4, [.ref t0, .ref p0, .ref v0, .ref g0, .ref ta])), (t0, .inr (0, [.ref t1, .ref t2])), (t1, .inl (cI, 400, .inl f)), (t2, .inl (cI, 9, .inl g)), (ta, .inl (cI, 256, .inl u21)), (g0, .inr (3, [.ref g1])), (g1, .inl (cI, 16, .inl rk))]) [2, 3, 4, 5, 6, 0, 1] (by decide) rfl
        refine lv_aload_n hx hb dX_register_24 rfl (lv_at hl 0 rfl) ?_
        refine va_get (D := D) (ci := 4) (v := .ref g0) (C := "StatRows") (T := TX) (N := 5) hx hb ht inX hown hK hP 0 rfl rfl 3 (by decide) (ht _ wd80) (fun _ h9 => h9) rfl dX_register_25 ?_
        refine lv_aload_n hx hb dX_register_28 rfl (lv_at hl 0 rfl) ?_
        refine va_get (D := D) (ci := 4) (v := .ref ta) (C := "StatRows") (T := TX) (N := 5) hx hb ht inX hown hK hP 0 rfl rfl 4 (by decide) (ht _ wd81) (fun _ h9 => h9) rfl dX_register_29 ?_
        refine zz_wv (wc := [(g0, .inr (3, [.ref g1])), (g1, .inl (cI, 16, .inl rk)), (ta, .inl (cI, 256, .inl u21))]) (wr := [(x0, .inr (4, [.ref t0, .ref p0, .ref v0, .ref g0, .ref ta])), (t0, .inr (0, [.ref t1, .ref t2])), (t1, .inl (cI, 400, .inl f)), (t2, .inl (cI, 9, .inl g))]) (va_runV (As := [.ref ta]) (rest := []) ⟨hx, hb, hml, hown, ht⟩ (c_G_tellAll l D cI cB H.size g0 g1 rk ta u21 (fun v => anyb Ls bb v 8) (fun v hv => by rw [hq21 v hv]; exact tsm_iff Ls bb v 8 h400)) (cwV 1 ht (gd_V wd238 wd239 wd240 wd5 wd241) rfl rfl rfl (by decide +kernel) ⟨Nat.le_of_ble_eq_true rfl, Nat.le_of_ble_eq_true rfl⟩) (zz_P_V hN hK (hP.sub (ws' := [(g0, .inr (3, [.ref g1])), (g1, .inl (cI, 16, .inl rk)), (ta, .inl (cI, 256, .inl u21))]) [5, 6, 4] rfl) (hD.sub (ws' := [(g0, .inr (3, [.ref g1])), (g1, .inl (cI, 16, .inl rk)), (ta, .inl (cI, 256, .inl u21))]) [5, 6, 4] (by decide) rfl) 3 0 rfl rfl) rfl rfl hl.1 rfl (lv_room (Nat.le_of_ble_eq_true rfl)) dX_register_32 ⟨Nat.le_of_ble_eq_true rfl, Nat.le_of_ble_eq_true rfl⟩) hP hD hS hA [5, 6, 4] [0, 1, 2, 3] rfl rfl (by decide) (by decide) (fun u32 H locs hq32 hP hD hS => ?_)
        have hP := hP.sub (ws' := [(x0, .inr (4, [.ref t0, .ref p0, .ref v0, .ref g0, .ref ta])), (t0, .inr (0, [.ref t1, .ref t2])), (t1, .inl (cI, 400, .inl f)), (t2, .inl (cI, 9, .inl g)), (ta, .inl (cI, 256, .inl u21)), (g0, .inr (3, [.ref g1])), (g1, .inl (cI, 16, .inl u32))]) [0, 1, 2, 3, 6, 4, 5] rfl
        have hD := hD.sub (ws' := [(x0, .inr (4, [.ref t0, .ref p0, .ref v0, .ref g0, .ref ta])), (t0, .inr (0, [.ref t1, .ref t2])), (t1, .inl (cI, 400, .inl f)), (t2, .inl (cI, 9, .inl g)), (ta, .inl (cI, 256, .inl u21)), (g0, .inr (3, [.ref g1])), (g1, .inl (cI, 16, .inl u32))]) [0, 1, 2, 3, 6, 4, 5] (by decide) rfl
        refine lv_aload_n hx hb dX_register_35 rfl (lv_at hl 0 rfl) ?_
        refine va_get (D := D) (ci := 4) (v := .ref g0) (C := "StatRows") (T := TX) (N := 5) hx hb ht inX hown hK hP 0 rfl rfl 3 (by decide) (ht _ wd80) (fun _ h9 => h9) rfl dX_register_36 ?_
        refine lv_iload_n hx hb dX_register_39 rfl (lv_at hl 2 rfl) ?_
        refine zz_ci (v := u32 ii) (W.runV (As := [.int (nI ii)]) (rest := []) ⟨hx, hb, hml, hown, ht⟩ (c_G_rank l D cI cB g0 g1 u32 ii hii) (cwV 1 ht (gd_V wd254 wd255 wd256 wd5 wd257) rfl rfl rfl (by decide +kernel) ⟨Nat.le_of_ble_eq_true rfl, Nat.le_of_ble_eq_true rfl⟩) (zz_R_V hN hK (hP.sub (ws' := [(g0, .inr (3, [.ref g1])), (g1, .inl (cI, 16, .inl u32))]) [5, 6] rfl) 3 0 rfl rfl) rfl rfl hl.1 rfl (lv_room (Nat.le_of_ble_eq_true rfl)) dX_register_40 ⟨Nat.le_of_ble_eq_true rfl, Nat.le_of_ble_eq_true rfl⟩) ?_
        exact zz_iretW (v := u32 ii) (w1 := fun u : ((Nat → Int32) × (Nat → Int32)) => [(x0, .inr (4, [.ref t0, .ref p0, .ref v0, .ref g0, .ref ta])), (t0, .inr (0, [.ref t1, .ref t2])), (t1, .inl (cI, 400, .inl f)), (t2, .inl (cI, 9, .inl g)), (ta, .inl (cI, 256, .inl u.1)), (g0, .inr (3, [.ref g1])), (g1, .inl (cI, 16, .inl u.2))]) (u21, u32) hx hb hr hlocks (Or.inr ⟨bb, ii, hbb, hii, ebb, eii, hq32 ii hii⟩) hP hK hD hS dX_register_43
      · -- not taken
        have hnn : ¬ (inr_ 256 b1 = true ∧ ¬ i1 < 0 ∧ i1 < nI 16) := fun q => c14 q.2.2
        refine lv_iconst (v := (-1)) hx hb dX_register_17 (by decide) ?_
        exact zz_iretW (v := (-1)) (w1 := fun u : ((Nat → Int32) × (Nat → Int32)) => [(x0, .inr (4, [.ref t0, .ref p0, .ref v0, .ref g0, .ref ta])), (t0, .inr (0, [.ref t1, .ref t2])), (t1, .inl (cI, 400, .inl f)), (t2, .inl (cI, 9, .inl g)), (ta, .inl (cI, 256, .inl u.1)), (g0, .inr (3, [.ref g1])), (g1, .inl (cI, 16, .inl u.2))]) (tl, rk) hx hb hr hlocks (Or.inl ⟨hnn, rfl⟩) hP hK hD hS dX_register_18

abbrev rm_X_distinct : Room := { frames := 3, cells := 0, slots := 0, locals := 76 }
set_option maxHeartbeats 4000000 in
set_option maxRecDepth 100000 in
theorem c_X_distinct (l : Launch) (D : va_G) (cI cB : ClassId) (sz : Nat) (x0 t0 t1 t2 p0 v0 g0 ta g1 : Nat) (f g : Nat → Int32) (Ls : Nat → List Nat) (hT : RT Ls f g) (tl rk : Nat → Int32) (b1 d1 : Int32) : Met l yX_distinct wX_distinct rm_X_distinct (zz_PZ D vwCl [(cI, .int), (cB, .boolean)] [.ref x0, .int b1, .int d1] [(x0, .inr (4, [.ref t0, .ref p0, .ref v0, .ref g0, .ref ta])), (t0, .inr (0, [.ref t1, .ref t2])), (t1, .inl (cI, 400, .inl f)), (t2, .inl (cI, 9, .inl g)), (ta, .inl (cI, 256, .inl tl)), (g0, .inr (3, [.ref g1])), (g1, .inl (cI, 16, .inl rk))] sz) (va_Ql (fun (r : Int64) (u : ((Nat → Int32) × (Nat → Int32))) => (¬ (inr_ 256 b1 = true ∧ ¬ d1 < 0) ∧ r = -1) ∨ ∃ bb dd, bb < 256 ∧ dd < 2 ^ 31 ∧ b1 = nI bb ∧ d1 = nI dd ∧ r = lN (if cnt (fun v => anyb Ls bb v 8) 256 ≤ dd then cnt (fun v => anyb Ls bb v 8) 256 else abt (fun i => rkf (fun v => anyb Ls bb v 8) i 256))) (fun u : ((Nat → Int32) × (Nat → Int32)) => zz_B D vwCl [(cI, .int), (cB, .boolean)] (va_A [(x0, .inr (4, [.ref t0, .ref p0, .ref v0, .ref g0, .ref ta])), (t0, .inr (0, [.ref t1, .ref t2])), (t1, .inl (cI, 400, .inl f)), (t2, .inl (cI, 9, .inl g)), (ta, .inl (cI, 256, .inl tl)), (g0, .inr (3, [.ref g1])), (g1, .inl (cI, 16, .inl rk))] sz) [(x0, .inr (4, [.ref t0, .ref p0, .ref v0, .ref g0, .ref ta])), (t0, .inr (0, [.ref t1, .ref t2])), (t1, .inl (cI, 400, .inl f)), (t2, .inl (cI, 9, .inl g)), (ta, .inl (cI, 256, .inl u.1)), (g0, .inr (3, [.ref g1])), (g1, .inl (cI, 16, .inl u.2))]) (va_A [(x0, .inr (4, [.ref t0, .ref p0, .ref v0, .ref g0, .ref ta])), (t0, .inr (0, [.ref t1, .ref t2])), (t1, .inl (cI, 400, .inl f)), (t2, .inl (cI, 9, .inl g)), (ta, .inl (cI, 256, .inl tl)), (g0, .inr (3, [.ref g1])), (g1, .inl (cI, 16, .inl rk))] sz)) 0 0 (va_A [(x0, .inr (4, [.ref t0, .ref p0, .ref v0, .ref g0, .ref ta])), (t0, .inr (0, [.ref t1, .ref t2])), (t1, .inl (cI, 400, .inl f)), (t2, .inl (cI, 9, .inl g)), (ta, .inl (cI, 256, .inl tl)), (g0, .inr (3, [.ref g1])), (g1, .inl (cI, 16, .inl rk))] sz) := by
  refine Met.ofW (cc := cX_distinct) (maxL := 4) (ret := (some .long)) (by decide) rfl ?_
  intro pg ev s mt args below meth kd s₁ B hml hv
  obtain ⟨⟨rfl, hsz, hP, hK, hD0, hN⟩, hZ⟩ := hv
  have hx := B.exec
  have hb := B.bytes
  have hr := B.returns
  have ht : ∀ w ∈ W0, w.before _ s = true := fun w h => atoms_spec (ws := wX_distinct) B.pre w (List.mem_cons_of_mem _ h)
  have hown : s.vm.findClass "StatRows" = some mt.cls := findClass_of_methodNamed B.named
  have hlocks := B.notSynchronized
  subst hsz
  have hD := hD0.self (sz := s.heap.size)
  generalize hAe : va_A [(x0, .inr (4, [.ref t0, .ref p0, .ref v0, .ref g0, .ref ta])), (t0, .inr (0, [.ref t1, .ref t2])), (t1, .inl (cI, 400, .inl f)), (t2, .inl (cI, 9, .inl g)), (ta, .inl (cI, 256, .inl tl)), (g0, .inr (3, [.ref g1])), (g1, .inl (cI, 16, .inl rk))] s.heap.size = A at hD hZ ⊢
  have hA : ∀ q : Nat, s.heap.size ≤ q → A q := fun q h => by rw [← hAe]; exact Or.inr h
  have hS : va_S A s.heap s.heap [] := va_S.rf
  have hP : va_P D vwCl [(x0, .inr (4, [.ref t0, .ref p0, .ref v0, .ref g0, .ref ta])), (t0, .inr (0, [.ref t1, .ref t2])), (t1, .inl (cI, 400, .inl f)), (t2, .inl (cI, 9, .inl g)), (ta, .inl (cI, 256, .inl tl)), (g0, .inr (3, [.ref g1])), (g1, .inl (cI, 16, .inl rk))] s.heap := hP
  have hl := lv_entry ([.ref x0, .int b1, .int d1]) (n := 4) (Nat.le_of_ble_eq_true rfl)
  rw [lg_entry_eq]
  generalize (lg_sl ([.ref x0, .int b1, .int d1]) ++ List.replicate (4 - (lg_sl ([.ref x0, .int b1, .int d1])).length) Slot.unset).toArray = ls at hl ⊢
  have hl : lv_has ls 4 [(0, .ref x0), (1, .int b1), (2, .int d1)] := hl
  have h400 := hT.2.2.1
  have bl0 := btl (inr_ 256 b1)
  refine lv_iload_n hx hb dX_distinct_0 rfl (lv_at hl 1 rfl) ?_
  refine zz_ci (v := nI ((inr_ 256 b1).toNat)) (W.runS (As := [.int b1]) (rest := []) ⟨hx, hb, hml, hown, ht⟩ (c_X_isPredicateSet l b1) (va_cwS 1 ht (gd_S wd231 wd232 wd1 wd233) rfl rfl rfl (by decide +kernel) ⟨Nat.le_of_ble_eq_true rfl, Nat.le_of_ble_eq_true rfl⟩) zz_N_S rfl rfl hl.1 rfl (lv_room (Nat.le_of_ble_eq_true rfl)) dX_distinct_1 ⟨Nat.le_of_ble_eq_true rfl, Nat.le_of_ble_eq_true rfl⟩) ?_
  refine lv_if_eq (tgt := 11) hx hb dX_distinct_4 (by decide) (fun c4 => ?_) (fun c4 => ?_)
  · -- taken
    have c4 : (inr_ 256 b1).toNat = 0 := (nI_eq (a := (inr_ 256 b1).toNat) (b := 0) (by omega) (by omega)).mp c4
    have hnn : ¬ (inr_ 256 b1 = true ∧ ¬ d1 < 0) := fun q => by rw [bt0 c4] at q; cases q.1
    refine lv_ldc2 (v := (-1)) hx hb hown (ht _ wd206) dX_distinct_11 ?_
    exact zz_lretW (v := (-1)) (w1 := fun u : ((Nat → Int32) × (Nat → Int32)) => [(x0, .inr (4, [.ref t0, .ref p0, .ref v0, .ref g0, .ref ta])), (t0, .inr (0, [.ref t1, .ref t2])), (t1, .inl (cI, 400, .inl f)), (t2, .inl (cI, 9, .inl g)), (ta, .inl (cI, 256, .inl u.1)), (g0, .inr (3, [.ref g1])), (g1, .inl (cI, 16, .inl u.2))]) (tl, rk) hx hb hr hlocks (Or.inl ⟨hnn, rfl⟩) hP hK hD hS dX_distinct_14
  · -- not taken
    have c4 : ¬ ((inr_ 256 b1).toNat = 0) := fun h => c4 ((nI_eq (a := (inr_ 256 b1).toNat) (b := 0) (by omega) (by omega)).mpr h)
    have hb1 := bt1 c4
    refine lv_iload_n hx hb dX_distinct_7 rfl (lv_at hl 2 rfl) ?_
    refine lv_if_ge (tgt := 15) hx hb dX_distinct_8 (by decide) (fun c8 => ?_) (fun c8 => ?_)
    · -- taken
      obtain ⟨bb, hbb, ebb⟩ := inr_t (by decide) hb1
      rw [ebb] at hl
      obtain ⟨dd, hdd, edd⟩ := nI_of (i_le.mp c8)
      rw [edd] at hl
      have hcl := cnt_le (fun v => anyb Ls bb v 8) 256
      refine lv_aload_n hx hb dX_distinct_15 rfl (lv_at hl 0 rfl) ?_
      refine lv_iload_n hx hb dX_distinct_16 rfl (lv_at hl 1 rfl) ?_
      refine zz_wv (wc := [(x0, .inr (4, [.ref t0, .ref p0, .ref v0, .ref g0, .ref ta])), (t0, .inr (0, [.ref t1, .ref t2])), (t1, .inl (cI, 400, .inl f)), (t2, .inl (cI, 9, .inl g)), (ta, .inl (cI, 256, .inl tl))]) (wr := [(g0, .inr (3, [.ref g1])), (g1, .inl (cI, 16, .inl rk))]) (va_runV (As := [.int (nI bb)]) (rest := []) ⟨hx, hb, hml, hown, ht⟩ (c_X_tallySubjectsOfAll l D cI cB s.heap.size x0 t0 t1 t2 p0 v0 g0 ta f g Ls hT tl bb hbb) (cwV 1 ht (gd_V wd234 wd236 wp11 wd1 wd237) rfl rfl rfl (by decide +kernel) ⟨Nat.le_of_ble_eq_true rfl, Nat.le_of_ble_eq_true rfl⟩) (zz_P_V hN hK (hP.sub (ws' := [(x0, .inr (4, [.ref t0, .ref p0, .ref v0, .ref g0, .ref ta])), (t0, .inr (0, [.ref t1, .ref t2])), (t1, .inl (cI, 400, .inl f)), (t2, .inl (cI, 9, .inl g)), (ta, .inl (cI, 256, .inl tl))]) [0, 1, 2, 3, 4] rfl) (hD.sub (ws' := [(x0, .inr (4, [.ref t0, .ref p0, .ref v0, .ref g0, .ref ta])), (t0, .inr (0, [.ref t1, .ref t2])), (t1, .inl (cI, 400, .inl f)), (t2, .inl (cI, 9, .inl g)), (ta, .inl (cI, 256, .inl tl))]) [0, 1, 2, 3, 4] (by decide) rfl) 4 0 rfl rfl) rfl rfl hl.1 rfl (lv_room (Nat.le_of_ble_eq_true rfl)) dX_distinct_17 ⟨Nat.le_of_ble_eq_true rfl, Nat.le_of_ble_eq_true rfl⟩) hP hD hS hA [0, 1, 2, 3, 4] [5, 6] rfl rfl (by decide) (by decide) (fun u17 H locs hq17 hP hD hS => ?_)
      have hP := hP.sub (ws' := [(x0, .inr (4, [.ref t0, .ref p0, .ref v0, .ref g0, .ref ta])), (t0, .inr (0, [.ref t1, .ref t2])), (t1, .inl (cI, 400, .inl f)), (t2, .inl (cI, 9, .inl g)), (ta, .inl (cI, 256, .inl u17)), (g0, .inr (3, [.ref g1])), (g1, .inl (cI, 16, .inl rk))]) [2, 3, 4, 5, 6, 0, 1] rfl
      have hD := hD.sub (ws' := [(x0, .inr (4, [.ref t0, .ref p0, .ref v0, .ref g0, .ref ta])), (t0, .inr (0, [.ref t1, .ref t2])), (t1, .inl (cI, 400, .inl f)), (t2, .inl (cI, 9, .inl g)), (ta, .inl (cI, 256, .inl u17)), (g0, .inr (3, [.ref g1])), (g1, .inl (cI, 16, .inl rk))]) [2, 3, 4, 5, 6, 0, 1] (by decide) rfl
      refine lv_aload_n hx hb dX_distinct_20 rfl (lv_at hl 0 rfl) ?_
      refine zz_ci (v := nI (cnt (fun v => decide (0 < tsm Ls bb v 8)) 256)) (W.runV (As := []) (rest := []) ⟨hx, hb, hml, hown, ht⟩ (c_X_differentInTally l D cI cB x0 t0 t1 t2 p0 v0 g0 ta u17 (fun v => tsm Ls bb v 8) hq17 (fun v _ => by have := tsm_le Ls bb v 8; show tsm Ls bb v 8 < 1000; omega)) (cwV 0 ht (gd_V wd177 wd179 wp6 wd1 wd180) rfl rfl rfl (by decide +kernel) ⟨Nat.le_of_ble_eq_true rfl, Nat.le_of_ble_eq_true rfl⟩) (zz_R_V hN hK (hP.sub (ws' := [(x0, .inr (4, [.ref t0, .ref p0, .ref v0, .ref g0, .ref ta])), (ta, .inl (cI, 256, .inl u17))]) [0, 4] rfl) 4 0 rfl rfl) rfl rfl hl.1 rfl (lv_room (Nat.le_of_ble_eq_true rfl)) dX_distinct_21 ⟨Nat.le_of_ble_eq_true rfl, Nat.le_of_ble_eq_true rfl⟩) ?_
      refine zz_top (y := nI (cnt (fun v => anyb Ls bb v 8) 256)) (congrArg nI (cnt_congr 256 (fun v _ => tsm_pos Ls bb v 8))) ?_
      refine lv_istore_n (lv' := [(3, .int (nI (cnt (fun v => anyb Ls bb v 8) 256))), (0, .ref x0), (1, .int (nI bb)), (2, .int (nI dd))]) hx hb dX_distinct_24 rfl hl (by decide) rfl (fun ls hl => ?_)
      refine lv_iload_n hx hb dX_distinct_25 rfl (lv_at hl 0 rfl) ?_
      refine lv_iload_n hx hb dX_distinct_26 rfl (lv_at hl 3 rfl) ?_
      refine lv_icmp_gt (tgt := 33) hx hb dX_distinct_27 (by decide) (fun c27 => ?_) (fun c27 => ?_)
      · -- taken
        have c27 : dd < cnt (fun v => anyb Ls bb v 8) 256 := (nI_ltI (a := dd) (b := cnt (fun v => anyb Ls bb v 8) 256) (by omega) (by omega)).mp c27
        refine lv_aload_n hx hb dX_distinct_33 rfl (lv_at hl 1 rfl) ?_
        refine va_get (D := D) (ci := 4) (v := .ref g0) (C := "StatRows") (T := TX) (N := 5) hx hb ht inX hown hK hP 0 rfl rfl 3 (by decide) (ht _ wd80) (fun _ h9 => h9) rfl dX_distinct_34 ?_
        refine lv_aload_n hx hb dX_distinct_37 rfl (lv_at hl 1 rfl) ?_
        refine va_get (D := D) (ci := 4) (v := .ref ta) (C := "StatRows") (T := TX) (N := 5) hx hb ht inX hown hK hP 0 rfl rfl 4 (by decide) (ht _ wd81) (fun _ h9 => h9) rfl dX_distinct_38 ?_
        refine zz_wv (wc := [(g0, .inr (3, [.ref g1])), (g1, .inl (cI, 16, .inl rk)), (ta, .inl (cI, 256, .inl u17))]) (wr := [(x0, .inr (4, [.ref t0, .ref p0, .ref v0, .ref g0, .ref ta])), (t0, .inr (0, [.ref t1, .ref t2])), (t1, .inl (cI, 400, .inl f)), (t2, .inl (cI, 9, .inl g))]) (va_runV (As := [.ref ta]) (rest := []) ⟨hx, hb, hml, hown, ht⟩ (c_G_tellAll l D cI cB H.size g0 g1 rk ta u17 (fun v => anyb Ls bb v 8) (fun v hv => by rw [hq17 v hv]; exact tsm_iff Ls bb v 8 h400)) (cwV 1 ht (gd_V wd238 wd239 wd240 wd5 wd241) rfl rfl rfl (by decide +kernel) ⟨Nat.le_of_ble_eq_true rfl, Nat.le_of_ble_eq_true rfl⟩) (zz_P_V hN hK (hP.sub (ws' := [(g0, .inr (3, [.ref g1])), (g1, .inl (cI, 16, .inl rk)), (ta, .inl (cI, 256, .inl u17))]) [5, 6, 4] rfl) (hD.sub (ws' := [(g0, .inr (3, [.ref g1])), (g1, .inl (cI, 16, .inl rk)), (ta, .inl (cI, 256, .inl u17))]) [5, 6, 4] (by decide) rfl) 3 0 rfl rfl) rfl rfl hl.1 rfl (lv_room (Nat.le_of_ble_eq_true rfl)) dX_distinct_41 ⟨Nat.le_of_ble_eq_true rfl, Nat.le_of_ble_eq_true rfl⟩) hP hD hS hA [5, 6, 4] [0, 1, 2, 3] rfl rfl (by decide) (by decide) (fun u41 H locs hq41 hP hD hS => ?_)
        have hP := hP.sub (ws' := [(x0, .inr (4, [.ref t0, .ref p0, .ref v0, .ref g0, .ref ta])), (t0, .inr (0, [.ref t1, .ref t2])), (t1, .inl (cI, 400, .inl f)), (t2, .inl (cI, 9, .inl g)), (ta, .inl (cI, 256, .inl u17)), (g0, .inr (3, [.ref g1])), (g1, .inl (cI, 16, .inl u41))]) [0, 1, 2, 3, 6, 4, 5] rfl
        have hD := hD.sub (ws' := [(x0, .inr (4, [.ref t0, .ref p0, .ref v0, .ref g0, .ref ta])), (t0, .inr (0, [.ref t1, .ref t2])), (t1, .inl (cI, 400, .inl f)), (t2, .inl (cI, 9, .inl g)), (ta, .inl (cI, 256, .inl u17)), (g0, .inr (3, [.ref g1])), (g1, .inl (cI, 16, .inl u41))]) [0, 1, 2, 3, 6, 4, 5] (by decide) rfl
        refine lv_aload_n hx hb dX_distinct_44 rfl (lv_at hl 1 rfl) ?_
        refine va_get (D := D) (ci := 4) (v := .ref g0) (C := "StatRows") (T := TX) (N := 5) hx hb ht inX hown hK hP 0 rfl rfl 3 (by decide) (ht _ wd80) (fun _ h9 => h9) rfl dX_distinct_45 ?_
        refine zz_cl (v := lN (abt (fun i => rkf (fun v => anyb Ls bb v 8) i 256))) (W.runV (As := []) (rest := []) ⟨hx, hb, hml, hown, ht⟩ (c_G_about l D cI cB g0 g1 u41 (fun i => rkf (fun v => anyb Ls bb v 8) i 256) hq41 (fun i _ => rkf_le _ i 256)) (cwV 0 ht (gd_V wd262 wd263 wd264 wd5 wd265) rfl rfl rfl (by decide +kernel) ⟨Nat.le_of_ble_eq_true rfl, Nat.le_of_ble_eq_true rfl⟩) (zz_RZ_V ((hZ.kept hS.2.1).narrow (fun _ h => h.elim)) hN hK (hP.sub (ws' := [(g0, .inr (3, [.ref g1])), (g1, .inl (cI, 16, .inl u41))]) [5, 6] rfl) 3 0 rfl rfl) rfl rfl hl.1 rfl (lv_room (Nat.le_of_ble_eq_true rfl)) dX_distinct_48 ⟨Nat.le_of_ble_eq_true rfl, Nat.le_of_ble_eq_true rfl⟩) ?_
        exact zz_lretW (v := lN (abt (fun i => rkf (fun v => anyb Ls bb v 8) i 256))) (w1 := fun u : ((Nat → Int32) × (Nat → Int32)) => [(x0, .inr (4, [.ref t0, .ref p0, .ref v0, .ref g0, .ref ta])), (t0, .inr (0, [.ref t1, .ref t2])), (t1, .inl (cI, 400, .inl f)), (t2, .inl (cI, 9, .inl g)), (ta, .inl (cI, 256, .inl u.1)), (g0, .inr (3, [.ref g1])), (g1, .inl (cI, 16, .inl u.2))]) (u17, u41) hx hb hr hlocks (Or.inr ⟨bb, dd, hbb, hdd, ebb, edd, by rw [if_neg (by omega)]⟩) hP hK hD hS dX_distinct_51
      · -- not taken
        have c27 : ¬ (dd < cnt (fun v => anyb Ls bb v 8) 256) := fun h => c27 ((nI_ltI (a := dd) (b := cnt (fun v => anyb Ls bb v 8) 256) (by omega) (by omega)).mpr h)
        refine lv_iload_n hx hb dX_distinct_30 rfl (lv_at hl 0 rfl) ?_
        refine lv_i2l (v := lN (cnt (fun v => anyb Ls bb v 8) 256)) hx hb dX_distinct_31 (nI_l (n := cnt (fun v => anyb Ls bb v 8) 256) (by omega)) ?_
        exact zz_lretW (v := lN (cnt (fun v => anyb Ls bb v 8) 256)) (w1 := fun u : ((Nat → Int32) × (Nat → Int32)) => [(x0, .inr (4, [.ref t0, .ref p0, .ref v0, .ref g0, .ref ta])), (t0, .inr (0, [.ref t1, .ref t2])), (t1, .inl (cI, 400, .inl f)), (t2, .inl (cI, 9, .inl g)), (ta, .inl (cI, 256, .inl u.1)), (g0, .inr (3, [.ref g1])), (g1, .inl (cI, 16, .inl u.2))]) (u17, rk) hx hb hr hlocks (Or.inr ⟨bb, dd, hbb, hdd, ebb, edd, by rw [if_pos (by omega)]⟩) hP hK hD hS dX_distinct_32
    · -- not taken
      have hnn : ¬ (inr_ 256 b1 = true ∧ ¬ d1 < 0) := fun q => c8 (i_le.mpr q.2)
      refine lv_ldc2 (v := (-1)) hx hb hown (ht _ wd206) dX_distinct_11 ?_
      exact zz_lretW (v := (-1)) (w1 := fun u : ((Nat → Int32) × (Nat → Int32)) => [(x0, .inr (4, [.ref t0, .ref p0, .ref v0, .ref g0, .ref ta])), (t0, .inr (0, [.ref t1, .ref t2])), (t1, .inl (cI, 400, .inl f)), (t2, .inl (cI, 9, .inl g)), (ta, .inl (cI, 256, .inl u.1)), (g0, .inr (3, [.ref g1])), (g1, .inl (cI, 16, .inl u.2))]) (tl, rk) hx hb hr hlocks (Or.inl ⟨hnn, rfl⟩) hP hK hD hS dX_distinct_14

abbrev rm_X_estimate : Room := { frames := 4, cells := 0, slots := 0, locals := 90 }
set_option maxHeartbeats 4000000 in
set_option maxRecDepth 100000 in
theorem c_X_estimate (l : Launch) (D : va_G) (cI cB : ClassId) (sz : Nat) (x0 t0 t1 t2 p0 v0 g0 ta : Nat) (f g : Nat → Int32) (Ls : Nat → List Nat) (hT : RT Ls f g) (tl : Nat → Int32) (op p1 p2 : Int32) : Met l yX_estimate wX_estimate rm_X_estimate (zz_P D vwCl [(cI, .int), (cB, .boolean)] [.ref x0, .int op, .int p1, .int p2] [(x0, .inr (4, [.ref t0, .ref p0, .ref v0, .ref g0, .ref ta])), (t0, .inr (0, [.ref t1, .ref t2])), (t1, .inl (cI, 400, .inl f)), (t2, .inl (cI, 9, .inl g)), (ta, .inl (cI, 256, .inl tl))] sz) (va_Ql (fun (r : Int64) (u : (Nat → Int32)) => (inr_ 8 p1 = false ∧ r = -1) ∨ ∃ pp, pp < 8 ∧ p1 = nI pp ∧ ((op = nI 3 ∧ r = lN ((Ls pp).length / 3)) ∨ (op ≠ nI 3 ∧ ((inr_ 8 p2 = false ∧ r = -1) ∨ ∃ qq, qq < 8 ∧ p2 = nI qq ∧ (((op ≠ nI 0 ∧ op ≠ nI 1 ∧ op ≠ nI 2 ∧ op ≠ nI 4) ∧ r = -1) ∨ (op = nI 0 ∧ r = lN ((Ls pp).length * (Ls qq).length / max 1 (max (cnt (anyk obj_ (Ls pp)) 256) (cnt (anyk sub_ (Ls qq)) 256)))) ∨ (op = nI 1 ∧ r = lN ((Ls pp).length * (Ls qq).length / max 1 (max (cnt (anyk sub_ (Ls pp)) 256) (cnt (anyk sub_ (Ls qq)) 256)))) ∨ (op = nI 2 ∧ r = lN ((Ls pp).length + (Ls qq).length)) ∨ (op = nI 4 ∧ r = lN (16 * chn true obj_ (Ls pp) (Ls qq)))))))) (fun u : (Nat → Int32) => zz_B D vwCl [(cI, .int), (cB, .boolean)] (va_A [(x0, .inr (4, [.ref t0, .ref p0, .ref v0, .ref g0, .ref ta])), (t0, .inr (0, [.ref t1, .ref t2])), (t1, .inl (cI, 400, .inl f)), (t2, .inl (cI, 9, .inl g)), (ta, .inl (cI, 256, .inl tl))] sz) [(x0, .inr (4, [.ref t0, .ref p0, .ref v0, .ref g0, .ref ta])), (t0, .inr (0, [.ref t1, .ref t2])), (t1, .inl (cI, 400, .inl f)), (t2, .inl (cI, 9, .inl g)), (ta, .inl (cI, 256, .inl u))]) (va_A [(x0, .inr (4, [.ref t0, .ref p0, .ref v0, .ref g0, .ref ta])), (t0, .inr (0, [.ref t1, .ref t2])), (t1, .inl (cI, 400, .inl f)), (t2, .inl (cI, 9, .inl g)), (ta, .inl (cI, 256, .inl tl))] sz)) 0 0 (va_A [(x0, .inr (4, [.ref t0, .ref p0, .ref v0, .ref g0, .ref ta])), (t0, .inr (0, [.ref t1, .ref t2])), (t1, .inl (cI, 400, .inl f)), (t2, .inl (cI, 9, .inl g)), (ta, .inl (cI, 256, .inl tl))] sz) := by
  refine Met.ofW (cc := cX_estimate) (maxL := 4) (ret := (some .long)) (by decide) rfl ?_
  intro pg ev s mt args below meth kd s₁ B hml hv
  obtain ⟨rfl, hsz, hP, hK, hD0, hN⟩ := hv
  have hx := B.exec
  have hb := B.bytes
  have hr := B.returns
  have ht : ∀ w ∈ W0, w.before _ s = true := fun w h => atoms_spec (ws := wX_estimate) B.pre w (List.mem_cons_of_mem _ h)
  have hown : s.vm.findClass "StatRows" = some mt.cls := findClass_of_methodNamed B.named
  have hlocks := B.notSynchronized
  subst hsz
  have hD := hD0.self (sz := s.heap.size)
  generalize hAe : va_A [(x0, .inr (4, [.ref t0, .ref p0, .ref v0, .ref g0, .ref ta])), (t0, .inr (0, [.ref t1, .ref t2])), (t1, .inl (cI, 400, .inl f)), (t2, .inl (cI, 9, .inl g)), (ta, .inl (cI, 256, .inl tl))] s.heap.size = A at hD ⊢
  have hA : ∀ q : Nat, s.heap.size ≤ q → A q := fun q h => by rw [← hAe]; exact Or.inr h
  have hS : va_S A s.heap s.heap [] := va_S.rf
  have hP : va_P D vwCl [(x0, .inr (4, [.ref t0, .ref p0, .ref v0, .ref g0, .ref ta])), (t0, .inr (0, [.ref t1, .ref t2])), (t1, .inl (cI, 400, .inl f)), (t2, .inl (cI, 9, .inl g)), (ta, .inl (cI, 256, .inl tl))] s.heap := hP
  have hl := lv_entry ([.ref x0, .int op, .int p1, .int p2]) (n := 4) (Nat.le_of_ble_eq_true rfl)
  rw [lg_entry_eq]
  generalize (lg_sl ([.ref x0, .int op, .int p1, .int p2]) ++ List.replicate (4 - (lg_sl ([.ref x0, .int op, .int p1, .int p2])).length) Slot.unset).toArray = ls at hl ⊢
  have hl : lv_has ls 4 [(0, .ref x0), (1, .int op), (2, .int p1), (3, .int p2)] := hl
  have h400 := hT.2.2.1
  have bl0 := btl (inr_ 8 p1)
  have bl1 := btl (inr_ 8 p2)
  refine lv_iload_n hx hb dX_estimate_0 rfl (lv_at hl 2 rfl) ?_
  refine zz_ci (v := nI ((inr_ 8 p1).toNat)) (W.runS (As := [.int p1]) (rest := []) ⟨hx, hb, hml, hown, ht⟩ (c_X_isPredicate l p1) (va_cwS 1 ht (gd_S wd103 wd104 wd1 wd105) rfl rfl rfl (by decide +kernel) ⟨Nat.le_of_ble_eq_true rfl, Nat.le_of_ble_eq_true rfl⟩) zz_N_S rfl rfl hl.1 rfl (lv_room (Nat.le_of_ble_eq_true rfl)) dX_estimate_1 ⟨Nat.le_of_ble_eq_true rfl, Nat.le_of_ble_eq_true rfl⟩) ?_
  refine lv_if_ne (tgt := 11) hx hb dX_estimate_4 (by decide) (fun c4 => ?_) (fun c4 => ?_)
  · -- taken
    have c4 : ¬ ((inr_ 8 p1).toNat = 0) := fun h => c4 ((nI_eq (a := (inr_ 8 p1).toNat) (b := 0) (by omega) (by omega)).mpr h)
    have hb1 : inr_ 8 p1 = true := bt1 c4
    obtain ⟨pp, hpp, epp⟩ := inr_t (by decide) hb1
    rw [epp] at hl
    have htp := tr_top (Ls := Ls) hpp
    refine lv_iload_n hx hb dX_estimate_11 rfl (lv_at hl 1 rfl) ?_
    refine lv_iconst (v := nI 3) hx hb dX_estimate_12 (by decide) ?_
    refine lv_icmp_ne (tgt := 28) hx hb dX_estimate_13 (by decide) (fun c13 => ?_) (fun c13 => ?_)
    · -- taken
      refine lv_iload_n hx hb dX_estimate_28 rfl (lv_at hl 3 rfl) ?_
      refine zz_ci (v := nI ((inr_ 8 p2).toNat)) (W.runS (As := [.int p2]) (rest := []) ⟨hx, hb, hml, hown, ht⟩ (c_X_isPredicate l p2) (va_cwS 1 ht (gd_S wd103 wd104 wd1 wd105) rfl rfl rfl (by decide +kernel) ⟨Nat.le_of_ble_eq_true rfl, Nat.le_of_ble_eq_true rfl⟩) zz_N_S rfl rfl hl.1 rfl (lv_room (Nat.le_of_ble_eq_true rfl)) dX_estimate_29 ⟨Nat.le_of_ble_eq_true rfl, Nat.le_of_ble_eq_true rfl⟩) ?_
      refine lv_if_ne (tgt := 39) hx hb dX_estimate_32 (by decide) (fun c32 => ?_) (fun c32 => ?_)
      · -- taken
        have c32 : ¬ ((inr_ 8 p2).toNat = 0) := fun h => c32 ((nI_eq (a := (inr_ 8 p2).toNat) (b := 0) (by omega) (by omega)).mpr h)
        have hb2 := bt1 c32
        obtain ⟨qq, hqq, eqq⟩ := inr_t (by decide) hb2
        rw [eqq] at hl
        have htq := tr_top (Ls := Ls) hqq
        refine lv_iload_n hx hb dX_estimate_39 rfl (lv_at hl 1 rfl) ?_
        by_cases t40_0 : op = nI 0
        · refine zz_top t40_0 ?_
          refine lv_tableIn (tgt := 76) hx hb dX_estimate_40 (by decide) (by decide) (by first | rfl | decide) (by decide) ?_
          refine lv_aload_n hx hb dX_estimate_76 rfl (lv_at hl 0 rfl) ?_
          refine lv_iload_n hx hb dX_estimate_77 rfl (lv_at hl 2 rfl) ?_
          refine lv_iload_n hx hb dX_estimate_78 rfl (lv_at hl 3 rfl) ?_
          refine lv_aload_n hx hb dX_estimate_79 rfl (lv_at hl 0 rfl) ?_
          refine lv_iload_n hx hb dX_estimate_80 rfl (lv_at hl 2 rfl) ?_
          refine zz_wi (wc := [(x0, .inr (4, [.ref t0, .ref p0, .ref v0, .ref g0, .ref ta])), (t0, .inr (0, [.ref t1, .ref t2])), (t1, .inl (cI, 400, .inl f)), (t2, .inl (cI, 9, .inl g)), (ta, .inl (cI, 256, .inl tl))]) (wr := []) (va_runV (As := [.int (nI pp)]) (rest := [.int (nI qq), .int (nI pp), .ref x0]) ⟨hx, hb, hml, hown, ht⟩ (c_X_objectsOf l D cI cB s.heap.size x0 t0 t1 t2 p0 v0 g0 ta f g Ls hT tl pp hpp) (cwV 1 ht (gd_V wd181 wd183 wp7 wd1 wd184) rfl rfl rfl (by decide +kernel) ⟨Nat.le_of_ble_eq_true rfl, Nat.le_of_ble_eq_true rfl⟩) (zz_P_V hN hK (hP.sub (ws' := [(x0, .inr (4, [.ref t0, .ref p0, .ref v0, .ref g0, .ref ta])), (t0, .inr (0, [.ref t1, .ref t2])), (t1, .inl (cI, 400, .inl f)), (t2, .inl (cI, 9, .inl g)), (ta, .inl (cI, 256, .inl tl))]) [0, 1, 2, 3, 4] rfl) (hD.sub (ws' := [(x0, .inr (4, [.ref t0, .ref p0, .ref v0, .ref g0, .ref ta])), (t0, .inr (0, [.ref t1, .ref t2])), (t1, .inl (cI, 400, .inl f)), (t2, .inl (cI, 9, .inl g)), (ta, .inl (cI, 256, .inl tl))]) [0, 1, 2, 3, 4] (by decide) rfl) 4 0 rfl rfl) rfl rfl hl.1 rfl (lv_room (Nat.le_of_ble_eq_true rfl)) dX_estimate_81 ⟨Nat.le_of_ble_eq_true rfl, Nat.le_of_ble_eq_true rfl⟩) hP hD hS hA [0, 1, 2, 3, 4] [] rfl rfl (by decide) (by decide) (fun r81 u81 H locs hq81 hP hD hS => ?_)
          have hP := hP.sub (ws' := [(x0, .inr (4, [.ref t0, .ref p0, .ref v0, .ref g0, .ref ta])), (t0, .inr (0, [.ref t1, .ref t2])), (t1, .inl (cI, 400, .inl f)), (t2, .inl (cI, 9, .inl g)), (ta, .inl (cI, 256, .inl u81))]) [0, 1, 2, 3, 4] rfl
          have hD := hD.sub (ws' := [(x0, .inr (4, [.ref t0, .ref p0, .ref v0, .ref g0, .ref ta])), (t0, .inr (0, [.ref t1, .ref t2])), (t1, .inl (cI, 400, .inl f)), (t2, .inl (cI, 9, .inl g)), (ta, .inl (cI, 256, .inl u81))]) [0, 1, 2, 3, 4] (by decide) rfl
          refine zz_top (y := nI (cnt (anyk obj_ (Ls pp)) 256)) (hq81) ?_
          refine zz_wl (wc := [(x0, .inr (4, [.ref t0, .ref p0, .ref v0, .ref g0, .ref ta])), (t0, .inr (0, [.ref t1, .ref t2])), (t1, .inl (cI, 400, .inl f)), (t2, .inl (cI, 9, .inl g)), (ta, .inl (cI, 256, .inl u81))]) (wr := []) (va_runV (As := [.int (nI pp), .int (nI qq), .int (nI (cnt (anyk obj_ (Ls pp)) 256))]) (rest := []) ⟨hx, hb, hml, hown, ht⟩ (c_X_joinEstimate l D cI cB H.size x0 t0 t1 t2 p0 v0 g0 ta f g Ls hT u81 pp qq (cnt (anyk obj_ (Ls pp)) 256) hpp hqq (cnt_le _ _)) (cwV 3 ht (gd_V wd274 wd276 wp13 wd1 wd277) rfl rfl rfl (by decide +kernel) ⟨Nat.le_of_ble_eq_true rfl, Nat.le_of_ble_eq_true rfl⟩) (zz_P_V hN hK (hP.sub (ws' := [(x0, .inr (4, [.ref t0, .ref p0, .ref v0, .ref g0, .ref ta])), (t0, .inr (0, [.ref t1, .ref t2])), (t1, .inl (cI, 400, .inl f)), (t2, .inl (cI, 9, .inl g)), (ta, .inl (cI, 256, .inl u81))]) [0, 1, 2, 3, 4] rfl) (hD.sub (ws' := [(x0, .inr (4, [.ref t0, .ref p0, .ref v0, .ref g0, .ref ta])), (t0, .inr (0, [.ref t1, .ref t2])), (t1, .inl (cI, 400, .inl f)), (t2, .inl (cI, 9, .inl g)), (ta, .inl (cI, 256, .inl u81))]) [0, 1, 2, 3, 4] (by decide) rfl) 4 0 rfl rfl) rfl rfl hl.1 rfl (lv_room (Nat.le_of_ble_eq_true rfl)) dX_estimate_84 ⟨Nat.le_of_ble_eq_true rfl, Nat.le_of_ble_eq_true rfl⟩) hP hD hS hA [0, 1, 2, 3, 4] [] rfl rfl (by decide) (by decide) (fun r84 u84 H locs hq84 hP hD hS => ?_)
          have hP := hP.sub (ws' := [(x0, .inr (4, [.ref t0, .ref p0, .ref v0, .ref g0, .ref ta])), (t0, .inr (0, [.ref t1, .ref t2])), (t1, .inl (cI, 400, .inl f)), (t2, .inl (cI, 9, .inl g)), (ta, .inl (cI, 256, .inl u84))]) [0, 1, 2, 3, 4] rfl
          have hD := hD.sub (ws' := [(x0, .inr (4, [.ref t0, .ref p0, .ref v0, .ref g0, .ref ta])), (t0, .inr (0, [.ref t1, .ref t2])), (t1, .inl (cI, 400, .inl f)), (t2, .inl (cI, 9, .inl g)), (ta, .inl (cI, 256, .inl u84))]) [0, 1, 2, 3, 4] (by decide) rfl
          exact zz_lretW (v := r84) (w1 := fun u : (Nat → Int32) => [(x0, .inr (4, [.ref t0, .ref p0, .ref v0, .ref g0, .ref ta])), (t0, .inr (0, [.ref t1, .ref t2])), (t1, .inl (cI, 400, .inl f)), (t2, .inl (cI, 9, .inl g)), (ta, .inl (cI, 256, .inl u))]) u84 hx hb hr hlocks (Or.inr ⟨pp, hpp, epp, Or.inr ⟨c13, Or.inr ⟨qq, hqq, eqq, Or.inr (Or.inl ⟨t40_0, hq84⟩)⟩⟩⟩) hP hK hD hS dX_estimate_87
        by_cases t40_1 : op = nI 1
        · refine zz_top t40_1 ?_
          refine lv_tableIn (tgt := 88) hx hb dX_estimate_40 (by decide) (by decide) (by first | rfl | decide) (by decide) ?_
          refine lv_aload_n hx hb dX_estimate_88 rfl (lv_at hl 0 rfl) ?_
          refine lv_iload_n hx hb dX_estimate_89 rfl (lv_at hl 2 rfl) ?_
          refine lv_iload_n hx hb dX_estimate_90 rfl (lv_at hl 3 rfl) ?_
          refine lv_aload_n hx hb dX_estimate_91 rfl (lv_at hl 0 rfl) ?_
          refine lv_iload_n hx hb dX_estimate_92 rfl (lv_at hl 2 rfl) ?_
          refine zz_wi (wc := [(x0, .inr (4, [.ref t0, .ref p0, .ref v0, .ref g0, .ref ta])), (t0, .inr (0, [.ref t1, .ref t2])), (t1, .inl (cI, 400, .inl f)), (t2, .inl (cI, 9, .inl g)), (ta, .inl (cI, 256, .inl tl))]) (wr := []) (va_runV (As := [.int (nI pp)]) (rest := [.int (nI qq), .int (nI pp), .ref x0]) ⟨hx, hb, hml, hown, ht⟩ (c_X_subjectsOf l D cI cB s.heap.size x0 t0 t1 t2 p0 v0 g0 ta f g Ls hT tl pp hpp) (cwV 1 ht (gd_V wd156 wd158 wp3 wd1 wd159) rfl rfl rfl (by decide +kernel) ⟨Nat.le_of_ble_eq_true rfl, Nat.le_of_ble_eq_true rfl⟩) (zz_P_V hN hK (hP.sub (ws' := [(x0, .inr (4, [.ref t0, .ref p0, .ref v0, .ref g0, .ref ta])), (t0, .inr (0, [.ref t1, .ref t2])), (t1, .inl (cI, 400, .inl f)), (t2, .inl (cI, 9, .inl g)), (ta, .inl (cI, 256, .inl tl))]) [0, 1, 2, 3, 4] rfl) (hD.sub (ws' := [(x0, .inr (4, [.ref t0, .ref p0, .ref v0, .ref g0, .ref ta])), (t0, .inr (0, [.ref t1, .ref t2])), (t1, .inl (cI, 400, .inl f)), (t2, .inl (cI, 9, .inl g)), (ta, .inl (cI, 256, .inl tl))]) [0, 1, 2, 3, 4] (by decide) rfl) 4 0 rfl rfl) rfl rfl hl.1 rfl (lv_room (Nat.le_of_ble_eq_true rfl)) dX_estimate_93 ⟨Nat.le_of_ble_eq_true rfl, Nat.le_of_ble_eq_true rfl⟩) hP hD hS hA [0, 1, 2, 3, 4] [] rfl rfl (by decide) (by decide) (fun r93 u93 H locs hq93 hP hD hS => ?_)
          have hP := hP.sub (ws' := [(x0, .inr (4, [.ref t0, .ref p0, .ref v0, .ref g0, .ref ta])), (t0, .inr (0, [.ref t1, .ref t2])), (t1, .inl (cI, 400, .inl f)), (t2, .inl (cI, 9, .inl g)), (ta, .inl (cI, 256, .inl u93))]) [0, 1, 2, 3, 4] rfl
          have hD := hD.sub (ws' := [(x0, .inr (4, [.ref t0, .ref p0, .ref v0, .ref g0, .ref ta])), (t0, .inr (0, [.ref t1, .ref t2])), (t1, .inl (cI, 400, .inl f)), (t2, .inl (cI, 9, .inl g)), (ta, .inl (cI, 256, .inl u93))]) [0, 1, 2, 3, 4] (by decide) rfl
          refine zz_top (y := nI (cnt (anyk sub_ (Ls pp)) 256)) (hq93) ?_
          refine zz_wl (wc := [(x0, .inr (4, [.ref t0, .ref p0, .ref v0, .ref g0, .ref ta])), (t0, .inr (0, [.ref t1, .ref t2])), (t1, .inl (cI, 400, .inl f)), (t2, .inl (cI, 9, .inl g)), (ta, .inl (cI, 256, .inl u93))]) (wr := []) (va_runV (As := [.int (nI pp), .int (nI qq), .int (nI (cnt (anyk sub_ (Ls pp)) 256))]) (rest := []) ⟨hx, hb, hml, hown, ht⟩ (c_X_joinEstimate l D cI cB H.size x0 t0 t1 t2 p0 v0 g0 ta f g Ls hT u93 pp qq (cnt (anyk sub_ (Ls pp)) 256) hpp hqq (cnt_le _ _)) (cwV 3 ht (gd_V wd274 wd276 wp13 wd1 wd277) rfl rfl rfl (by decide +kernel) ⟨Nat.le_of_ble_eq_true rfl, Nat.le_of_ble_eq_true rfl⟩) (zz_P_V hN hK (hP.sub (ws' := [(x0, .inr (4, [.ref t0, .ref p0, .ref v0, .ref g0, .ref ta])), (t0, .inr (0, [.ref t1, .ref t2])), (t1, .inl (cI, 400, .inl f)), (t2, .inl (cI, 9, .inl g)), (ta, .inl (cI, 256, .inl u93))]) [0, 1, 2, 3, 4] rfl) (hD.sub (ws' := [(x0, .inr (4, [.ref t0, .ref p0, .ref v0, .ref g0, .ref ta])), (t0, .inr (0, [.ref t1, .ref t2])), (t1, .inl (cI, 400, .inl f)), (t2, .inl (cI, 9, .inl g)), (ta, .inl (cI, 256, .inl u93))]) [0, 1, 2, 3, 4] (by decide) rfl) 4 0 rfl rfl) rfl rfl hl.1 rfl (lv_room (Nat.le_of_ble_eq_true rfl)) dX_estimate_96 ⟨Nat.le_of_ble_eq_true rfl, Nat.le_of_ble_eq_true rfl⟩) hP hD hS hA [0, 1, 2, 3, 4] [] rfl rfl (by decide) (by decide) (fun r96 u96 H locs hq96 hP hD hS => ?_)
          have hP := hP.sub (ws' := [(x0, .inr (4, [.ref t0, .ref p0, .ref v0, .ref g0, .ref ta])), (t0, .inr (0, [.ref t1, .ref t2])), (t1, .inl (cI, 400, .inl f)), (t2, .inl (cI, 9, .inl g)), (ta, .inl (cI, 256, .inl u96))]) [0, 1, 2, 3, 4] rfl
          have hD := hD.sub (ws' := [(x0, .inr (4, [.ref t0, .ref p0, .ref v0, .ref g0, .ref ta])), (t0, .inr (0, [.ref t1, .ref t2])), (t1, .inl (cI, 400, .inl f)), (t2, .inl (cI, 9, .inl g)), (ta, .inl (cI, 256, .inl u96))]) [0, 1, 2, 3, 4] (by decide) rfl
          exact zz_lretW (v := r96) (w1 := fun u : (Nat → Int32) => [(x0, .inr (4, [.ref t0, .ref p0, .ref v0, .ref g0, .ref ta])), (t0, .inr (0, [.ref t1, .ref t2])), (t1, .inl (cI, 400, .inl f)), (t2, .inl (cI, 9, .inl g)), (ta, .inl (cI, 256, .inl u))]) u96 hx hb hr hlocks (Or.inr ⟨pp, hpp, epp, Or.inr ⟨c13, Or.inr ⟨qq, hqq, eqq, Or.inr (Or.inr (Or.inl ⟨t40_1, hq96⟩))⟩⟩⟩) hP hK hD hS dX_estimate_99
        by_cases t40_2 : op = nI 2
        · refine zz_top t40_2 ?_
          refine lv_tableIn (tgt := 100) hx hb dX_estimate_40 (by decide) (by decide) (by first | rfl | decide) (by decide) ?_
          refine lv_aload_n hx hb dX_estimate_100 rfl (lv_at hl 0 rfl) ?_
          refine va_get (D := D) (ci := 4) (v := .ref t0) (C := "StatRows") (T := TX) (N := 5) hx hb ht inX hown hK hP 0 rfl rfl 0 (by decide) (ht _ wd77) (fun _ h9 => h9) rfl dX_estimate_101 ?_
          refine lv_iload_n hx hb dX_estimate_104 rfl (lv_at hl 2 rfl) ?_
          refine zz_ci (v := nI (tr_off Ls pp + (Ls pp).length - tr_off Ls pp)) (W.runV (As := [.int (nI pp)]) (rest := []) ⟨hx, hb, hml, hown, ht⟩ (c_T_sizeOf l D cI cB t0 t1 t2 f g pp (tr_off Ls pp) (tr_off Ls pp + (Ls pp).length) hpp (hT.1 pp (by omega)) (hT.1 (pp + 1) (by omega)) (by omega)) (cwV 1 ht (gd_V wd152 wd153 wd154 wd2 wd155) rfl rfl rfl (by decide +kernel) ⟨Nat.le_of_ble_eq_true rfl, Nat.le_of_ble_eq_true rfl⟩) (zz_R_V hN hK (hP.sub (ws' := [(t0, .inr (0, [.ref t1, .ref t2])), (t1, .inl (cI, 400, .inl f)), (t2, .inl (cI, 9, .inl g))]) [1, 2, 3] rfl) 0 0 rfl rfl) rfl rfl hl.1 rfl (lv_room (Nat.le_of_ble_eq_true rfl)) dX_estimate_105 ⟨Nat.le_of_ble_eq_true rfl, Nat.le_of_ble_eq_true rfl⟩) ?_
          refine zz_top (y := nI ((Ls pp).length)) (congrArg nI (by omega)) ?_
          refine lv_i2l (v := lN ((Ls pp).length)) hx hb dX_estimate_108 (nI_l (n := (Ls pp).length) (by omega)) ?_
          refine lv_aload_n hx hb dX_estimate_109 rfl (lv_at hl 0 rfl) ?_
          refine va_get (D := D) (ci := 4) (v := .ref t0) (C := "StatRows") (T := TX) (N := 5) hx hb ht inX hown hK hP 0 rfl rfl 0 (by decide) (ht _ wd77) (fun _ h9 => h9) rfl dX_estimate_110 ?_
          refine lv_iload_n hx hb dX_estimate_113 rfl (lv_at hl 3 rfl) ?_
          refine zz_ci (v := nI (tr_off Ls qq + (Ls qq).length - tr_off Ls qq)) (W.runV (As := [.int (nI qq)]) (rest := [.long (lN ((Ls pp).length))]) ⟨hx, hb, hml, hown, ht⟩ (c_T_sizeOf l D cI cB t0 t1 t2 f g qq (tr_off Ls qq) (tr_off Ls qq + (Ls qq).length) hqq (hT.1 qq (by omega)) (hT.1 (qq + 1) (by omega)) (by omega)) (cwV 1 ht (gd_V wd152 wd153 wd154 wd2 wd155) rfl rfl rfl (by decide +kernel) ⟨Nat.le_of_ble_eq_true rfl, Nat.le_of_ble_eq_true rfl⟩) (zz_R_V hN hK (hP.sub (ws' := [(t0, .inr (0, [.ref t1, .ref t2])), (t1, .inl (cI, 400, .inl f)), (t2, .inl (cI, 9, .inl g))]) [1, 2, 3] rfl) 0 0 rfl rfl) rfl rfl hl.1 rfl (lv_room (Nat.le_of_ble_eq_true rfl)) dX_estimate_114 ⟨Nat.le_of_ble_eq_true rfl, Nat.le_of_ble_eq_true rfl⟩) ?_
          refine zz_top (y := nI ((Ls qq).length)) (congrArg nI (by omega)) ?_
          refine lv_i2l (v := lN ((Ls qq).length)) hx hb dX_estimate_117 (nI_l (n := (Ls qq).length) (by omega)) ?_
          refine lv_ladd hx hb dX_estimate_118 ?_
          refine zz_topl (y := lN (((Ls pp).length) + ((Ls qq).length))) (lN_add ((Ls pp).length) ((Ls qq).length)) ?_
          exact zz_lretW (v := lN (((Ls pp).length) + ((Ls qq).length))) (w1 := fun u : (Nat → Int32) => [(x0, .inr (4, [.ref t0, .ref p0, .ref v0, .ref g0, .ref ta])), (t0, .inr (0, [.ref t1, .ref t2])), (t1, .inl (cI, 400, .inl f)), (t2, .inl (cI, 9, .inl g)), (ta, .inl (cI, 256, .inl u))]) tl hx hb hr hlocks (Or.inr ⟨pp, hpp, epp, Or.inr ⟨c13, Or.inr ⟨qq, hqq, eqq, Or.inr (Or.inr (Or.inr (Or.inl ⟨t40_2, rfl⟩)))⟩⟩⟩) hP hK hD hS dX_estimate_119
        by_cases t40_3 : op = nI 3
        · refine zz_top t40_3 ?_
          refine lv_tableIn (tgt := 127) hx hb dX_estimate_40 (by decide) (by decide) (by first | rfl | decide) (by decide) ?_
          exact absurd t40_3 c13
        by_cases t40_4 : op = nI 4
        · refine zz_top t40_4 ?_
          refine lv_tableIn (tgt := 120) hx hb dX_estimate_40 (by decide) (by decide) (by first | rfl | decide) (by decide) ?_
          refine lv_aload_n hx hb dX_estimate_120 rfl (lv_at hl 0 rfl) ?_
          refine lv_iload_n hx hb dX_estimate_121 rfl (lv_at hl 2 rfl) ?_
          refine lv_iload_n hx hb dX_estimate_122 rfl (lv_at hl 3 rfl) ?_
          refine zz_wl (wc := [(x0, .inr (4, [.ref t0, .ref p0, .ref v0, .ref g0, .ref ta])), (t0, .inr (0, [.ref t1, .ref t2])), (t1, .inl (cI, 400, .inl f)), (t2, .inl (cI, 9, .inl g)), (ta, .inl (cI, 256, .inl tl))]) (wr := []) (va_runV (As := [.int (nI pp), .int (nI qq)]) (rest := []) ⟨hx, hb, hml, hown, ht⟩ (c_X_sampledChainEstimate l D cI cB s.heap.size x0 t0 t1 t2 p0 v0 g0 ta f g Ls hT tl pp qq hpp hqq) (cwV 2 ht (gd_V wd279 wd281 wp14 wd1 wd282) rfl rfl rfl (by decide +kernel) ⟨Nat.le_of_ble_eq_true rfl, Nat.le_of_ble_eq_true rfl⟩) (zz_P_V hN hK (hP.sub (ws' := [(x0, .inr (4, [.ref t0, .ref p0, .ref v0, .ref g0, .ref ta])), (t0, .inr (0, [.ref t1, .ref t2])), (t1, .inl (cI, 400, .inl f)), (t2, .inl (cI, 9, .inl g)), (ta, .inl (cI, 256, .inl tl))]) [0, 1, 2, 3, 4] rfl) (hD.sub (ws' := [(x0, .inr (4, [.ref t0, .ref p0, .ref v0, .ref g0, .ref ta])), (t0, .inr (0, [.ref t1, .ref t2])), (t1, .inl (cI, 400, .inl f)), (t2, .inl (cI, 9, .inl g)), (ta, .inl (cI, 256, .inl tl))]) [0, 1, 2, 3, 4] (by decide) rfl) 4 0 rfl rfl) rfl rfl hl.1 rfl (lv_room (Nat.le_of_ble_eq_true rfl)) dX_estimate_123 ⟨Nat.le_of_ble_eq_true rfl, Nat.le_of_ble_eq_true rfl⟩) hP hD hS hA [0, 1, 2, 3, 4] [] rfl rfl (by decide) (by decide) (fun r123 u123 H locs hq123 hP hD hS => ?_)
          have hP := hP.sub (ws' := [(x0, .inr (4, [.ref t0, .ref p0, .ref v0, .ref g0, .ref ta])), (t0, .inr (0, [.ref t1, .ref t2])), (t1, .inl (cI, 400, .inl f)), (t2, .inl (cI, 9, .inl g)), (ta, .inl (cI, 256, .inl u123))]) [0, 1, 2, 3, 4] rfl
          have hD := hD.sub (ws' := [(x0, .inr (4, [.ref t0, .ref p0, .ref v0, .ref g0, .ref ta])), (t0, .inr (0, [.ref t1, .ref t2])), (t1, .inl (cI, 400, .inl f)), (t2, .inl (cI, 9, .inl g)), (ta, .inl (cI, 256, .inl u123))]) [0, 1, 2, 3, 4] (by decide) rfl
          exact zz_lretW (v := r123) (w1 := fun u : (Nat → Int32) => [(x0, .inr (4, [.ref t0, .ref p0, .ref v0, .ref g0, .ref ta])), (t0, .inr (0, [.ref t1, .ref t2])), (t1, .inl (cI, 400, .inl f)), (t2, .inl (cI, 9, .inl g)), (ta, .inl (cI, 256, .inl u))]) u123 hx hb hr hlocks (Or.inr ⟨pp, hpp, epp, Or.inr ⟨c13, Or.inr ⟨qq, hqq, eqq, Or.inr (Or.inr (Or.inr (Or.inr ⟨t40_4, hq123⟩)))⟩⟩⟩) hP hK hD hS dX_estimate_126
        have hout40 : (op).toInt < 0 ∨ 4 < (op).toInt := zz_tout 0 4 (by decide) (fun k hk1 hk2 q => by
          rcases (show k = 0 ∨ k = 1 ∨ k = 2 ∨ k = 3 ∨ k = 4 by omega) with rfl | rfl | rfl | rfl | rfl
          · exact t40_0 q
          · exact t40_1 q
          · exact t40_2 q
          · exact t40_3 q
          · exact t40_4 q)
        refine lv_tableOut (tgt := 127) hx hb dX_estimate_40 hout40 (by decide) ?_
        refine lv_ldc2 (v := (-1)) hx hb hown (ht _ wd206) dX_estimate_127 ?_
        exact zz_lretW (v := (-1)) (w1 := fun u : (Nat → Int32) => [(x0, .inr (4, [.ref t0, .ref p0, .ref v0, .ref g0, .ref ta])), (t0, .inr (0, [.ref t1, .ref t2])), (t1, .inl (cI, 400, .inl f)), (t2, .inl (cI, 9, .inl g)), (ta, .inl (cI, 256, .inl u))]) tl hx hb hr hlocks (Or.inr ⟨pp, hpp, epp, Or.inr ⟨c13, Or.inr ⟨qq, hqq, eqq, Or.inl ⟨⟨t40_0, t40_1, t40_2, t40_4⟩, rfl⟩⟩⟩⟩) hP hK hD hS dX_estimate_130
      · -- not taken
        have c32 : (inr_ 8 p2).toNat = 0 := (nI_eq (a := (inr_ 8 p2).toNat) (b := 0) (by omega) (by omega)).mp c32
        have hb2 : inr_ 8 p2 = false := bt0 (by omega)
        refine lv_ldc2 (v := (-1)) hx hb hown (ht _ wd206) dX_estimate_35 ?_
        exact zz_lretW (v := (-1)) (w1 := fun u : (Nat → Int32) => [(x0, .inr (4, [.ref t0, .ref p0, .ref v0, .ref g0, .ref ta])), (t0, .inr (0, [.ref t1, .ref t2])), (t1, .inl (cI, 400, .inl f)), (t2, .inl (cI, 9, .inl g)), (ta, .inl (cI, 256, .inl u))]) tl hx hb hr hlocks (Or.inr ⟨pp, hpp, epp, Or.inr ⟨c13, Or.inl ⟨hb2, rfl⟩⟩⟩) hP hK hD hS dX_estimate_38
    · -- not taken
      refine lv_aload_n hx hb dX_estimate_16 rfl (lv_at hl 0 rfl) ?_
      refine va_get (D := D) (ci := 4) (v := .ref t0) (C := "StatRows") (T := TX) (N := 5) hx hb ht inX hown hK hP 0 rfl rfl 0 (by decide) (ht _ wd77) (fun _ h9 => h9) rfl dX_estimate_17 ?_
      refine lv_iload_n hx hb dX_estimate_20 rfl (lv_at hl 2 rfl) ?_
      refine zz_ci (v := nI (tr_off Ls pp + (Ls pp).length - tr_off Ls pp)) (W.runV (As := [.int (nI pp)]) (rest := []) ⟨hx, hb, hml, hown, ht⟩ (c_T_sizeOf l D cI cB t0 t1 t2 f g pp (tr_off Ls pp) (tr_off Ls pp + (Ls pp).length) hpp (hT.1 pp (by omega)) (hT.1 (pp + 1) (by omega)) (by omega)) (cwV 1 ht (gd_V wd152 wd153 wd154 wd2 wd155) rfl rfl rfl (by decide +kernel) ⟨Nat.le_of_ble_eq_true rfl, Nat.le_of_ble_eq_true rfl⟩) (zz_R_V hN hK (hP.sub (ws' := [(t0, .inr (0, [.ref t1, .ref t2])), (t1, .inl (cI, 400, .inl f)), (t2, .inl (cI, 9, .inl g))]) [1, 2, 3] rfl) 0 0 rfl rfl) rfl rfl hl.1 rfl (lv_room (Nat.le_of_ble_eq_true rfl)) dX_estimate_21 ⟨Nat.le_of_ble_eq_true rfl, Nat.le_of_ble_eq_true rfl⟩) ?_
      refine zz_top (y := nI ((Ls pp).length)) (congrArg nI (by omega)) ?_
      refine lv_iconst (v := nI 3) hx hb dX_estimate_24 (by decide) ?_
      refine lv_idiv hx hb dX_estimate_25 (by decide) ?_
      refine zz_top (y := nI (((Ls pp).length) / 3)) (pk_div (a := (Ls pp).length) (d := 3) (by omega) (by omega) (by omega)) ?_
      refine lv_i2l (v := lN (((Ls pp).length) / 3)) hx hb dX_estimate_26 (nI_l (n := ((Ls pp).length) / 3) (by omega)) ?_
      exact zz_lretW (v := lN (((Ls pp).length) / 3)) (w1 := fun u : (Nat → Int32) => [(x0, .inr (4, [.ref t0, .ref p0, .ref v0, .ref g0, .ref ta])), (t0, .inr (0, [.ref t1, .ref t2])), (t1, .inl (cI, 400, .inl f)), (t2, .inl (cI, 9, .inl g)), (ta, .inl (cI, 256, .inl u))]) tl hx hb hr hlocks (Or.inr ⟨pp, hpp, epp, Or.inl ⟨c13, rfl⟩⟩) hP hK hD hS dX_estimate_27
  · -- not taken
    have c4 : (inr_ 8 p1).toNat = 0 := (nI_eq (a := (inr_ 8 p1).toNat) (b := 0) (by omega) (by omega)).mp c4
    have hb1 : inr_ 8 p1 = false := bt0 (by omega)
    refine lv_ldc2 (v := (-1)) hx hb hown (ht _ wd206) dX_estimate_7 ?_
    exact zz_lretW (v := (-1)) (w1 := fun u : (Nat → Int32) => [(x0, .inr (4, [.ref t0, .ref p0, .ref v0, .ref g0, .ref ta])), (t0, .inr (0, [.ref t1, .ref t2])), (t1, .inl (cI, 400, .inl f)), (t2, .inl (cI, 9, .inl g)), (ta, .inl (cI, 256, .inl u))]) tl hx hb hr hlocks (Or.inl ⟨hb1, rfl⟩) hP hK hD hS dX_estimate_10

abbrev rm_X_range : Room := { frames := 2, cells := 0, slots := 0, locals := 57 }
set_option maxHeartbeats 4000000 in
set_option maxRecDepth 100000 in
theorem c_X_range (l : Launch) (D : va_G) (cI cB : ClassId) (x0 t0 t1 t2 p0 v0 g0 ta : Nat) (f g : Nat → Int32) (Ls : Nat → List Nat) (hT : RT Ls f g) (p1 fr to : Int32) : Met l yX_range wX_range rm_X_range (zz_R D vwCl [(cI, .int), (cB, .boolean)] [.ref x0, .int p1, .int fr, .int to] [(x0, .inr (4, [.ref t0, .ref p0, .ref v0, .ref g0, .ref ta])), (t0, .inr (0, [.ref t1, .ref t2])), (t1, .inl (cI, 400, .inl f)), (t2, .inl (cI, 9, .inl g))]) (vp_Si (fun r : Int32 => (inr_ 8 p1 = false ∧ r = -1) ∨ ∃ pp, pp < 8 ∧ p1 = nI pp ∧ r = nI (rgs (Ls pp) fr to 8))) 0 0 (fun _ => False) := by
  refine Met.ofW (cc := cX_range) (maxL := 9) (ret := (some .int)) (by decide) rfl ?_
  intro pg ev s mt args below meth kd s₁ B hml hv
  obtain ⟨rfl, hP, hK, hN⟩ := hv
  have hx := B.exec
  have hb := B.bytes
  have hr := B.returns
  have ht : ∀ w ∈ W0, w.before _ s = true := fun w h => atoms_spec (ws := wX_range) B.pre w (List.mem_cons_of_mem _ h)
  have hown : s.vm.findClass "StatRows" = some mt.cls := findClass_of_methodNamed B.named
  have hlocks := B.notSynchronized
  have hl := lv_entry ([.ref x0, .int p1, .int fr, .int to]) (n := 9) (Nat.le_of_ble_eq_true rfl)
  rw [lg_entry_eq]
  generalize (lg_sl ([.ref x0, .int p1, .int fr, .int to]) ++ List.replicate (9 - (lg_sl ([.ref x0, .int p1, .int fr, .int to])).length) Slot.unset).toArray = ls at hl ⊢
  have hl : lv_has ls 9 [(0, .ref x0), (1, .int p1), (2, .int fr), (3, .int to)] := hl
  have h400 := hT.2.2.1
  have bl0 := btl (inr_ 8 p1)
  refine lv_iload_n hx hb dX_range_0 rfl (lv_at hl 1 rfl) ?_
  refine zz_ci (v := nI ((inr_ 8 p1).toNat)) (W.runS (As := [.int p1]) (rest := []) ⟨hx, hb, hml, hown, ht⟩ (c_X_isPredicate l p1) (va_cwS 1 ht (gd_S wd103 wd104 wd1 wd105) rfl rfl rfl (by decide +kernel) ⟨Nat.le_of_ble_eq_true rfl, Nat.le_of_ble_eq_true rfl⟩) zz_N_S rfl rfl hl.1 rfl (lv_room (Nat.le_of_ble_eq_true rfl)) dX_range_1 ⟨Nat.le_of_ble_eq_true rfl, Nat.le_of_ble_eq_true rfl⟩) ?_
  refine lv_if_ne (tgt := 9) hx hb dX_range_4 (by decide) (fun c4 => ?_) (fun c4 => ?_)
  · -- taken
    have c4 : ¬ ((inr_ 8 p1).toNat = 0) := fun h => c4 ((nI_eq (a := (inr_ 8 p1).toNat) (b := 0) (by omega) (by omega)).mpr h)
    have hb1 : inr_ 8 p1 = true := bt1 c4
    obtain ⟨pp, hpp, epp⟩ := inr_t (by decide) hb1
    rw [epp] at hl
    have htp := tr_top (Ls := Ls) hpp
    refine lv_iconst (v := nI 0) hx hb dX_range_9 (by decide) ?_
    refine lv_istore (lv' := [(4, .int (nI 0)), (0, .ref x0), (1, .int (nI pp)), (2, .int fr), (3, .int to)]) hx hb dX_range_10 hl (by decide) rfl (fun ls hl => ?_)
    refine lv_iconst (v := nI 0) hx hb dX_range_12 (by decide) ?_
    refine lv_istore (lv' := [(5, .int (nI 0)), (4, .int (nI 0)), (0, .ref x0), (1, .int (nI pp)), (2, .int fr), (3, .int to)]) hx hb dX_range_13 hl (by decide) rfl (fun ls hl => ?_)
    have lp15 : ∀ (fu : Nat) (j : Nat) (hj : j ≤ 8) (hm : 8 - j < fu) (ls : Array Slot) (hl : lv_has ls 9 [(0, .ref x0), (1, .int (nI pp)), (2, .int fr), (3, .int to), (4, .int (nI (rgs (Ls pp) fr to j))), (5, .int (nI j))]), W pg l ev (headSpec wX_range rm_X_range).room s mt (([.ref x0, .int p1, .int fr, .int to] : List Value).toArray) below meth kd s.heap [] 0 0 (MQ below (vp_Si (fun r : Int32 => (inr_ 8 p1 = false ∧ r = -1) ∨ ∃ pp, pp < 8 ∧ p1 = nI pp ∧ r = nI (rgs (Ls pp) fr to 8))) (([.ref x0, .int p1, .int fr, .int to] : List Value).toArray) s 0 0 (fun _ => False)) (F0 mt 15 ls []) := by
      intro fu
      induction fu with
      | zero => intro j hj hm; exact absurd hm (Nat.not_lt_zero _)
      | succ fu ih15 =>
        intro j hj hm ls hl
        refine lv_iload hx hb dX_range_15 (lv_at hl 5 rfl) ?_
        refine lv_bipush (v := nI 8) hx hb dX_range_17 (by decide) ?_
        refine lv_icmp_ge (tgt := 75) hx hb dX_range_19 (by decide) (fun c19 => ?_) (fun c19 => ?_)
        · -- taken
          have c19 : 8 ≤ j := (nI_leI (a := 8) (b := j) (by omega) (by omega)).mp c19
          refine lv_iload hx hb dX_range_75 (lv_at hl 4 rfl) ?_
          exact zz_iretR (v := nI (rgs (Ls pp) fr to j)) hx hb hr hlocks (Or.inr ⟨pp, hpp, epp, by rw [show j = 8 by omega]⟩) dX_range_77
        · -- not taken
          have c19 : ¬ (8 ≤ j) := fun h => c19 ((nI_leI (a := 8) (b := j) (by omega) (by omega)).mpr h)
          refine lv_bipush (v := nI 32) hx hb dX_range_22 (by decide) ?_
          refine lv_iload hx hb dX_range_24 (lv_at hl 5 rfl) ?_
          refine lv_imul hx hb dX_range_26 ?_
          refine zz_top (y := nI (32 * j)) (pk_mul 32 j) ?_
          refine lv_istore (lv' := [(6, .int (nI (32 * j))), (0, .ref x0), (1, .int (nI pp)), (2, .int fr), (3, .int to), (4, .int (nI (rgs (Ls pp) fr to j))), (5, .int (nI j))]) hx hb dX_range_27 hl (by decide) rfl (fun ls hl => ?_)
          refine lv_iload hx hb dX_range_29 (lv_at hl 0 rfl) ?_
          refine lv_bipush (v := nI 32) hx hb dX_range_31 (by decide) ?_
          refine lv_iadd hx hb dX_range_33 ?_
          refine zz_top (y := nI ((32 * j) + 32)) (nI_add (32 * j) 32) ?_
          refine lv_iconst (v := nI 1) hx hb dX_range_34 (by decide) ?_
          refine lv_isub hx hb dX_range_35 ?_
          refine zz_top (y := nI (((32 * j) + 32) - 1)) (pk_sub (a := (32 * j) + 32) (b := 1) (by omega)) ?_
          refine zz_top (y := nI (32 * j + 31)) (congrArg nI (by omega)) ?_
          refine lv_istore (lv' := [(7, .int (nI (32 * j + 31))), (6, .int (nI (32 * j))), (0, .ref x0), (1, .int (nI pp)), (2, .int fr), (3, .int to), (4, .int (nI (rgs (Ls pp) fr to j))), (5, .int (nI j))]) hx hb dX_range_36 hl (by decide) rfl (fun ls hl => ?_)
          refine lv_aload_n hx hb dX_range_38 rfl (lv_at hl 2 rfl) ?_
          refine lv_iload_n hx hb dX_range_39 rfl (lv_at hl 3 rfl) ?_
          refine lv_iload hx hb dX_range_40 (lv_at hl 1 rfl) ?_
          refine lv_iload hx hb dX_range_42 (lv_at hl 0 rfl) ?_
          refine zz_ci (v := nI ((Ls pp).countP (fun c => btw (nI (32 * j)) (nI (32 * j + 31)) (obj_ c)))) (W.runV (As := [.int (nI pp), .int (nI (32 * j)), .int (nI (32 * j + 31))]) (rest := []) ⟨hx, hb, hml, hown, ht⟩ (c_X_withObjectBetween l D cI cB x0 t0 t1 t2 p0 v0 g0 ta f g Ls hT pp hpp (nI (32 * j)) (nI (32 * j + 31))) (cwV 3 ht (gd_V wd219 wd221 wp10 wd1 wd222) rfl rfl rfl (by decide +kernel) ⟨Nat.le_of_ble_eq_true rfl, Nat.le_of_ble_eq_true rfl⟩) (zz_R_V hN hK (hP.sub (ws' := [(x0, .inr (4, [.ref t0, .ref p0, .ref v0, .ref g0, .ref ta])), (t0, .inr (0, [.ref t1, .ref t2])), (t1, .inl (cI, 400, .inl f)), (t2, .inl (cI, 9, .inl g))]) [0, 1, 2, 3] rfl) 4 0 rfl rfl) rfl rfl hl.1 rfl (lv_room (Nat.le_of_ble_eq_true rfl)) dX_range_44 ⟨Nat.le_of_ble_eq_true rfl, Nat.le_of_ble_eq_true rfl⟩) ?_
          refine lv_istore (lv' := [(8, .int (nI ((Ls pp).countP (fun c => btw (nI (32 * j)) (nI (32 * j + 31)) (obj_ c))))), (7, .int (nI (32 * j + 31))), (6, .int (nI (32 * j))), (0, .ref x0), (1, .int (nI pp)), (2, .int fr), (3, .int to), (4, .int (nI (rgs (Ls pp) fr to j))), (5, .int (nI j))]) hx hb dX_range_47 hl (by decide) rfl (fun ls hl => ?_)
          refine lv_iload hx hb dX_range_49 (lv_at hl 7 rfl) ?_
          refine lv_iload hx hb dX_range_51 (lv_at hl 0 rfl) ?_
          refine lv_iload hx hb dX_range_53 (lv_at hl 2 rfl) ?_
          refine lv_iload hx hb dX_range_55 (lv_at hl 1 rfl) ?_
          refine lv_iload_n hx hb dX_range_57 rfl (lv_at hl 5 rfl) ?_
          refine lv_iload_n hx hb dX_range_58 rfl (lv_at hl 6 rfl) ?_
          refine zz_ci (v := nI (many (32 * j) fr to)) (W.runS (As := [.int (nI (32 * j)), .int (nI (32 * j + 31)), .int fr, .int to]) (rest := [.int (nI ((Ls pp).countP (fun c => btw (nI (32 * j)) (nI (32 * j + 31)) (obj_ c)))), .int (nI (rgs (Ls pp) fr to j))]) ⟨hx, hb, hml, hown, ht⟩ (c_X_shared l (32 * j) (by omega) fr to) (va_cwS 4 ht (gd_S wd288 wd289 wd1 wd290) rfl rfl rfl (by decide +kernel) ⟨Nat.le_of_ble_eq_true rfl, Nat.le_of_ble_eq_true rfl⟩) zz_N_S rfl rfl hl.1 rfl (lv_room (Nat.le_of_ble_eq_true rfl)) dX_range_59 ⟨Nat.le_of_ble_eq_true rfl, Nat.le_of_ble_eq_true rfl⟩) ?_
          refine lv_imul hx hb dX_range_62 ?_
          refine zz_top (y := nI (((Ls pp).countP (fun c => btw (nI (32 * j)) (nI (32 * j + 31)) (obj_ c))) * (many (32 * j) fr to))) (pk_mul ((Ls pp).countP (fun c => btw (nI (32 * j)) (nI (32 * j + 31)) (obj_ c))) (many (32 * j) fr to)) ?_
          have hmm : (Ls pp).countP (fun c => btw (nI (32 * j)) (nI (32 * j + 31)) (obj_ c)) * many (32 * j) fr to ≤ 400 * 32 := Nat.mul_le_mul (Nat.le_trans List.countP_le_length (by omega)) (many_le _ _ _)
          refine lv_bipush (v := nI 32) hx hb dX_range_63 (by decide) ?_
          refine lv_idiv hx hb dX_range_65 (by decide) ?_
          refine zz_top (y := nI ((((Ls pp).countP (fun c => btw (nI (32 * j)) (nI (32 * j + 31)) (obj_ c))) * (many (32 * j) fr to)) / 32)) (pk_div (a := ((Ls pp).countP (fun c => btw (nI (32 * j)) (nI (32 * j + 31)) (obj_ c))) * (many (32 * j) fr to)) (d := 32) (by omega) (by omega) (by omega)) ?_
          refine lv_iadd hx hb dX_range_66 ?_
          refine zz_top (y := nI ((rgs (Ls pp) fr to j) + ((((Ls pp).countP (fun c => btw (nI (32 * j)) (nI (32 * j + 31)) (obj_ c))) * (many (32 * j) fr to)) / 32))) (nI_add (rgs (Ls pp) fr to j) ((((Ls pp).countP (fun c => btw (nI (32 * j)) (nI (32 * j + 31)) (obj_ c))) * (many (32 * j) fr to)) / 32)) ?_
          refine lv_istore (lv' := [(4, .int (nI ((rgs (Ls pp) fr to j) + ((((Ls pp).countP (fun c => btw (nI (32 * j)) (nI (32 * j + 31)) (obj_ c))) * (many (32 * j) fr to)) / 32)))), (8, .int (nI ((Ls pp).countP (fun c => btw (nI (32 * j)) (nI (32 * j + 31)) (obj_ c))))), (7, .int (nI (32 * j + 31))), (6, .int (nI (32 * j))), (0, .ref x0), (1, .int (nI pp)), (2, .int fr), (3, .int to), (5, .int (nI j))]) hx hb dX_range_67 hl (by decide) rfl (fun ls hl => ?_)
          refine lv_iinc (v := nI (j + 1)) (lv' := [(5, .int (nI (j + 1))), (4, .int (nI ((rgs (Ls pp) fr to j) + ((((Ls pp).countP (fun c => btw (nI (32 * j)) (nI (32 * j + 31)) (obj_ c))) * (many (32 * j) fr to)) / 32)))), (8, .int (nI ((Ls pp).countP (fun c => btw (nI (32 * j)) (nI (32 * j + 31)) (obj_ c))))), (7, .int (nI (32 * j + 31))), (6, .int (nI (32 * j))), (0, .ref x0), (1, .int (nI pp)), (2, .int fr), (3, .int to)]) hx hb dX_range_69 hl (k := 8) rfl (nI_1 j) (by decide) rfl (fun ls hl => ?_)
          refine lv_goto (tgt := 15) hx hb dX_range_72 (by decide) ?_
          exact ih15 (j + 1) (by omega) (by omega) ls (lv_sub hl [5, 6, 7, 8, 1, 0] rfl)
    exact lp15 ((8 - 0) + 1) 0 (Nat.zero_le _) (Nat.lt_succ_self _) ls (lv_sub hl [2, 3, 4, 5, 1, 0] rfl)
  · -- not taken
    have c4 : (inr_ 8 p1).toNat = 0 := (nI_eq (a := (inr_ 8 p1).toNat) (b := 0) (by omega) (by omega)).mp c4
    have hb1 : inr_ 8 p1 = false := bt0 (by omega)
    refine lv_iconst (v := (-1)) hx hb dX_range_7 (by decide) ?_
    exact zz_iretR (v := (-1)) hx hb hr hlocks (Or.inl ⟨hb1, rfl⟩) dX_range_8

abbrev rm_X_sample : Room := { frames := 2, cells := 0, slots := 0, locals := 42 }
set_option maxHeartbeats 4000000 in
set_option maxRecDepth 100000 in
theorem c_X_sample (l : Launch) (D : va_G) (cI cB : ClassId) (x0 t0 t1 t2 p0 v0 g0 ta : Nat) (f g : Nat → Int32) (Ls : Nat → List Nat) (hT : RT Ls f g) (p1 i1 : Int32) : Met l yX_sample wX_sample rm_X_sample (zz_R D vwCl [(cI, .int), (cB, .boolean)] [.ref x0, .int p1, .int i1] [(x0, .inr (4, [.ref t0, .ref p0, .ref v0, .ref g0, .ref ta])), (t0, .inr (0, [.ref t1, .ref t2])), (t1, .inl (cI, 400, .inl f)), (t2, .inl (cI, 9, .inl g))]) (vp_Si (fun r : Int32 => (inr_ 8 p1 = false ∧ r = -1) ∨ ∃ pp, pp < 8 ∧ p1 = nI pp ∧ ((∃ ii, ii < ((Ls pp).filter smp).length ∧ i1 = nI ii ∧ r = nI (((Ls pp).filter smp).getD ii 0)) ∨ ((∀ ii, ii < ((Ls pp).filter smp).length → i1 ≠ nI ii) ∧ r = -2)))) 0 0 (fun _ => False) := by
  refine Met.ofW (cc := cX_sample) (maxL := 6) (ret := (some .int)) (by decide) rfl ?_
  intro pg ev s mt args below meth kd s₁ B hml hv
  obtain ⟨rfl, hP, hK, hN⟩ := hv
  have hx := B.exec
  have hb := B.bytes
  have hr := B.returns
  have ht : ∀ w ∈ W0, w.before _ s = true := fun w h => atoms_spec (ws := wX_sample) B.pre w (List.mem_cons_of_mem _ h)
  have hown : s.vm.findClass "StatRows" = some mt.cls := findClass_of_methodNamed B.named
  have hlocks := B.notSynchronized
  have hl := lv_entry ([.ref x0, .int p1, .int i1]) (n := 6) (Nat.le_of_ble_eq_true rfl)
  rw [lg_entry_eq]
  generalize (lg_sl ([.ref x0, .int p1, .int i1]) ++ List.replicate (6 - (lg_sl ([.ref x0, .int p1, .int i1])).length) Slot.unset).toArray = ls at hl ⊢
  have hl : lv_has ls 6 [(0, .ref x0), (1, .int p1), (2, .int i1)] := hl
  have h400 := hT.2.2.1
  have bl0 := btl (inr_ 8 p1)
  refine lv_iload_n hx hb dX_sample_0 rfl (lv_at hl 1 rfl) ?_
  refine zz_ci (v := nI ((inr_ 8 p1).toNat)) (W.runS (As := [.int p1]) (rest := []) ⟨hx, hb, hml, hown, ht⟩ (c_X_isPredicate l p1) (va_cwS 1 ht (gd_S wd103 wd104 wd1 wd105) rfl rfl rfl (by decide +kernel) ⟨Nat.le_of_ble_eq_true rfl, Nat.le_of_ble_eq_true rfl⟩) zz_N_S rfl rfl hl.1 rfl (lv_room (Nat.le_of_ble_eq_true rfl)) dX_sample_1 ⟨Nat.le_of_ble_eq_true rfl, Nat.le_of_ble_eq_true rfl⟩) ?_
  refine lv_if_ne (tgt := 9) hx hb dX_sample_4 (by decide) (fun c4 => ?_) (fun c4 => ?_)
  · -- taken
    have c4 : ¬ ((inr_ 8 p1).toNat = 0) := fun h => c4 ((nI_eq (a := (inr_ 8 p1).toNat) (b := 0) (by omega) (by omega)).mpr h)
    have hb1 : inr_ 8 p1 = true := bt1 c4
    obtain ⟨pp, hpp, epp⟩ := inr_t (by decide) hb1
    rw [epp] at hl
    have htp := tr_top (Ls := Ls) hpp
    refine lv_aload_n hx hb dX_sample_9 rfl (lv_at hl 0 rfl) ?_
    refine va_get (D := D) (ci := 4) (v := .ref t0) (C := "StatRows") (T := TX) (N := 5) hx hb ht inX hown hK hP 0 rfl rfl 0 (by decide) (ht _ wd77) (fun _ h9 => h9) rfl dX_sample_10 ?_
    refine lv_iload_n hx hb dX_sample_13 rfl (lv_at hl 1 rfl) ?_
    refine zz_ci (v := nI (tr_off Ls pp + (Ls pp).length)) (W.runV (As := [.int (nI pp)]) (rest := []) ⟨hx, hb, hml, hown, ht⟩ (c_T_end l D cI cB t0 t1 t2 f g pp (tr_off Ls pp + (Ls pp).length) hpp (hT.1 (pp + 1) (by omega))) (cwV 1 ht (gd_V wd171 wd118 wd119 wd2 wd120) rfl rfl rfl (by decide +kernel) ⟨Nat.le_of_ble_eq_true rfl, Nat.le_of_ble_eq_true rfl⟩) (zz_R_V hN hK (hP.sub (ws' := [(t0, .inr (0, [.ref t1, .ref t2])), (t1, .inl (cI, 400, .inl f)), (t2, .inl (cI, 9, .inl g))]) [1, 2, 3] rfl) 0 0 rfl rfl) rfl rfl hl.1 rfl (lv_room (Nat.le_of_ble_eq_true rfl)) dX_sample_14 ⟨Nat.le_of_ble_eq_true rfl, Nat.le_of_ble_eq_true rfl⟩) ?_
    refine lv_istore_n (lv' := [(3, .int (nI (tr_off Ls pp + (Ls pp).length))), (0, .ref x0), (1, .int (nI pp)), (2, .int i1)]) hx hb dX_sample_17 rfl hl (by decide) rfl (fun ls hl => ?_)
    refine lv_iconst (v := nI 0) hx hb dX_sample_18 (by decide) ?_
    refine lv_istore (lv' := [(4, .int (nI 0)), (3, .int (nI (tr_off Ls pp + (Ls pp).length))), (0, .ref x0), (1, .int (nI pp)), (2, .int i1)]) hx hb dX_sample_19 hl (by decide) rfl (fun ls hl => ?_)
    refine lv_aload_n hx hb dX_sample_21 rfl (lv_at hl 2 rfl) ?_
    refine va_get (D := D) (ci := 4) (v := .ref t0) (C := "StatRows") (T := TX) (N := 5) hx hb ht inX hown hK hP 0 rfl rfl 0 (by decide) (ht _ wd77) (fun _ h9 => h9) rfl dX_sample_22 ?_
    refine lv_iload_n hx hb dX_sample_25 rfl (lv_at hl 3 rfl) ?_
    refine zz_ci (v := nI (tr_off Ls pp + 0)) (W.runV (As := [.int (nI pp)]) (rest := []) ⟨hx, hb, hml, hown, ht⟩ (c_T_start l D cI cB t0 t1 t2 f g pp (tr_off Ls pp) (by omega) (hT.1 pp (by omega))) (cwV 1 ht (gd_V wd172 wd122 wd123 wd2 wd124) rfl rfl rfl (by decide +kernel) ⟨Nat.le_of_ble_eq_true rfl, Nat.le_of_ble_eq_true rfl⟩) (zz_R_V hN hK (hP.sub (ws' := [(t0, .inr (0, [.ref t1, .ref t2])), (t1, .inl (cI, 400, .inl f)), (t2, .inl (cI, 9, .inl g))]) [1, 2, 3] rfl) 0 0 rfl rfl) rfl rfl hl.1 rfl (lv_room (Nat.le_of_ble_eq_true rfl)) dX_sample_26 ⟨Nat.le_of_ble_eq_true rfl, Nat.le_of_ble_eq_true rfl⟩) ?_
    refine lv_istore (lv' := [(5, .int (nI (tr_off Ls pp + 0))), (4, .int (nI 0)), (3, .int (nI (tr_off Ls pp + (Ls pp).length))), (0, .ref x0), (1, .int (nI pp)), (2, .int i1)]) hx hb dX_sample_29 hl (by decide) rfl (fun ls hl => ?_)
    have lp31 : ∀ (fu : Nat) (i : Nat) (hi : i ≤ (Ls pp).length) (hne : ∀ j, j < (((Ls pp).take i).filter smp).length → i1 ≠ nI j) (hm : (Ls pp).length - i < fu) (ls : Array Slot) (hl : lv_has ls 6 [(0, .ref x0), (1, .int (nI pp)), (2, .int i1), (3, .int (nI (tr_off Ls pp + (Ls pp).length))), (4, .int (nI ((((Ls pp).take i).filter smp).length))), (5, .int (nI (tr_off Ls pp + i)))]), W pg l ev (headSpec wX_sample rm_X_sample).room s mt (([.ref x0, .int p1, .int i1] : List Value).toArray) below meth kd s.heap [] 0 0 (MQ below (vp_Si (fun r : Int32 => (inr_ 8 p1 = false ∧ r = -1) ∨ ∃ pp, pp < 8 ∧ p1 = nI pp ∧ ((∃ ii, ii < ((Ls pp).filter smp).length ∧ i1 = nI ii ∧ r = nI (((Ls pp).filter smp).getD ii 0)) ∨ ((∀ ii, ii < ((Ls pp).filter smp).length → i1 ≠ nI ii) ∧ r = -2)))) (([.ref x0, .int p1, .int i1] : List Value).toArray) s 0 0 (fun _ => False)) (F0 mt 31 ls []) := by
      intro fu
      induction fu with
      | zero => intro i hi hne hm; exact absurd hm (Nat.not_lt_zero _)
      | succ fu ih31 =>
        intro i hi hne hm ls hl
        refine lv_iload hx hb dX_sample_31 (lv_at hl 5 rfl) ?_
        refine lv_iload_n hx hb dX_sample_33 rfl (lv_at hl 3 rfl) ?_
        refine lv_icmp_ge (tgt := 74) hx hb dX_sample_34 (by decide) (fun c34 => ?_) (fun c34 => ?_)
        · -- taken
          have c34 : tr_off Ls pp + (Ls pp).length ≤ tr_off Ls pp + i := (nI_leI (a := tr_off Ls pp + (Ls pp).length) (b := tr_off Ls pp + i) (by omega) (by omega)).mp c34
          refine lv_bipush (v := (-2)) hx hb dX_sample_74 (by decide) ?_
          exact zz_iretR (v := (-2)) hx hb hr hlocks (Or.inr ⟨pp, hpp, epp, Or.inr ⟨by
            rw [tkl _ i (by omega)] at hne
            exact hne, rfl⟩⟩) dX_sample_76
        · -- not taken
          have c34 : ¬ (tr_off Ls pp + (Ls pp).length ≤ tr_off Ls pp + i) := fun h => c34 ((nI_leI (a := tr_off Ls pp + (Ls pp).length) (b := tr_off Ls pp + i) (by omega) (by omega)).mpr h)
          have hsb := btl (smp ((Ls pp).getD i 0))
          refine lv_aload_n hx hb dX_sample_37 rfl (lv_at hl 0 rfl) ?_
          refine va_get (D := D) (ci := 4) (v := .ref t0) (C := "StatRows") (T := TX) (N := 5) hx hb ht inX hown hK hP 0 rfl rfl 0 (by decide) (ht _ wd77) (fun _ h9 => h9) rfl dX_sample_38 ?_
          refine lv_iload hx hb dX_sample_41 (lv_at hl 5 rfl) ?_
          refine zz_ci (v := nI ((smp ((Ls pp).getD i 0)).toNat)) (W.runV (As := [.int (nI (tr_off Ls pp + i))]) (rest := []) ⟨hx, hb, hml, hown, ht⟩ (c_T_isSampled l D cI cB t0 t1 t2 f g (tr_off Ls pp + i) ((Ls pp).getD i 0) (by omega) (hT.2.1 pp hpp i (by omega))) (cwV 1 ht (gd_V wd189 wd190 wd191 wd2 wd192) rfl rfl rfl (by decide +kernel) ⟨Nat.le_of_ble_eq_true rfl, Nat.le_of_ble_eq_true rfl⟩) (zz_R_V hN hK (hP.sub (ws' := [(t0, .inr (0, [.ref t1, .ref t2])), (t1, .inl (cI, 400, .inl f)), (t2, .inl (cI, 9, .inl g))]) [1, 2, 3] rfl) 0 0 rfl rfl) rfl rfl hl.1 rfl (lv_room (Nat.le_of_ble_eq_true rfl)) dX_sample_43 ⟨Nat.le_of_ble_eq_true rfl, Nat.le_of_ble_eq_true rfl⟩) ?_
          refine lv_if_eq (tgt := 68) hx hb dX_sample_46 (by decide) (fun c46 => ?_) (fun c46 => ?_)
          · -- taken
            have c46 : (smp ((Ls pp).getD i 0)).toNat = 0 := (nI_eq (a := (smp ((Ls pp).getD i 0)).toNat) (b := 0) (by omega) (by omega)).mp c46
            have ez : ((Ls pp).take i).filter smp = ((Ls pp).take (i + 1)).filter smp := by
              rw [tk1 _ i 0 (by omega), List.filter_append, List.filter_cons_of_neg (by rw [bt0 c46]; decide)]; simp
            rw [ez] at hl
            have hne2 := hne
            rw [ez] at hne2
            refine lv_iinc (v := nI (tr_off Ls pp + i + 1)) (lv' := [(5, .int (nI (tr_off Ls pp + i + 1))), (0, .ref x0), (1, .int (nI pp)), (2, .int i1), (3, .int (nI (tr_off Ls pp + (Ls pp).length))), (4, .int (nI ((((Ls pp).take (i + 1)).filter smp).length)))]) hx hb dX_sample_68 hl (k := 5) rfl (nI_1 (tr_off Ls pp + i)) (by decide) rfl (fun ls hl => ?_)
            refine lv_goto (tgt := 31) hx hb dX_sample_71 (by decide) ?_
            exact ih31 (i + 1) (by omega) hne2 (by omega) ls (lv_sub hl [1, 2, 3, 4, 5, 0] rfl)
          · -- not taken
            have c46 : ¬ ((smp ((Ls pp).getD i 0)).toNat = 0) := fun h => c46 ((nI_eq (a := (smp ((Ls pp).getD i 0)).toNat) (b := 0) (by omega) (by omega)).mpr h)
            have hsm := bt1 c46
            have hfa := flt_at smp (Ls pp) i (by omega) hsm
            refine lv_iload hx hb dX_sample_49 (lv_at hl 4 rfl) ?_
            refine lv_iload_n hx hb dX_sample_51 rfl (lv_at hl 2 rfl) ?_
            refine lv_icmp_ne (tgt := 65) hx hb dX_sample_52 (by decide) (fun c52 => ?_) (fun c52 => ?_)
            · -- taken
              refine lv_iinc (v := nI ((((Ls pp).take i).filter smp).length + 1)) (lv' := [(4, .int (nI ((((Ls pp).take i).filter smp).length + 1))), (0, .ref x0), (1, .int (nI pp)), (2, .int i1), (3, .int (nI (tr_off Ls pp + (Ls pp).length))), (5, .int (nI (tr_off Ls pp + i)))]) hx hb dX_sample_65 hl (k := 4) rfl (nI_1 ((((Ls pp).take i).filter smp).length)) (by decide) rfl (fun ls hl => ?_)
              have ez : (((Ls pp).take i).filter smp).length + 1 = (((Ls pp).take (i + 1)).filter smp).length := by
                rw [tk1 _ i 0 (by omega), List.filter_append, List.filter_cons_of_pos hsm]; simp
              rw [ez] at hl
              have hne2 : ∀ j, j < (((Ls pp).take (i + 1)).filter smp).length → i1 ≠ nI j := fun j h => by
                by_cases q : j = (((Ls pp).take i).filter smp).length
                · rw [q]; exact fun z => c52 z.symm
                · exact hne j (by omega)
              refine lv_iinc (v := nI (tr_off Ls pp + i + 1)) (lv' := [(5, .int (nI (tr_off Ls pp + i + 1))), (4, .int (nI ((((Ls pp).take (i + 1)).filter smp).length))), (0, .ref x0), (1, .int (nI pp)), (2, .int i1), (3, .int (nI (tr_off Ls pp + (Ls pp).length)))]) hx hb dX_sample_68 hl (k := 5) rfl (nI_1 (tr_off Ls pp + i)) (by decide) rfl (fun ls hl => ?_)
              refine lv_goto (tgt := 31) hx hb dX_sample_71 (by decide) ?_
              exact ih31 (i + 1) (by omega) hne2 (by omega) ls (lv_sub hl [2, 3, 4, 5, 1, 0] rfl)
            · -- not taken
              refine lv_aload_n hx hb dX_sample_55 rfl (lv_at hl 0 rfl) ?_
              refine va_get (D := D) (ci := 4) (v := .ref t0) (C := "StatRows") (T := TX) (N := 5) hx hb ht inX hown hK hP 0 rfl rfl 0 (by decide) (ht _ wd77) (fun _ h9 => h9) rfl dX_sample_56 ?_
              refine lv_iload hx hb dX_sample_59 (lv_at hl 5 rfl) ?_
              refine zz_ci (v := nI ((Ls pp).getD i 0)) (W.runV (As := [.int (nI (tr_off Ls pp + i))]) (rest := []) ⟨hx, hb, hml, hown, ht⟩ (c_T_pairAt l D cI cB t0 t1 t2 f g (tr_off Ls pp + i) ((Ls pp).getD i 0) (by omega) (hT.2.1 pp hpp i (by omega))) (cwV 1 ht (gd_V wd298 wd299 wd300 wd2 wd301) rfl rfl rfl (by decide +kernel) ⟨Nat.le_of_ble_eq_true rfl, Nat.le_of_ble_eq_true rfl⟩) (zz_R_V hN hK (hP.sub (ws' := [(t0, .inr (0, [.ref t1, .ref t2])), (t1, .inl (cI, 400, .inl f)), (t2, .inl (cI, 9, .inl g))]) [1, 2, 3] rfl) 0 0 rfl rfl) rfl rfl hl.1 rfl (lv_room (Nat.le_of_ble_eq_true rfl)) dX_sample_61 ⟨Nat.le_of_ble_eq_true rfl, Nat.le_of_ble_eq_true rfl⟩) ?_
              exact zz_iretR (v := nI ((Ls pp).getD i 0)) hx hb hr hlocks (Or.inr ⟨pp, hpp, epp, Or.inl ⟨_, hfa.1, c52.symm, by rw [hfa.2]⟩⟩) dX_sample_64
    exact lp31 (((Ls pp).length - 0) + 1) 0 (Nat.zero_le _) (fun j h => absurd h (Nat.not_lt_zero _)) (Nat.lt_succ_self _) ls (lv_sub hl [3, 4, 5, 2, 1, 0] rfl)
  · -- not taken
    have c4 : (inr_ 8 p1).toNat = 0 := (nI_eq (a := (inr_ 8 p1).toNat) (b := 0) (by omega) (by omega)).mp c4
    have hb1 : inr_ 8 p1 = false := bt0 (by omega)
    refine lv_iconst (v := (-1)) hx hb dX_sample_7 (by decide) ?_
    exact zz_iretR (v := (-1)) hx hb hr hlocks (Or.inl ⟨hb1, rfl⟩) dX_sample_8
