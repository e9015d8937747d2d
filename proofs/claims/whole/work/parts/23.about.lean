abbrev rm_G_about : Room := { frames := 0, cells := 0, slots := 0, locals := 0 }
set_option maxHeartbeats 4000000 in
set_option maxRecDepth 100000 in
theorem c_G_about (l : Launch) (D : va_G) (cI cB : ClassId) (q0 q1 : Nat) (rk : Nat → Int32) (Rn : Nat → Nat) (hR : ∀ i, i < 16 → rk i = nI (Rn i)) (hR2 : ∀ i, i < 16 → Rn i ≤ 29) : Met l yG_about wG_about rm_G_about (zz_RZ D vwCl [(cI, .int), (cB, .boolean)] [.ref q0] [(q0, .inr (3, [.ref q1])), (q1, .inl (cI, 16, .inl rk))]) (vp_Sl (fun r : Int64 => r = lN (abt Rn))) 0 0 (fun _ => False) := by
  refine Met.ofW (cc := cG_about) (maxL := 5) (ret := (some .long)) (by decide) rfl ?_
  intro pg ev s mt args below meth kd s₁ B hml hv
  obtain ⟨⟨rfl, hP, hK, hN⟩, hZ⟩ := hv
  have hx := B.exec
  have hb := B.bytes
  have hr := B.returns
  have ht : ∀ w ∈ W0, w.before _ s = true := fun w h => atoms_spec (ws := wG_about) B.pre w (List.mem_cons_of_mem _ h)
  have hown : s.vm.findClass "StatRows$RegisterRow" = some mt.cls := findClass_of_methodNamed B.named
  have hlocks := B.notSynchronized
  have hl := lv_entry ([.ref q0]) (n := 5) (Nat.le_of_ble_eq_true rfl)
  rw [lg_entry_eq]
  generalize (lg_sl ([.ref q0]) ++ List.replicate (5 - (lg_sl ([.ref q0])).length) Slot.unset).toArray = ls at hl ⊢
  have hl : lv_has ls 5 [(0, .ref q0)] := hl
  have hf44 := few_lt (zer Rn 16)
  have hs16 := smr_le Rn 16
  refine lv_iconst (v := nI 0) hx hb dG_about_0 (by decide) ?_
  refine lv_istore_n (lv' := [(1, .int (nI 0)), (0, .ref q0)]) hx hb dG_about_1 rfl hl (by decide) rfl (fun ls hl => ?_)
  refine lv_lconst (v := lN 0) hx hb dG_about_2 rfl ?_
  refine lv_lstore_n (lv' := [(2, .long (lN 0)), (1, .int (nI 0)), (0, .ref q0)]) hx hb dG_about_3 rfl hl (by decide) rfl (fun ls hl => ?_)
  refine lv_iconst (v := nI 0) hx hb dG_about_4 (by decide) ?_
  refine lv_istore (lv' := [(4, .int (nI 0)), (2, .long (lN 0)), (1, .int (nI 0)), (0, .ref q0)]) hx hb dG_about_5 hl (by decide) rfl (fun ls hl => ?_)
  have lp7 : ∀ (fu : Nat) (i : Nat) (hi : i ≤ 16) (hm : 16 - i < fu) (ls : Array Slot) (hl : lv_has ls 5 [(0, .ref q0), (1, .int (nI (zer Rn i))), (2, .long (lN (smr Rn i))), (4, .int (nI i))]), W pg l ev (headSpec wG_about rm_G_about).room s mt (([.ref q0] : List Value).toArray) below meth kd s.heap [] 0 0 (MQ below (vp_Sl (fun r : Int64 => r = lN (abt Rn))) (([.ref q0] : List Value).toArray) s 0 0 (fun _ => False)) (F0 mt 7 ls []) := by
    intro fu
    induction fu with
    | zero => intro i hi hm; exact absurd hm (Nat.not_lt_zero _)
    | succ fu ih7 =>
      intro i hi hm ls hl
      have hzl := zer_le Rn i
      refine lv_iload hx hb dG_about_7 (lv_at hl 3 rfl) ?_
      refine lv_bipush (v := nI 16) hx hb dG_about_9 (by decide) ?_
      refine lv_icmp_ge (tgt := 48) hx hb dG_about_11 (by decide) (fun c11 => ?_) (fun c11 => ?_)
      · -- taken
        have c11 : 16 ≤ i := (nI_leI (a := 16) (b := i) (by omega) (by omega)).mp c11
        have e16 : i = 16 := by omega
        subst e16
        refine lv_iload_n hx hb dG_about_48 rfl (lv_at hl 1 rfl) ?_
        refine lv_if_le (tgt := 59) hx hb dG_about_49 (by decide) (fun c49 => ?_) (fun c49 => ?_)
        · -- taken
          have c49 : zer Rn 16 ≤ 0 := (nI_leI (a := zer Rn 16) (b := 0) (by omega) (by omega)).mp c49
          refine lv_ldc2 (v := 184992831373312) hx hb hown (ht _ wd268) dG_about_59 ?_
          refine zz_topl (y := lN 184992831373312) (rfl) ?_
          refine lv_ldc2 (v := 1000) hx hb hown (ht _ wd269) dG_about_62 ?_
          refine zz_topl (y := lN 1000) (rfl) ?_
          refine lv_lload_n hx hb dG_about_65 rfl (lv_at hl 2 rfl) ?_
          refine lv_lmul hx hb dG_about_66 ?_
          refine zz_topl (y := lN (1000 * (smr Rn 16))) (lN_mul 1000 (smr Rn 16)) ?_
          refine lv_ldiv hx hb dG_about_67 (zz_lne0 (by omega) (by omega)) ?_
          refine zz_topl (y := lN (184992831373312 / (1000 * (smr Rn 16)))) (pk_lDiv (a := 184992831373312) (b := 1000 * (smr Rn 16)) (by omega) (by omega) (by omega)) ?_
          exact zz_lretR (v := lN (184992831373312 / (1000 * (smr Rn 16)))) hx hb hr hlocks (by unfold abt; rw [if_neg (by omega)]) dG_about_68
        · -- not taken
          have c49 : ¬ (zer Rn 16 ≤ 0) := fun h => c49 ((nI_leI (a := zer Rn 16) (b := 0) (by omega) (by omega)).mpr h)
          obtain ⟨tz, hz1, hz2⟩ := hZ
          refine va_gets (A := fun _ => False) hx hb hz1 va_S.rf hown (ht _ wd266) (fun _ h => h) dG_about_52 ?_
          refine lv_iload_n hx hb dG_about_55 rfl (lv_at hl 1 rfl) ?_
          refine va_ti (v := .int (nI (few (zer Rn 16)))) hx hb hz2 va_S.rf (vp_in_nI (by omega) (by decide)) (by rw [nI_clamp (by omega)]) dG_about_56 ?_
          refine lv_i2l (v := lN (few (zer Rn 16))) hx hb dG_about_57 (nI_l (n := few (zer Rn 16)) (by omega)) ?_
          exact zz_lretR (v := lN (few (zer Rn 16))) hx hb hr hlocks (by unfold abt; rw [if_pos (by omega)]) dG_about_58
      · -- not taken
        have c11 : ¬ (16 ≤ i) := fun h => c11 ((nI_leI (a := 16) (b := i) (by omega) (by omega)).mpr h)
        refine lv_aload_n hx hb dG_about_14 rfl (lv_at hl 0 rfl) ?_
        refine va_get (D := D) (ci := 3) (v := .ref q1) (C := "StatRows$RegisterRow") (T := TG) (N := 1) hx hb ht inG hown hK hP 0 rfl rfl 0 (by decide) (ht _ wd73) (fun _ h9 => h9) rfl dG_about_15 ?_
        refine lv_iload hx hb dG_about_18 (lv_at hl 3 rfl) ?_
        refine zz_iald (k := i) hx hb hK hP 1 0 rfl rfl (by omega) (by decide) dG_about_20 ?_
        refine zz_top (y := nI (Rn i)) (hR i (by omega)) ?_
        have hRi := hR2 i (by omega)
        refine lv_if_ne (tgt := 27) hx hb dG_about_21 (by decide) (fun c21 => ?_) (fun c21 => ?_)
        · -- taken
          have c21 : ¬ (Rn i = 0) := fun h => c21 ((nI_eq (a := Rn i) (b := 0) (by omega) (by omega)).mpr h)
          have ez : zer Rn i = zer Rn (i + 1) := (if_neg c21).symm
          rw [ez] at hl
          refine lv_lload_n hx hb dG_about_27 rfl (lv_at hl 2 rfl) ?_
          refine lv_lconst (v := lN 1) hx hb dG_about_28 rfl ?_
          refine lv_bipush (v := nI 30) hx hb dG_about_29 (by decide) ?_
          refine lv_aload_n hx hb dG_about_31 rfl (lv_at hl 0 rfl) ?_
          refine va_get (D := D) (ci := 3) (v := .ref q1) (C := "StatRows$RegisterRow") (T := TG) (N := 1) hx hb ht inG hown hK hP 0 rfl rfl 0 (by decide) (ht _ wd73) (fun _ h9 => h9) rfl dG_about_32 ?_
          refine lv_iload hx hb dG_about_35 (lv_at hl 3 rfl) ?_
          refine zz_iald (k := i) hx hb hK hP 1 0 rfl rfl (by omega) (by decide) dG_about_37 ?_
          refine zz_top (y := nI (Rn i)) (hR i (by omega)) ?_
          refine lv_isub hx hb dG_about_38 ?_
          refine zz_top (y := nI (30 - (Rn i))) (pk_sub (a := 30) (b := Rn i) (by omega)) ?_
          refine lv_lshl (v := lN (2 ^ (30 - Rn i))) hx hb dG_about_39 (zz_shlc _ (by omega)) ?_
          refine lv_ladd hx hb dG_about_40 ?_
          refine zz_topl (y := lN ((smr Rn i) + (2 ^ (30 - Rn i)))) (lN_add (smr Rn i) (2 ^ (30 - Rn i))) ?_
          refine lv_lstore_n (lv' := [(2, .long (lN ((smr Rn i) + (2 ^ (30 - Rn i))))), (0, .ref q0), (1, .int (nI (zer Rn (i + 1)))), (4, .int (nI i))]) hx hb dG_about_41 rfl hl (by decide) rfl (fun ls hl => ?_)
          refine lv_iinc (v := nI (i + 1)) (lv' := [(4, .int (nI (i + 1))), (2, .long (lN ((smr Rn i) + (2 ^ (30 - Rn i))))), (0, .ref q0), (1, .int (nI (zer Rn (i + 1))))]) hx hb dG_about_42 hl (k := 3) rfl (nI_1 i) (by decide) rfl (fun ls hl => ?_)
          refine lv_goto (tgt := 7) hx hb dG_about_45 (by decide) ?_
          exact ih7 (i + 1) (by omega) (by omega) ls (lv_sub hl [2, 3, 1, 0] rfl)
        · -- not taken
          have c21 : Rn i = 0 := (nI_eq (a := Rn i) (b := 0) (by omega) (by omega)).mp c21
          refine lv_iinc (v := nI (zer Rn i + 1)) (lv' := [(1, .int (nI (zer Rn i + 1))), (0, .ref q0), (2, .long (lN (smr Rn i))), (4, .int (nI i))]) hx hb dG_about_24 hl (k := 1) rfl (nI_1 (zer Rn i)) (by decide) rfl (fun ls hl => ?_)
          have ez : zer Rn i + 1 = zer Rn (i + 1) := (if_pos c21).symm
          rw [ez] at hl
          refine lv_lload_n hx hb dG_about_27 rfl (lv_at hl 2 rfl) ?_
          refine lv_lconst (v := lN 1) hx hb dG_about_28 rfl ?_
          refine lv_bipush (v := nI 30) hx hb dG_about_29 (by decide) ?_
          refine lv_aload_n hx hb dG_about_31 rfl (lv_at hl 1 rfl) ?_
          refine va_get (D := D) (ci := 3) (v := .ref q1) (C := "StatRows$RegisterRow") (T := TG) (N := 1) hx hb ht inG hown hK hP 0 rfl rfl 0 (by decide) (ht _ wd73) (fun _ h9 => h9) rfl dG_about_32 ?_
          refine lv_iload hx hb dG_about_35 (lv_at hl 3 rfl) ?_
          refine zz_iald (k := i) hx hb hK hP 1 0 rfl rfl (by omega) (by decide) dG_about_37 ?_
          refine zz_top (y := nI (Rn i)) (hR i (by omega)) ?_
          refine lv_isub hx hb dG_about_38 ?_
          refine zz_top (y := nI (30 - (Rn i))) (pk_sub (a := 30) (b := Rn i) (by omega)) ?_
          refine lv_lshl (v := lN (2 ^ (30 - Rn i))) hx hb dG_about_39 (zz_shlc _ (by omega)) ?_
          refine lv_ladd hx hb dG_about_40 ?_
          refine zz_topl (y := lN ((smr Rn i) + (2 ^ (30 - Rn i)))) (lN_add (smr Rn i) (2 ^ (30 - Rn i))) ?_
          refine lv_lstore_n (lv' := [(2, .long (lN ((smr Rn i) + (2 ^ (30 - Rn i))))), (1, .int (nI (zer Rn (i + 1)))), (0, .ref q0), (4, .int (nI i))]) hx hb dG_about_41 rfl hl (by decide) rfl (fun ls hl => ?_)
          refine lv_iinc (v := nI (i + 1)) (lv' := [(4, .int (nI (i + 1))), (2, .long (lN ((smr Rn i) + (2 ^ (30 - Rn i))))), (1, .int (nI (zer Rn (i + 1)))), (0, .ref q0)]) hx hb dG_about_42 hl (k := 3) rfl (nI_1 i) (by decide) rfl (fun ls hl => ?_)
          refine lv_goto (tgt := 7) hx hb dG_about_45 (by decide) ?_
          exact ih7 (i + 1) (by omega) (by omega) ls (lv_sub hl [3, 2, 1, 0] rfl)
  exact lp7 ((16 - 0) + 1) 0 (Nat.zero_le _) (Nat.lt_succ_self _) ls (lv_sub hl [3, 2, 1, 0] rfl)
