abbrev rm_M_isTerm : Room := { frames := 0, cells := 0, slots := 0, locals := 0 }
set_option maxHeartbeats 4000000 in
set_option maxRecDepth 100000 in
theorem c_M_isTerm (l : Launch) (x : Int32) : Met l yM_isTerm wM_isTerm rm_M_isTerm (zz_N [.int x]) (vp_Si (fun r : Int32 => r = nI (inr_ 256 x).toNat)) 0 0 (fun _ => False) := by
  refine Met.ofW (cc := cM_isTerm) (maxL := 1) (ret := (some .boolean)) (by decide) rfl ?_
  intro pg ev s mt args below meth kd s₁ B hml hv
  have hv : args = _ := hv
  subst hv
  have hx := B.exec
  have hb := B.bytes
  have hr := B.returns
  have ht : ∀ w ∈ W0, w.before _ s = true := fun w h => atoms_spec (ws := wM_isTerm) B.pre w (List.mem_cons_of_mem _ h)
  have hown : s.vm.findClass "StatRowsModel" = some mt.cls := findClass_of_methodNamed B.named
  have hlocks := B.notSynchronized
  have hl := lv_entry ([.int x]) (n := 1) (Nat.le_of_ble_eq_true rfl)
  rw [lg_entry_eq]
  generalize (lg_sl ([.int x]) ++ List.replicate (1 - (lg_sl ([.int x])).length) Slot.unset).toArray = ls at hl ⊢
  have hl : lv_has ls 1 [(0, .int x)] := hl
  refine lv_iload_n hx hb dM_isTerm_0 rfl (lv_at hl 0 rfl) ?_
  refine lv_if_lt (tgt := 15) hx hb dM_isTerm_1 (by decide) (fun c1 => ?_) (fun c1 => ?_)
  · -- taken
    have hs : inr_ 256 x = false := decide_eq_false (fun q => q.1 c1)
    refine lv_iconst (v := nI 0) hx hb dM_isTerm_15 (by decide) ?_
    exact zz_zretR (v := nI 0) hx hb hr hlocks (by decide) (by rw [hs]; rfl) dM_isTerm_16
  · -- not taken
    refine lv_iload_n hx hb dM_isTerm_4 rfl (lv_at hl 0 rfl) ?_
    refine lv_sipush (v := nI 256) hx hb dM_isTerm_5 (by decide) ?_
    refine lv_icmp_ge (tgt := 15) hx hb dM_isTerm_8 (by decide) (fun c8 => ?_) (fun c8 => ?_)
    · -- taken
      have hs : inr_ 256 x = false := decide_eq_false (fun q => q.2 c8)
      refine lv_iconst (v := nI 0) hx hb dM_isTerm_15 (by decide) ?_
      exact zz_zretR (v := nI 0) hx hb hr hlocks (by decide) (by rw [hs]; rfl) dM_isTerm_16
    · -- not taken
      have hs : inr_ 256 x = true := decide_eq_true ⟨c1, c8⟩
      refine lv_iconst (v := nI 1) hx hb dM_isTerm_11 (by decide) ?_
      refine lv_goto (tgt := 16) hx hb dM_isTerm_12 (by decide) ?_
      exact zz_zretR (v := nI 1) hx hb hr hlocks (by decide) (by rw [hs]; rfl) dM_isTerm_16

abbrev rm_M_isPredicate : Room := { frames := 0, cells := 0, slots := 0, locals := 0 }
set_option maxHeartbeats 4000000 in
set_option maxRecDepth 100000 in
theorem c_M_isPredicate (l : Launch) (x : Int32) : Met l yM_isPredicate wM_isPredicate rm_M_isPredicate (zz_N [.int x]) (vp_Si (fun r : Int32 => r = nI (inr_ 8 x).toNat)) 0 0 (fun _ => False) := by
  refine Met.ofW (cc := cM_isPredicate) (maxL := 1) (ret := (some .boolean)) (by decide) rfl ?_
  intro pg ev s mt args below meth kd s₁ B hml hv
  have hv : args = _ := hv
  subst hv
  have hx := B.exec
  have hb := B.bytes
  have hr := B.returns
  have ht : ∀ w ∈ W0, w.before _ s = true := fun w h => atoms_spec (ws := wM_isPredicate) B.pre w (List.mem_cons_of_mem _ h)
  have hown : s.vm.findClass "StatRowsModel" = some mt.cls := findClass_of_methodNamed B.named
  have hlocks := B.notSynchronized
  have hl := lv_entry ([.int x]) (n := 1) (Nat.le_of_ble_eq_true rfl)
  rw [lg_entry_eq]
  generalize (lg_sl ([.int x]) ++ List.replicate (1 - (lg_sl ([.int x])).length) Slot.unset).toArray = ls at hl ⊢
  have hl : lv_has ls 1 [(0, .int x)] := hl
  refine lv_iload_n hx hb dM_isPredicate_0 rfl (lv_at hl 0 rfl) ?_
  refine lv_if_lt (tgt := 14) hx hb dM_isPredicate_1 (by decide) (fun c1 => ?_) (fun c1 => ?_)
  · -- taken
    have hs : inr_ 8 x = false := decide_eq_false (fun q => q.1 c1)
    refine lv_iconst (v := nI 0) hx hb dM_isPredicate_14 (by decide) ?_
    exact zz_zretR (v := nI 0) hx hb hr hlocks (by decide) (by rw [hs]; rfl) dM_isPredicate_15
  · -- not taken
    refine lv_iload_n hx hb dM_isPredicate_4 rfl (lv_at hl 0 rfl) ?_
    refine lv_bipush (v := nI 8) hx hb dM_isPredicate_5 (by decide) ?_
    refine lv_icmp_ge (tgt := 14) hx hb dM_isPredicate_7 (by decide) (fun c7 => ?_) (fun c7 => ?_)
    · -- taken
      have hs : inr_ 8 x = false := decide_eq_false (fun q => q.2 c7)
      refine lv_iconst (v := nI 0) hx hb dM_isPredicate_14 (by decide) ?_
      exact zz_zretR (v := nI 0) hx hb hr hlocks (by decide) (by rw [hs]; rfl) dM_isPredicate_15
    · -- not taken
      have hs : inr_ 8 x = true := decide_eq_true ⟨c1, c7⟩
      refine lv_iconst (v := nI 1) hx hb dM_isPredicate_10 (by decide) ?_
      refine lv_goto (tgt := 15) hx hb dM_isPredicate_11 (by decide) ?_
      exact zz_zretR (v := nI 1) hx hb hr hlocks (by decide) (by rw [hs]; rfl) dM_isPredicate_15

abbrev rm_M_areBits : Room := { frames := 0, cells := 0, slots := 0, locals := 0 }
set_option maxHeartbeats 4000000 in
set_option maxRecDepth 100000 in
theorem c_M_areBits (l : Launch) (x : Int32) : Met l yM_areBits wM_areBits rm_M_areBits (zz_N [.int x]) (vp_Si (fun r : Int32 => r = nI (inr_ 256 x).toNat)) 0 0 (fun _ => False) := by
  refine Met.ofW (cc := cM_areBits) (maxL := 1) (ret := (some .boolean)) (by decide) rfl ?_
  intro pg ev s mt args below meth kd s₁ B hml hv
  have hv : args = _ := hv
  subst hv
  have hx := B.exec
  have hb := B.bytes
  have hr := B.returns
  have ht : ∀ w ∈ W0, w.before _ s = true := fun w h => atoms_spec (ws := wM_areBits) B.pre w (List.mem_cons_of_mem _ h)
  have hown : s.vm.findClass "StatRowsModel" = some mt.cls := findClass_of_methodNamed B.named
  have hlocks := B.notSynchronized
  have hl := lv_entry ([.int x]) (n := 1) (Nat.le_of_ble_eq_true rfl)
  rw [lg_entry_eq]
  generalize (lg_sl ([.int x]) ++ List.replicate (1 - (lg_sl ([.int x])).length) Slot.unset).toArray = ls at hl ⊢
  have hl : lv_has ls 1 [(0, .int x)] := hl
  refine lv_iload_n hx hb dM_areBits_0 rfl (lv_at hl 0 rfl) ?_
  refine lv_if_lt (tgt := 15) hx hb dM_areBits_1 (by decide) (fun c1 => ?_) (fun c1 => ?_)
  · -- taken
    have hs : inr_ 256 x = false := decide_eq_false (fun q => q.1 c1)
    refine lv_iconst (v := nI 0) hx hb dM_areBits_15 (by decide) ?_
    exact zz_zretR (v := nI 0) hx hb hr hlocks (by decide) (by rw [hs]; rfl) dM_areBits_16
  · -- not taken
    refine lv_iload_n hx hb dM_areBits_4 rfl (lv_at hl 0 rfl) ?_
    refine lv_sipush (v := nI 256) hx hb dM_areBits_5 (by decide) ?_
    refine lv_icmp_ge (tgt := 15) hx hb dM_areBits_8 (by decide) (fun c8 => ?_) (fun c8 => ?_)
    · -- taken
      have hs : inr_ 256 x = false := decide_eq_false (fun q => q.2 c8)
      refine lv_iconst (v := nI 0) hx hb dM_areBits_15 (by decide) ?_
      exact zz_zretR (v := nI 0) hx hb hr hlocks (by decide) (by rw [hs]; rfl) dM_areBits_16
    · -- not taken
      have hs : inr_ 256 x = true := decide_eq_true ⟨c1, c8⟩
      refine lv_iconst (v := nI 1) hx hb dM_areBits_11 (by decide) ?_
      refine lv_goto (tgt := 16) hx hb dM_areBits_12 (by decide) ?_
      exact zz_zretR (v := nI 1) hx hb hr hlocks (by decide) (by rw [hs]; rfl) dM_areBits_16

abbrev rm_M_hash : Room := { frames := 0, cells := 0, slots := 0, locals := 0 }
set_option maxHeartbeats 4000000 in
set_option maxRecDepth 100000 in
theorem c_M_hash (l : Launch) (x : Int32) : Met l yM_hash wM_hash rm_M_hash (zz_N [.int x]) (vp_Si (fun r : Int32 => r = hsh x)) 0 0 (fun _ => False) := by
  refine Met.ofW (cc := cM_hash) (maxL := 2) (ret := (some .int)) (by decide) rfl ?_
  intro pg ev s mt args below meth kd s₁ B hml hv
  have hv : args = _ := hv
  subst hv
  have hx := B.exec
  have hb := B.bytes
  have hr := B.returns
  have ht : ∀ w ∈ W0, w.before _ s = true := fun w h => atoms_spec (ws := wM_hash) B.pre w (List.mem_cons_of_mem _ h)
  have hown : s.vm.findClass "StatRowsModel" = some mt.cls := findClass_of_methodNamed B.named
  have hlocks := B.notSynchronized
  have hl := lv_entry ([.int x]) (n := 2) (Nat.le_of_ble_eq_true rfl)
  rw [lg_entry_eq]
  generalize (lg_sl ([.int x]) ++ List.replicate (2 - (lg_sl ([.int x])).length) Slot.unset).toArray = ls at hl ⊢
  have hl : lv_has ls 2 [(0, .int x)] := hl
  refine lv_iload_n hx hb dM_hash_0 rfl (lv_at hl 0 rfl) ?_
  refine lv_iconst (v := nI 1) hx hb dM_hash_1 (by decide) ?_
  refine lv_iadd hx hb dM_hash_2 ?_
  refine lv_ldc (v := (-1640531535)) hx hb hown (ht _ wd466) dM_hash_3 ?_
  refine lv_imul hx hb dM_hash_5 ?_
  refine lv_istore_n (lv' := [(1, .int ((x + (nI 1)) * (-1640531535))), (0, .int x)]) hx hb dM_hash_6 rfl hl (by decide) rfl (fun ls hl => ?_)
  refine lv_iload_n hx hb dM_hash_7 rfl (lv_at hl 0 rfl) ?_
  refine lv_iload_n hx hb dM_hash_8 rfl (lv_at hl 0 rfl) ?_
  refine lv_bipush (v := nI 15) hx hb dM_hash_9 (by decide) ?_
  refine lv_iushr (v := (((x + (nI 1)) * (-1640531535)).toUInt32 >>> ((nI 15).toUInt32 &&& Int32.toUInt32 31)).toInt32) hx hb dM_hash_11 (rfl) ?_
  refine lv_ixor hx hb dM_hash_12 ?_
  refine lv_istore_n (lv' := [(1, .int (((x + (nI 1)) * (-1640531535)) ^^^ ((((x + (nI 1)) * (-1640531535)).toUInt32 >>> ((nI 15).toUInt32 &&& Int32.toUInt32 31)).toInt32))), (0, .int x)]) hx hb dM_hash_13 rfl hl (by decide) rfl (fun ls hl => ?_)
  refine lv_iload_n hx hb dM_hash_14 rfl (lv_at hl 0 rfl) ?_
  refine lv_ldc (v := (-2048144777)) hx hb hown (ht _ wd467) dM_hash_15 ?_
  refine lv_imul hx hb dM_hash_17 ?_
  refine lv_istore_n (lv' := [(1, .int ((((x + (nI 1)) * (-1640531535)) ^^^ ((((x + (nI 1)) * (-1640531535)).toUInt32 >>> ((nI 15).toUInt32 &&& Int32.toUInt32 31)).toInt32)) * (-2048144777))), (0, .int x)]) hx hb dM_hash_18 rfl hl (by decide) rfl (fun ls hl => ?_)
  refine lv_iload_n hx hb dM_hash_19 rfl (lv_at hl 0 rfl) ?_
  refine lv_iload_n hx hb dM_hash_20 rfl (lv_at hl 0 rfl) ?_
  refine lv_bipush (v := nI 13) hx hb dM_hash_21 (by decide) ?_
  refine lv_iushr (v := (((((x + (nI 1)) * (-1640531535)) ^^^ ((((x + (nI 1)) * (-1640531535)).toUInt32 >>> ((nI 15).toUInt32 &&& Int32.toUInt32 31)).toInt32)) * (-2048144777)).toUInt32 >>> ((nI 13).toUInt32 &&& Int32.toUInt32 31)).toInt32) hx hb dM_hash_23 (rfl) ?_
  refine lv_ixor hx hb dM_hash_24 ?_
  exact zz_iretR (v := ((((x + (nI 1)) * (-1640531535)) ^^^ ((((x + (nI 1)) * (-1640531535)).toUInt32 >>> ((nI 15).toUInt32 &&& Int32.toUInt32 31)).toInt32)) * (-2048144777)) ^^^ ((((((x + (nI 1)) * (-1640531535)) ^^^ ((((x + (nI 1)) * (-1640531535)).toUInt32 >>> ((nI 15).toUInt32 &&& Int32.toUInt32 31)).toInt32)) * (-2048144777)).toUInt32 >>> ((nI 13).toUInt32 &&& Int32.toUInt32 31)).toInt32)) hx hb hr hlocks (rfl) dM_hash_25

abbrev rm_M_find : Room := { frames := 0, cells := 0, slots := 0, locals := 0 }
set_option maxHeartbeats 4000000 in
set_option maxRecDepth 100000 in
theorem c_M_find (l : Launch) (D : va_G) (cI cB : ClassId) (m0 m1 m2 m3 m4 m5 m6 n k e : Nat) (su pd ob : Nat → Int32) (T : List Nat) (hM : RM T su pd ob) (ss pp oo : Nat) (hss : ss < 256) (hpp : pp < 8) (hoo : oo < 256) : Met l yM_find wM_find rm_M_find (zz_R D vwCl [(cI, .int), (cB, .boolean)] [.ref m0, .int (nI ss), .int (nI pp), .int (nI oo)] [(m0, .inr (5, [.int (nI T.length), .ref m1, .ref m2, .ref m3, .int (nI n), .ref m4, .int (nI e), .int (nI k), .ref m5, .ref m6])), (m1, .inl (cI, 400, .inl su)), (m2, .inl (cI, 400, .inl pd)), (m3, .inl (cI, 400, .inl ob))]) (vp_Si (fun r : Int32 => (r = -1 ∧ ∀ j, j < T.length → T.getD j 0 ≠ 65536 * pp + 256 * ss + oo) ∨ ∃ j, j < T.length ∧ T.getD j 0 = 65536 * pp + 256 * ss + oo ∧ r = nI j)) 0 0 (fun _ => False) := by
  refine Met.ofW (cc := cM_find) (maxL := 6) (ret := (some .int)) (by decide) rfl ?_
  intro pg ev s mt args below meth kd s₁ B hml hv
  obtain ⟨rfl, hP, hK, hN⟩ := hv
  have hx := B.exec
  have hb := B.bytes
  have hr := B.returns
  have ht : ∀ w ∈ W0, w.before _ s = true := fun w h => atoms_spec (ws := wM_find) B.pre w (List.mem_cons_of_mem _ h)
  have hown : s.vm.findClass "StatRowsModel" = some mt.cls := findClass_of_methodNamed B.named
  have hlocks := B.notSynchronized
  have hl := lv_entry ([.ref m0, .int (nI ss), .int (nI pp), .int (nI oo)]) (n := 6) (Nat.le_of_ble_eq_true rfl)
  rw [lg_entry_eq]
  generalize (lg_sl ([.ref m0, .int (nI ss), .int (nI pp), .int (nI oo)]) ++ List.replicate (6 - (lg_sl ([.ref m0, .int (nI ss), .int (nI pp), .int (nI oo)])).length) Slot.unset).toArray = ls at hl ⊢
  have hl : lv_has ls 6 [(0, .ref m0), (1, .int (nI ss)), (2, .int (nI pp)), (3, .int (nI oo))] := hl
  have hM4 := hM.2.1
  refine lv_iconst (v := (-1)) hx hb dM_find_0 (by decide) ?_
  refine lv_istore (lv' := [(4, .int (-1)), (0, .ref m0), (1, .int (nI ss)), (2, .int (nI pp)), (3, .int (nI oo))]) hx hb dM_find_1 hl (by decide) rfl (fun ls hl => ?_)
  refine lv_iconst (v := nI 0) hx hb dM_find_3 (by decide) ?_
  refine lv_istore (lv' := [(5, .int (nI 0)), (4, .int (-1)), (0, .ref m0), (1, .int (nI ss)), (2, .int (nI pp)), (3, .int (nI oo))]) hx hb dM_find_4 hl (by decide) rfl (fun ls hl => ?_)
  have lp6 : ∀ (fu : Nat) (i : Nat) (fd : Int32) (hi : i ≤ T.length) (hfd : (fd = -1 ∧ ∀ j, j < i → T.getD j 0 ≠ 65536 * pp + 256 * ss + oo) ∨ ∃ j, j < i ∧ T.getD j 0 = 65536 * pp + 256 * ss + oo ∧ fd = nI j) (hm : T.length - i < fu) (ls : Array Slot) (hl : lv_has ls 6 [(0, .ref m0), (1, .int (nI ss)), (2, .int (nI pp)), (3, .int (nI oo)), (4, .int fd), (5, .int (nI i))]), W pg l ev (headSpec wM_find rm_M_find).room s mt (([.ref m0, .int (nI ss), .int (nI pp), .int (nI oo)] : List Value).toArray) below meth kd s.heap [] 0 0 (MQ below (vp_Si (fun r : Int32 => (r = -1 ∧ ∀ j, j < T.length → T.getD j 0 ≠ 65536 * pp + 256 * ss + oo) ∨ ∃ j, j < T.length ∧ T.getD j 0 = 65536 * pp + 256 * ss + oo ∧ r = nI j)) (([.ref m0, .int (nI ss), .int (nI pp), .int (nI oo)] : List Value).toArray) s 0 0 (fun _ => False)) (F0 mt 6 ls []) := by
    intro fu
    induction fu with
    | zero => intro i fd hi hfd hm; exact absurd hm (Nat.not_lt_zero _)
    | succ fu ih6 =>
      intro i fd hi hfd hm ls hl
      refine lv_iload hx hb dM_find_6 (lv_at hl 5 rfl) ?_
      refine lv_aload_n hx hb dM_find_8 rfl (lv_at hl 0 rfl) ?_
      refine va_get (D := D) (ci := 5) (v := .int (nI T.length)) (C := "StatRowsModel") (T := TM) (N := 10) hx hb ht inM hown hK hP 0 rfl rfl 0 (by decide) (ht _ wd389) (fun _ h9 => h9) rfl dM_find_9 ?_
      refine lv_icmp_ge (tgt := 63) hx hb dM_find_12 (by decide) (fun c12 => ?_) (fun c12 => ?_)
      · -- taken
        have c12 : T.length ≤ i := (nI_leI (a := T.length) (b := i) (by omega) (by omega)).mp c12
        refine lv_iload hx hb dM_find_63 (lv_at hl 4 rfl) ?_
        exact zz_iretR (v := fd) hx hb hr hlocks (by rw [show T.length = i by omega]; exact hfd) dM_find_65
      · -- not taken
        have c12 : ¬ (T.length ≤ i) := fun h => c12 ((nI_leI (a := T.length) (b := i) (by omega) (by omega)).mpr h)
        have hCi := hM.2.2.1 i (by omega)
        refine lv_aload_n hx hb dM_find_15 rfl (lv_at hl 0 rfl) ?_
        refine va_get (D := D) (ci := 5) (v := .ref m1) (C := "StatRowsModel") (T := TM) (N := 10) hx hb ht inM hown hK hP 0 rfl rfl 1 (by decide) (ht _ wd390) (fun _ h9 => h9) rfl dM_find_16 ?_
        refine lv_iload hx hb dM_find_19 (lv_at hl 5 rfl) ?_
        refine zz_iald (k := i) hx hb hK hP 1 0 rfl rfl (by omega) (by decide) dM_find_21 ?_
        refine zz_top (y := nI (T.getD i 0 / 256 % 256)) ((hM.1 i (by omega)).1) ?_
        refine lv_iload_n hx hb dM_find_22 rfl (lv_at hl 1 rfl) ?_
        refine lv_icmp_ne (tgt := 53) hx hb dM_find_23 (by decide) (fun c23 => ?_) (fun c23 => ?_)
        · -- taken
          have c23 : ¬ (T.getD i 0 / 256 % 256 = ss) := fun h => c23 ((nI_eq (a := T.getD i 0 / 256 % 256) (b := ss) (by omega) (by omega)).mpr h)
          have hne : T.getD i 0 ≠ 65536 * pp + 256 * ss + oo := by have := hM.2.2.1 i (by omega); omega
          refine lv_iload hx hb dM_find_53 (lv_at hl 4 rfl) ?_
          refine lv_istore (lv' := [(4, .int fd), (0, .ref m0), (1, .int (nI ss)), (2, .int (nI pp)), (3, .int (nI oo)), (5, .int (nI i))]) hx hb dM_find_55 hl (by decide) rfl (fun ls hl => ?_)
          have hfd2 : (fd = -1 ∧ ∀ j, j < i + 1 → T.getD j 0 ≠ 65536 * pp + 256 * ss + oo) ∨ ∃ j, j < i + 1 ∧ T.getD j 0 = 65536 * pp + 256 * ss + oo ∧ fd = nI j := by
            rcases hfd with ⟨a, b⟩ | ⟨j, a, b, c⟩
            · exact Or.inl ⟨a, fun j hj => by
                by_cases q : j = i
                · rw [q]; exact hne
                · exact b j (by omega)⟩
            · exact Or.inr ⟨j, by omega, b, c⟩
          refine lv_iinc (v := nI (i + 1)) (lv' := [(5, .int (nI (i + 1))), (4, .int fd), (0, .ref m0), (1, .int (nI ss)), (2, .int (nI pp)), (3, .int (nI oo))]) hx hb dM_find_57 hl (k := 5) rfl (nI_1 i) (by decide) rfl (fun ls hl => ?_)
          refine lv_goto (tgt := 6) hx hb dM_find_60 (by decide) ?_
          exact ih6 (i + 1) fd (by omega) hfd2 (by omega) ls (lv_sub hl [2, 3, 4, 5, 1, 0] rfl)
        · -- not taken
          have c23 : T.getD i 0 / 256 % 256 = ss := (nI_eq (a := T.getD i 0 / 256 % 256) (b := ss) (by omega) (by omega)).mp c23
          refine lv_aload_n hx hb dM_find_26 rfl (lv_at hl 0 rfl) ?_
          refine va_get (D := D) (ci := 5) (v := .ref m2) (C := "StatRowsModel") (T := TM) (N := 10) hx hb ht inM hown hK hP 0 rfl rfl 2 (by decide) (ht _ wd391) (fun _ h9 => h9) rfl dM_find_27 ?_
          refine lv_iload hx hb dM_find_30 (lv_at hl 5 rfl) ?_
          refine zz_iald (k := i) hx hb hK hP 2 0 rfl rfl (by omega) (by decide) dM_find_32 ?_
          refine zz_top (y := nI (T.getD i 0 / 65536)) ((hM.1 i (by omega)).2.1) ?_
          refine lv_iload_n hx hb dM_find_33 rfl (lv_at hl 2 rfl) ?_
          refine lv_icmp_ne (tgt := 53) hx hb dM_find_34 (by decide) (fun c34 => ?_) (fun c34 => ?_)
          · -- taken
            have c34 : ¬ (T.getD i 0 / 65536 = pp) := fun h => c34 ((nI_eq (a := T.getD i 0 / 65536) (b := pp) (by omega) (by omega)).mpr h)
            have hne : T.getD i 0 ≠ 65536 * pp + 256 * ss + oo := by have := hM.2.2.1 i (by omega); omega
            refine lv_iload hx hb dM_find_53 (lv_at hl 4 rfl) ?_
            refine lv_istore (lv' := [(4, .int fd), (0, .ref m0), (1, .int (nI ss)), (2, .int (nI pp)), (3, .int (nI oo)), (5, .int (nI i))]) hx hb dM_find_55 hl (by decide) rfl (fun ls hl => ?_)
            have hfd2 : (fd = -1 ∧ ∀ j, j < i + 1 → T.getD j 0 ≠ 65536 * pp + 256 * ss + oo) ∨ ∃ j, j < i + 1 ∧ T.getD j 0 = 65536 * pp + 256 * ss + oo ∧ fd = nI j := by
              rcases hfd with ⟨a, b⟩ | ⟨j, a, b, c⟩
              · exact Or.inl ⟨a, fun j hj => by
                  by_cases q : j = i
                  · rw [q]; exact hne
                  · exact b j (by omega)⟩
              · exact Or.inr ⟨j, by omega, b, c⟩
            refine lv_iinc (v := nI (i + 1)) (lv' := [(5, .int (nI (i + 1))), (4, .int fd), (0, .ref m0), (1, .int (nI ss)), (2, .int (nI pp)), (3, .int (nI oo))]) hx hb dM_find_57 hl (k := 5) rfl (nI_1 i) (by decide) rfl (fun ls hl => ?_)
            refine lv_goto (tgt := 6) hx hb dM_find_60 (by decide) ?_
            exact ih6 (i + 1) fd (by omega) hfd2 (by omega) ls (lv_sub hl [2, 3, 4, 5, 1, 0] rfl)
          · -- not taken
            have c34 : T.getD i 0 / 65536 = pp := (nI_eq (a := T.getD i 0 / 65536) (b := pp) (by omega) (by omega)).mp c34
            refine lv_aload_n hx hb dM_find_37 rfl (lv_at hl 0 rfl) ?_
            refine va_get (D := D) (ci := 5) (v := .ref m3) (C := "StatRowsModel") (T := TM) (N := 10) hx hb ht inM hown hK hP 0 rfl rfl 3 (by decide) (ht _ wd392) (fun _ h9 => h9) rfl dM_find_38 ?_
            refine lv_iload hx hb dM_find_41 (lv_at hl 5 rfl) ?_
            refine zz_iald (k := i) hx hb hK hP 3 0 rfl rfl (by omega) (by decide) dM_find_43 ?_
            refine zz_top (y := nI (T.getD i 0 % 256)) ((hM.1 i (by omega)).2.2) ?_
            refine lv_iload_n hx hb dM_find_44 rfl (lv_at hl 3 rfl) ?_
            refine lv_icmp_ne (tgt := 53) hx hb dM_find_45 (by decide) (fun c45 => ?_) (fun c45 => ?_)
            · -- taken
              have c45 : ¬ (T.getD i 0 % 256 = oo) := fun h => c45 ((nI_eq (a := T.getD i 0 % 256) (b := oo) (by omega) (by omega)).mpr h)
              have hne : T.getD i 0 ≠ 65536 * pp + 256 * ss + oo := by have := hM.2.2.1 i (by omega); omega
              refine lv_iload hx hb dM_find_53 (lv_at hl 4 rfl) ?_
              refine lv_istore (lv' := [(4, .int fd), (0, .ref m0), (1, .int (nI ss)), (2, .int (nI pp)), (3, .int (nI oo)), (5, .int (nI i))]) hx hb dM_find_55 hl (by decide) rfl (fun ls hl => ?_)
              have hfd2 : (fd = -1 ∧ ∀ j, j < i + 1 → T.getD j 0 ≠ 65536 * pp + 256 * ss + oo) ∨ ∃ j, j < i + 1 ∧ T.getD j 0 = 65536 * pp + 256 * ss + oo ∧ fd = nI j := by
                rcases hfd with ⟨a, b⟩ | ⟨j, a, b, c⟩
                · exact Or.inl ⟨a, fun j hj => by
                    by_cases q : j = i
                    · rw [q]; exact hne
                    · exact b j (by omega)⟩
                · exact Or.inr ⟨j, by omega, b, c⟩
              refine lv_iinc (v := nI (i + 1)) (lv' := [(5, .int (nI (i + 1))), (4, .int fd), (0, .ref m0), (1, .int (nI ss)), (2, .int (nI pp)), (3, .int (nI oo))]) hx hb dM_find_57 hl (k := 5) rfl (nI_1 i) (by decide) rfl (fun ls hl => ?_)
              refine lv_goto (tgt := 6) hx hb dM_find_60 (by decide) ?_
              exact ih6 (i + 1) fd (by omega) hfd2 (by omega) ls (lv_sub hl [2, 3, 4, 5, 1, 0] rfl)
            · -- not taken
              have c45 : T.getD i 0 % 256 = oo := (nI_eq (a := T.getD i 0 % 256) (b := oo) (by omega) (by omega)).mp c45
              refine lv_iload hx hb dM_find_48 (lv_at hl 5 rfl) ?_
              refine lv_goto (tgt := 55) hx hb dM_find_50 (by decide) ?_
              refine lv_istore (lv' := [(4, .int (nI i)), (0, .ref m0), (1, .int (nI ss)), (2, .int (nI pp)), (3, .int (nI oo)), (5, .int (nI i))]) hx hb dM_find_55 hl (by decide) rfl (fun ls hl => ?_)
              have hfd2 : (nI i = -1 ∧ ∀ j, j < i + 1 → T.getD j 0 ≠ 65536 * pp + 256 * ss + oo) ∨ ∃ j, j < i + 1 ∧ T.getD j 0 = 65536 * pp + 256 * ss + oo ∧ nI i = nI j := Or.inr ⟨i, by omega, by omega, rfl⟩
              refine lv_iinc (v := nI (i + 1)) (lv' := [(5, .int (nI (i + 1))), (4, .int (nI i)), (0, .ref m0), (1, .int (nI ss)), (2, .int (nI pp)), (3, .int (nI oo))]) hx hb dM_find_57 hl (k := 5) rfl (nI_1 i) (by decide) rfl (fun ls hl => ?_)
              refine lv_goto (tgt := 6) hx hb dM_find_60 (by decide) ?_
              exact ih6 (i + 1) (nI i) (by omega) hfd2 (by omega) ls (lv_sub hl [2, 3, 4, 5, 1, 0] rfl)
  exact lp6 ((T.length - 0) + 1) 0 (-1) (Nat.zero_le _) (Or.inl ⟨rfl, fun j h => absurd h (Nat.not_lt_zero _)⟩) (Nat.lt_succ_self _) ls (lv_sub hl [2, 3, 4, 5, 1, 0] rfl)

abbrev rm_M_countOf : Room := { frames := 0, cells := 0, slots := 0, locals := 0 }
set_option maxHeartbeats 4000000 in
set_option maxRecDepth 100000 in
theorem c_M_countOf (l : Launch) (D : va_G) (cI cB : ClassId) (m0 m1 m2 m3 m4 m5 m6 n k e : Nat) (su pd ob : Nat → Int32) (T : List Nat) (hM : RM T su pd ob) (pp : Nat) (hpp : pp < 8) : Met l yM_countOf wM_countOf rm_M_countOf (zz_R D vwCl [(cI, .int), (cB, .boolean)] [.ref m0, .int (nI pp)] [(m0, .inr (5, [.int (nI T.length), .ref m1, .ref m2, .ref m3, .int (nI n), .ref m4, .int (nI e), .int (nI k), .ref m5, .ref m6])), (m1, .inl (cI, 400, .inl su)), (m2, .inl (cI, 400, .inl pd)), (m3, .inl (cI, 400, .inl ob))]) (vp_Si (fun r : Int32 => r = nI (T.countP (isp pp)))) 0 0 (fun _ => False) := by
  refine Met.ofW (cc := cM_countOf) (maxL := 4) (ret := (some .int)) (by decide) rfl ?_
  intro pg ev s mt args below meth kd s₁ B hml hv
  obtain ⟨rfl, hP, hK, hN⟩ := hv
  have hx := B.exec
  have hb := B.bytes
  have hr := B.returns
  have ht : ∀ w ∈ W0, w.before _ s = true := fun w h => atoms_spec (ws := wM_countOf) B.pre w (List.mem_cons_of_mem _ h)
  have hown : s.vm.findClass "StatRowsModel" = some mt.cls := findClass_of_methodNamed B.named
  have hlocks := B.notSynchronized
  have hl := lv_entry ([.ref m0, .int (nI pp)]) (n := 4) (Nat.le_of_ble_eq_true rfl)
  rw [lg_entry_eq]
  generalize (lg_sl ([.ref m0, .int (nI pp)]) ++ List.replicate (4 - (lg_sl ([.ref m0, .int (nI pp)])).length) Slot.unset).toArray = ls at hl ⊢
  have hl : lv_has ls 4 [(0, .ref m0), (1, .int (nI pp))] := hl
  have hM4 := hM.2.1
  refine lv_iconst (v := nI 0) hx hb dM_countOf_0 (by decide) ?_
  refine lv_istore_n (lv' := [(2, .int (nI 0)), (0, .ref m0), (1, .int (nI pp))]) hx hb dM_countOf_1 rfl hl (by decide) rfl (fun ls hl => ?_)
  refine lv_iconst (v := nI 0) hx hb dM_countOf_2 (by decide) ?_
  refine lv_istore_n (lv' := [(3, .int (nI 0)), (2, .int (nI 0)), (0, .ref m0), (1, .int (nI pp))]) hx hb dM_countOf_3 rfl hl (by decide) rfl (fun ls hl => ?_)
  have lp4 : ∀ (fu : Nat) (i : Nat) (hi : i ≤ T.length) (hm : T.length - i < fu) (ls : Array Slot) (hl : lv_has ls 4 [(0, .ref m0), (1, .int (nI pp)), (2, .int (nI ((T.take i).countP (isp pp)))), (3, .int (nI i))]), W pg l ev (headSpec wM_countOf rm_M_countOf).room s mt (([.ref m0, .int (nI pp)] : List Value).toArray) below meth kd s.heap [] 0 0 (MQ below (vp_Si (fun r : Int32 => r = nI (T.countP (isp pp)))) (([.ref m0, .int (nI pp)] : List Value).toArray) s 0 0 (fun _ => False)) (F0 mt 4 ls []) := by
    intro fu
    induction fu with
    | zero => intro i hi hm; exact absurd hm (Nat.not_lt_zero _)
    | succ fu ih4 =>
      intro i hi hm ls hl
      refine lv_iload_n hx hb dM_countOf_4 rfl (lv_at hl 3 rfl) ?_
      refine lv_aload_n hx hb dM_countOf_5 rfl (lv_at hl 0 rfl) ?_
      refine va_get (D := D) (ci := 5) (v := .int (nI T.length)) (C := "StatRowsModel") (T := TM) (N := 10) hx hb ht inM hown hK hP 0 rfl rfl 0 (by decide) (ht _ wd389) (fun _ h9 => h9) rfl dM_countOf_6 ?_
      refine lv_icmp_ge (tgt := 36) hx hb dM_countOf_9 (by decide) (fun c9 => ?_) (fun c9 => ?_)
      · -- taken
        have c9 : T.length ≤ i := (nI_leI (a := T.length) (b := i) (by omega) (by omega)).mp c9
        refine lv_iload_n hx hb dM_countOf_36 rfl (lv_at hl 2 rfl) ?_
        exact zz_iretR (v := nI ((T.take i).countP (isp pp))) hx hb hr hlocks (by rw [tkl _ i (by omega)]) dM_countOf_37
      · -- not taken
        have c9 : ¬ (T.length ≤ i) := fun h => c9 ((nI_leI (a := T.length) (b := i) (by omega) (by omega)).mpr h)
        have hCi := hM.2.2.1 i (by omega)
        refine lv_aload_n hx hb dM_countOf_12 rfl (lv_at hl 0 rfl) ?_
        refine va_get (D := D) (ci := 5) (v := .ref m2) (C := "StatRowsModel") (T := TM) (N := 10) hx hb ht inM hown hK hP 0 rfl rfl 2 (by decide) (ht _ wd391) (fun _ h9 => h9) rfl dM_countOf_13 ?_
        refine lv_iload_n hx hb dM_countOf_16 rfl (lv_at hl 3 rfl) ?_
        refine zz_iald (k := i) hx hb hK hP 2 0 rfl rfl (by omega) (by decide) dM_countOf_17 ?_
        refine zz_top (y := nI (T.getD i 0 / 65536)) ((hM.1 i (by omega)).2.1) ?_
        refine lv_iload_n hx hb dM_countOf_18 rfl (lv_at hl 1 rfl) ?_
        refine lv_icmp_ne (tgt := 28) hx hb dM_countOf_19 (by decide) (fun c19 => ?_) (fun c19 => ?_)
        · -- taken
          have c19 : ¬ (T.getD i 0 / 65536 = pp) := fun h => c19 ((nI_eq (a := T.getD i 0 / 65536) (b := pp) (by omega) (by omega)).mpr h)
          refine lv_iload_n hx hb dM_countOf_28 rfl (lv_at hl 2 rfl) ?_
          refine zz_top (y := nI ((T.take (i + 1)).countP (isp pp))) (congrArg nI (by
            rw [tk1 _ i 0 (by omega), cp1]
            have : isp pp (T.getD i 0) = false := by unfold isp; simpa using c19
            rw [this]; rfl)) ?_
          refine lv_istore_n (lv' := [(2, .int (nI ((T.take (i + 1)).countP (isp pp)))), (0, .ref m0), (1, .int (nI pp)), (3, .int (nI i))]) hx hb dM_countOf_29 rfl hl (by decide) rfl (fun ls hl => ?_)
          refine lv_iinc (v := nI (i + 1)) (lv' := [(3, .int (nI (i + 1))), (2, .int (nI ((T.take (i + 1)).countP (isp pp)))), (0, .ref m0), (1, .int (nI pp))]) hx hb dM_countOf_30 hl (k := 3) rfl (nI_1 i) (by decide) rfl (fun ls hl => ?_)
          refine lv_goto (tgt := 4) hx hb dM_countOf_33 (by decide) ?_
          exact ih4 (i + 1) (by omega) (by omega) ls (lv_sub hl [2, 3, 1, 0] rfl)
        · -- not taken
          have c19 : T.getD i 0 / 65536 = pp := (nI_eq (a := T.getD i 0 / 65536) (b := pp) (by omega) (by omega)).mp c19
          refine lv_iload_n hx hb dM_countOf_22 rfl (lv_at hl 2 rfl) ?_
          refine lv_iconst (v := nI 1) hx hb dM_countOf_23 (by decide) ?_
          refine lv_iadd hx hb dM_countOf_24 ?_
          refine zz_top (y := nI (((T.take i).countP (isp pp)) + 1)) (nI_add ((T.take i).countP (isp pp)) 1) ?_
          refine zz_top (y := nI ((T.take (i + 1)).countP (isp pp))) (congrArg nI (by
            rw [tk1 _ i 0 (by omega), cp1]
            have : isp pp (T.getD i 0) = true := by unfold isp; simpa using c19
            rw [this]; rfl)) ?_
          refine lv_goto (tgt := 29) hx hb dM_countOf_25 (by decide) ?_
          refine lv_istore_n (lv' := [(2, .int (nI ((T.take (i + 1)).countP (isp pp)))), (0, .ref m0), (1, .int (nI pp)), (3, .int (nI i))]) hx hb dM_countOf_29 rfl hl (by decide) rfl (fun ls hl => ?_)
          refine lv_iinc (v := nI (i + 1)) (lv' := [(3, .int (nI (i + 1))), (2, .int (nI ((T.take (i + 1)).countP (isp pp)))), (0, .ref m0), (1, .int (nI pp))]) hx hb dM_countOf_30 hl (k := 3) rfl (nI_1 i) (by decide) rfl (fun ls hl => ?_)
          refine lv_goto (tgt := 4) hx hb dM_countOf_33 (by decide) ?_
          exact ih4 (i + 1) (by omega) (by omega) ls (lv_sub hl [2, 3, 1, 0] rfl)
  exact lp4 ((T.length - 0) + 1) 0 (Nat.zero_le _) (Nat.lt_succ_self _) ls (lv_sub hl [2, 3, 1, 0] rfl)

abbrev rm_M_between : Room := { frames := 0, cells := 0, slots := 0, locals := 0 }
set_option maxHeartbeats 4000000 in
set_option maxRecDepth 100000 in
theorem c_M_between (l : Launch) (D : va_G) (cI cB : ClassId) (m0 m1 m2 m3 m4 m5 m6 n k e : Nat) (su pd ob : Nat → Int32) (T : List Nat) (hM : RM T su pd ob) (pp : Nat) (hpp : pp < 8) (fr to : Int32) : Met l yM_between wM_between rm_M_between (zz_R D vwCl [(cI, .int), (cB, .boolean)] [.ref m0, .int (nI pp), .int fr, .int to] [(m0, .inr (5, [.int (nI T.length), .ref m1, .ref m2, .ref m3, .int (nI n), .ref m4, .int (nI e), .int (nI k), .ref m5, .ref m6])), (m1, .inl (cI, 400, .inl su)), (m2, .inl (cI, 400, .inl pd)), (m3, .inl (cI, 400, .inl ob))]) (vp_Si (fun r : Int32 => r = nI (T.countP (fun C => isp pp C && btw fr to (C % 256))))) 0 0 (fun _ => False) := by
  refine Met.ofW (cc := cM_between) (maxL := 6) (ret := (some .int)) (by decide) rfl ?_
  intro pg ev s mt args below meth kd s₁ B hml hv
  obtain ⟨rfl, hP, hK, hN⟩ := hv
  have hx := B.exec
  have hb := B.bytes
  have hr := B.returns
  have ht : ∀ w ∈ W0, w.before _ s = true := fun w h => atoms_spec (ws := wM_between) B.pre w (List.mem_cons_of_mem _ h)
  have hown : s.vm.findClass "StatRowsModel" = some mt.cls := findClass_of_methodNamed B.named
  have hlocks := B.notSynchronized
  have hl := lv_entry ([.ref m0, .int (nI pp), .int fr, .int to]) (n := 6) (Nat.le_of_ble_eq_true rfl)
  rw [lg_entry_eq]
  generalize (lg_sl ([.ref m0, .int (nI pp), .int fr, .int to]) ++ List.replicate (6 - (lg_sl ([.ref m0, .int (nI pp), .int fr, .int to])).length) Slot.unset).toArray = ls at hl ⊢
  have hl : lv_has ls 6 [(0, .ref m0), (1, .int (nI pp)), (2, .int fr), (3, .int to)] := hl
  have hM4 := hM.2.1
  refine lv_iconst (v := nI 0) hx hb dM_between_0 (by decide) ?_
  refine lv_istore (lv' := [(4, .int (nI 0)), (0, .ref m0), (1, .int (nI pp)), (2, .int fr), (3, .int to)]) hx hb dM_between_1 hl (by decide) rfl (fun ls hl => ?_)
  refine lv_iconst (v := nI 0) hx hb dM_between_3 (by decide) ?_
  refine lv_istore (lv' := [(5, .int (nI 0)), (4, .int (nI 0)), (0, .ref m0), (1, .int (nI pp)), (2, .int fr), (3, .int to)]) hx hb dM_between_4 hl (by decide) rfl (fun ls hl => ?_)
  have lp6 : ∀ (fu : Nat) (i : Nat) (hi : i ≤ T.length) (hm : T.length - i < fu) (ls : Array Slot) (hl : lv_has ls 6 [(0, .ref m0), (1, .int (nI pp)), (2, .int fr), (3, .int to), (4, .int (nI ((T.take i).countP (fun C => isp pp C && btw fr to (C % 256))))), (5, .int (nI i))]), W pg l ev (headSpec wM_between rm_M_between).room s mt (([.ref m0, .int (nI pp), .int fr, .int to] : List Value).toArray) below meth kd s.heap [] 0 0 (MQ below (vp_Si (fun r : Int32 => r = nI (T.countP (fun C => isp pp C && btw fr to (C % 256))))) (([.ref m0, .int (nI pp), .int fr, .int to] : List Value).toArray) s 0 0 (fun _ => False)) (F0 mt 6 ls []) := by
    intro fu
    induction fu with
    | zero => intro i hi hm; exact absurd hm (Nat.not_lt_zero _)
    | succ fu ih6 =>
      intro i hi hm ls hl
      refine lv_iload hx hb dM_between_6 (lv_at hl 5 rfl) ?_
      refine lv_aload_n hx hb dM_between_8 rfl (lv_at hl 0 rfl) ?_
      refine va_get (D := D) (ci := 5) (v := .int (nI T.length)) (C := "StatRowsModel") (T := TM) (N := 10) hx hb ht inM hown hK hP 0 rfl rfl 0 (by decide) (ht _ wd389) (fun _ h9 => h9) rfl dM_between_9 ?_
      refine lv_icmp_ge (tgt := 65) hx hb dM_between_12 (by decide) (fun c12 => ?_) (fun c12 => ?_)
      · -- taken
        have c12 : T.length ≤ i := (nI_leI (a := T.length) (b := i) (by omega) (by omega)).mp c12
        refine lv_iload hx hb dM_between_65 (lv_at hl 4 rfl) ?_
        exact zz_iretR (v := nI ((T.take i).countP (fun C => isp pp C && btw fr to (C % 256)))) hx hb hr hlocks (by rw [tkl _ i (by omega)]) dM_between_67
      · -- not taken
        have c12 : ¬ (T.length ≤ i) := fun h => c12 ((nI_leI (a := T.length) (b := i) (by omega) (by omega)).mpr h)
        have hCi := hM.2.2.1 i (by omega)
        refine lv_aload_n hx hb dM_between_15 rfl (lv_at hl 0 rfl) ?_
        refine va_get (D := D) (ci := 5) (v := .ref m2) (C := "StatRowsModel") (T := TM) (N := 10) hx hb ht inM hown hK hP 0 rfl rfl 2 (by decide) (ht _ wd391) (fun _ h9 => h9) rfl dM_between_16 ?_
        refine lv_iload hx hb dM_between_19 (lv_at hl 5 rfl) ?_
        refine zz_iald (k := i) hx hb hK hP 2 0 rfl rfl (by omega) (by decide) dM_between_21 ?_
        refine zz_top (y := nI (T.getD i 0 / 65536)) ((hM.1 i (by omega)).2.1) ?_
        refine lv_iload_n hx hb dM_between_22 rfl (lv_at hl 1 rfl) ?_
        refine lv_icmp_ne (tgt := 55) hx hb dM_between_23 (by decide) (fun c23 => ?_) (fun c23 => ?_)
        · -- taken
          have c23 : ¬ (T.getD i 0 / 65536 = pp) := fun h => c23 ((nI_eq (a := T.getD i 0 / 65536) (b := pp) (by omega) (by omega)).mpr h)
          have hbw : (isp pp (T.getD i 0) && btw fr to (T.getD i 0 % 256)) = false := by
            have : isp pp (T.getD i 0) = false := by unfold isp; simpa using c23
            rw [this]; rfl
          refine lv_iload hx hb dM_between_55 (lv_at hl 4 rfl) ?_
          refine zz_top (y := nI ((T.take (i + 1)).countP (fun C => isp pp C && btw fr to (C % 256)))) (congrArg nI (by
            rw [tk1 _ i 0 (by omega), cp1]
            have : (isp pp (T.getD i 0) && btw fr to (T.getD i 0 % 256)) = false := hbw
            rw [this]; rfl)) ?_
          refine lv_istore (lv' := [(4, .int (nI ((T.take (i + 1)).countP (fun C => isp pp C && btw fr to (C % 256))))), (0, .ref m0), (1, .int (nI pp)), (2, .int fr), (3, .int to), (5, .int (nI i))]) hx hb dM_between_57 hl (by decide) rfl (fun ls hl => ?_)
          refine lv_iinc (v := nI (i + 1)) (lv' := [(5, .int (nI (i + 1))), (4, .int (nI ((T.take (i + 1)).countP (fun C => isp pp C && btw fr to (C % 256))))), (0, .ref m0), (1, .int (nI pp)), (2, .int fr), (3, .int to)]) hx hb dM_between_59 hl (k := 5) rfl (nI_1 i) (by decide) rfl (fun ls hl => ?_)
          refine lv_goto (tgt := 6) hx hb dM_between_62 (by decide) ?_
          exact ih6 (i + 1) (by omega) (by omega) ls (lv_sub hl [2, 3, 4, 5, 1, 0] rfl)
        · -- not taken
          have c23 : T.getD i 0 / 65536 = pp := (nI_eq (a := T.getD i 0 / 65536) (b := pp) (by omega) (by omega)).mp c23
          have hip : isp pp (T.getD i 0) = true := by unfold isp; simpa using c23
          refine lv_aload_n hx hb dM_between_26 rfl (lv_at hl 0 rfl) ?_
          refine va_get (D := D) (ci := 5) (v := .ref m3) (C := "StatRowsModel") (T := TM) (N := 10) hx hb ht inM hown hK hP 0 rfl rfl 3 (by decide) (ht _ wd392) (fun _ h9 => h9) rfl dM_between_27 ?_
          refine lv_iload hx hb dM_between_30 (lv_at hl 5 rfl) ?_
          refine zz_iald (k := i) hx hb hK hP 3 0 rfl rfl (by omega) (by decide) dM_between_32 ?_
          refine zz_top (y := nI (T.getD i 0 % 256)) ((hM.1 i (by omega)).2.2) ?_
          refine lv_iload_n hx hb dM_between_33 rfl (lv_at hl 2 rfl) ?_
          refine lv_icmp_lt (tgt := 55) hx hb dM_between_34 (by decide) (fun c34 => ?_) (fun c34 => ?_)
          · -- taken
            have hbw : (isp pp (T.getD i 0) && btw fr to (T.getD i 0 % 256)) = false := by
              have : btw fr to (T.getD i 0 % 256) = false := decide_eq_false (fun q => q.1 c34)
              rw [this, Bool.and_false]
            refine lv_iload hx hb dM_between_55 (lv_at hl 4 rfl) ?_
            refine zz_top (y := nI ((T.take (i + 1)).countP (fun C => isp pp C && btw fr to (C % 256)))) (congrArg nI (by
              rw [tk1 _ i 0 (by omega), cp1]
              have : (isp pp (T.getD i 0) && btw fr to (T.getD i 0 % 256)) = false := hbw
              rw [this]; rfl)) ?_
            refine lv_istore (lv' := [(4, .int (nI ((T.take (i + 1)).countP (fun C => isp pp C && btw fr to (C % 256))))), (0, .ref m0), (1, .int (nI pp)), (2, .int fr), (3, .int to), (5, .int (nI i))]) hx hb dM_between_57 hl (by decide) rfl (fun ls hl => ?_)
            refine lv_iinc (v := nI (i + 1)) (lv' := [(5, .int (nI (i + 1))), (4, .int (nI ((T.take (i + 1)).countP (fun C => isp pp C && btw fr to (C % 256))))), (0, .ref m0), (1, .int (nI pp)), (2, .int fr), (3, .int to)]) hx hb dM_between_59 hl (k := 5) rfl (nI_1 i) (by decide) rfl (fun ls hl => ?_)
            refine lv_goto (tgt := 6) hx hb dM_between_62 (by decide) ?_
            exact ih6 (i + 1) (by omega) (by omega) ls (lv_sub hl [2, 3, 4, 5, 1, 0] rfl)
          · -- not taken
            refine lv_aload_n hx hb dM_between_37 rfl (lv_at hl 0 rfl) ?_
            refine va_get (D := D) (ci := 5) (v := .ref m3) (C := "StatRowsModel") (T := TM) (N := 10) hx hb ht inM hown hK hP 0 rfl rfl 3 (by decide) (ht _ wd392) (fun _ h9 => h9) rfl dM_between_38 ?_
            refine lv_iload hx hb dM_between_41 (lv_at hl 5 rfl) ?_
            refine zz_iald (k := i) hx hb hK hP 3 0 rfl rfl (by omega) (by decide) dM_between_43 ?_
            refine zz_top (y := nI (T.getD i 0 % 256)) ((hM.1 i (by omega)).2.2) ?_
            refine lv_iload_n hx hb dM_between_44 rfl (lv_at hl 3 rfl) ?_
            refine lv_icmp_gt (tgt := 55) hx hb dM_between_45 (by decide) (fun c45 => ?_) (fun c45 => ?_)
            · -- taken
              have hbw : (isp pp (T.getD i 0) && btw fr to (T.getD i 0 % 256)) = false := by
                have : btw fr to (T.getD i 0 % 256) = false := decide_eq_false (fun q => q.2 c45)
                rw [this, Bool.and_false]
              refine lv_iload hx hb dM_between_55 (lv_at hl 4 rfl) ?_
              refine zz_top (y := nI ((T.take (i + 1)).countP (fun C => isp pp C && btw fr to (C % 256)))) (congrArg nI (by
                rw [tk1 _ i 0 (by omega), cp1]
                have : (isp pp (T.getD i 0) && btw fr to (T.getD i 0 % 256)) = false := hbw
                rw [this]; rfl)) ?_
              refine lv_istore (lv' := [(4, .int (nI ((T.take (i + 1)).countP (fun C => isp pp C && btw fr to (C % 256))))), (0, .ref m0), (1, .int (nI pp)), (2, .int fr), (3, .int to), (5, .int (nI i))]) hx hb dM_between_57 hl (by decide) rfl (fun ls hl => ?_)
              refine lv_iinc (v := nI (i + 1)) (lv' := [(5, .int (nI (i + 1))), (4, .int (nI ((T.take (i + 1)).countP (fun C => isp pp C && btw fr to (C % 256))))), (0, .ref m0), (1, .int (nI pp)), (2, .int fr), (3, .int to)]) hx hb dM_between_59 hl (k := 5) rfl (nI_1 i) (by decide) rfl (fun ls hl => ?_)
              refine lv_goto (tgt := 6) hx hb dM_between_62 (by decide) ?_
              exact ih6 (i + 1) (by omega) (by omega) ls (lv_sub hl [2, 3, 4, 5, 1, 0] rfl)
            · -- not taken
              have hbw : (isp pp (T.getD i 0) && btw fr to (T.getD i 0 % 256)) = true := by
                have : btw fr to (T.getD i 0 % 256) = true := decide_eq_true ⟨c34, c45⟩
                rw [hip, this]; rfl
              refine lv_iload hx hb dM_between_48 (lv_at hl 4 rfl) ?_
              refine lv_iconst (v := nI 1) hx hb dM_between_50 (by decide) ?_
              refine lv_iadd hx hb dM_between_51 ?_
              refine zz_top (y := nI (((T.take i).countP (fun C => isp pp C && btw fr to (C % 256))) + 1)) (nI_add ((T.take i).countP (fun C => isp pp C && btw fr to (C % 256))) 1) ?_
              refine zz_top (y := nI ((T.take (i + 1)).countP (fun C => isp pp C && btw fr to (C % 256)))) (congrArg nI (by
                rw [tk1 _ i 0 (by omega), cp1]
                have : (isp pp (T.getD i 0) && btw fr to (T.getD i 0 % 256)) = true := hbw
                rw [this]; rfl)) ?_
              refine lv_goto (tgt := 57) hx hb dM_between_52 (by decide) ?_
              refine lv_istore (lv' := [(4, .int (nI ((T.take (i + 1)).countP (fun C => isp pp C && btw fr to (C % 256))))), (0, .ref m0), (1, .int (nI pp)), (2, .int fr), (3, .int to), (5, .int (nI i))]) hx hb dM_between_57 hl (by decide) rfl (fun ls hl => ?_)
              refine lv_iinc (v := nI (i + 1)) (lv' := [(5, .int (nI (i + 1))), (4, .int (nI ((T.take (i + 1)).countP (fun C => isp pp C && btw fr to (C % 256))))), (0, .ref m0), (1, .int (nI pp)), (2, .int fr), (3, .int to)]) hx hb dM_between_59 hl (k := 5) rfl (nI_1 i) (by decide) rfl (fun ls hl => ?_)
              refine lv_goto (tgt := 6) hx hb dM_between_62 (by decide) ?_
              exact ih6 (i + 1) (by omega) (by omega) ls (lv_sub hl [2, 3, 4, 5, 1, 0] rfl)
  exact lp6 ((T.length - 0) + 1) 0 (Nat.zero_le _) (Nat.lt_succ_self _) ls (lv_sub hl [2, 3, 4, 5, 1, 0] rfl)

abbrev rm_M_isSampled : Room := { frames := 1, cells := 0, slots := 0, locals := 21 }
set_option maxHeartbeats 4000000 in
set_option maxRecDepth 100000 in
theorem c_M_isSampled (l : Launch) (D : va_G) (cI cB : ClassId) (m0 m1 m2 m3 m4 m5 m6 n k e : Nat) (su pd ob : Nat → Int32) (T : List Nat) (hM : RM T su pd ob) (i : Nat) (hi : i < T.length) : Met l yM_isSampled wM_isSampled rm_M_isSampled (zz_R D vwCl [(cI, .int), (cB, .boolean)] [.ref m0, .int (nI i)] [(m0, .inr (5, [.int (nI T.length), .ref m1, .ref m2, .ref m3, .int (nI n), .ref m4, .int (nI e), .int (nI k), .ref m5, .ref m6])), (m1, .inl (cI, 400, .inl su)), (m2, .inl (cI, 400, .inl pd)), (m3, .inl (cI, 400, .inl ob))]) (vp_Si (fun r : Int32 => r = nI (smp (T.getD i 0 % 65536)).toNat)) 0 0 (fun _ => False) := by
  refine Met.ofW (cc := cM_isSampled) (maxL := 2) (ret := (some .boolean)) (by decide) rfl ?_
  intro pg ev s mt args below meth kd s₁ B hml hv
  obtain ⟨rfl, hP, hK, hN⟩ := hv
  have hx := B.exec
  have hb := B.bytes
  have hr := B.returns
  have ht : ∀ w ∈ W0, w.before _ s = true := fun w h => atoms_spec (ws := wM_isSampled) B.pre w (List.mem_cons_of_mem _ h)
  have hown : s.vm.findClass "StatRowsModel" = some mt.cls := findClass_of_methodNamed B.named
  have hlocks := B.notSynchronized
  have hl := lv_entry ([.ref m0, .int (nI i)]) (n := 2) (Nat.le_of_ble_eq_true rfl)
  rw [lg_entry_eq]
  generalize (lg_sl ([.ref m0, .int (nI i)]) ++ List.replicate (2 - (lg_sl ([.ref m0, .int (nI i)])).length) Slot.unset).toArray = ls at hl ⊢
  have hl : lv_has ls 2 [(0, .ref m0), (1, .int (nI i))] := hl
  have hM4 := hM.2.1
  refine lv_sipush (v := nI 256) hx hb dM_isSampled_0 (by decide) ?_
  refine lv_aload_n hx hb dM_isSampled_3 rfl (lv_at hl 0 rfl) ?_
  refine va_get (D := D) (ci := 5) (v := .ref m1) (C := "StatRowsModel") (T := TM) (N := 10) hx hb ht inM hown hK hP 0 rfl rfl 1 (by decide) (ht _ wd390) (fun _ h9 => h9) rfl dM_isSampled_4 ?_
  refine lv_iload_n hx hb dM_isSampled_7 rfl (lv_at hl 1 rfl) ?_
  refine zz_iald (k := i) hx hb hK hP 1 0 rfl rfl (by omega) (by decide) dM_isSampled_8 ?_
  refine zz_top (y := nI (T.getD i 0 / 256 % 256)) ((hM.1 i (by omega)).1) ?_
  refine lv_imul hx hb dM_isSampled_9 ?_
  refine zz_top (y := nI (256 * (T.getD i 0 / 256 % 256))) (pk_mul 256 (T.getD i 0 / 256 % 256)) ?_
  refine lv_aload_n hx hb dM_isSampled_10 rfl (lv_at hl 0 rfl) ?_
  refine va_get (D := D) (ci := 5) (v := .ref m3) (C := "StatRowsModel") (T := TM) (N := 10) hx hb ht inM hown hK hP 0 rfl rfl 3 (by decide) (ht _ wd392) (fun _ h9 => h9) rfl dM_isSampled_11 ?_
  refine lv_iload_n hx hb dM_isSampled_14 rfl (lv_at hl 1 rfl) ?_
  refine zz_iald (k := i) hx hb hK hP 3 0 rfl rfl (by omega) (by decide) dM_isSampled_15 ?_
  refine zz_top (y := nI (T.getD i 0 % 256)) ((hM.1 i (by omega)).2.2) ?_
  refine lv_iadd hx hb dM_isSampled_16 ?_
  refine zz_top (y := nI ((256 * (T.getD i 0 / 256 % 256)) + (T.getD i 0 % 256))) (nI_add (256 * (T.getD i 0 / 256 % 256)) (T.getD i 0 % 256)) ?_
  refine zz_top (y := nI (T.getD i 0 % 65536)) (congrArg nI (by omega)) ?_
  refine zz_ci (v := hsh (nI (T.getD i 0 % 65536))) (W.runS (As := [.int (nI (T.getD i 0 % 65536))]) (rest := []) ⟨hx, hb, hml, hown, ht⟩ (c_M_hash l _) (va_cwS 1 ht (gd_S wd463 wd464 wd6 wd465) rfl rfl rfl (by decide +kernel) ⟨Nat.le_of_ble_eq_true rfl, Nat.le_of_ble_eq_true rfl⟩) zz_N_S rfl rfl hl.1 rfl (lv_room (Nat.le_of_ble_eq_true rfl)) dM_isSampled_17 ⟨Nat.le_of_ble_eq_true rfl, Nat.le_of_ble_eq_true rfl⟩) ?_
  refine lv_iconst (v := nI 3) hx hb dM_isSampled_20 (by decide) ?_
  refine lv_iand hx hb dM_isSampled_21 ?_
  refine lv_if_ne (tgt := 29) hx hb dM_isSampled_22 (by decide) (fun c22 => ?_) (fun c22 => ?_)
  · -- taken
    have hs : smp (T.getD i 0 % 65536) = false := by unfold smp; simpa using c22
    refine lv_iconst (v := nI 0) hx hb dM_isSampled_29 (by decide) ?_
    exact zz_zretR (v := nI 0) hx hb hr hlocks (by decide) (by rw [hs]; rfl) dM_isSampled_30
  · -- not taken
    have hs : smp (T.getD i 0 % 65536) = true := by unfold smp; simpa using c22
    refine lv_iconst (v := nI 1) hx hb dM_isSampled_25 (by decide) ?_
    refine lv_goto (tgt := 30) hx hb dM_isSampled_26 (by decide) ?_
    exact zz_zretR (v := nI 1) hx hb hr hlocks (by decide) (by rw [hs]; rfl) dM_isSampled_30

abbrev rm_M_different : Room := { frames := 0, cells := 0, slots := 0, locals := 0 }
set_option maxHeartbeats 4000000 in
set_option maxRecDepth 100000 in
theorem c_M_different (l : Launch) (D : va_G) (cI cB : ClassId) (sz : Nat) (m0 m1 m2 m3 m4 m5 m6 n k e : Nat) (su pd ob : Nat → Int32) (T : List Nat) (hM : RM T su pd ob) (se : Nat → Int32) (b : Nat) (hb2 : b < 256) (bo : Bool) : Met l yM_different wM_different rm_M_different (zz_P D vwCl [(cI, .int), (cB, .boolean)] [.ref m0, .int (nI b), .int (nI bo.toNat)] [(m0, .inr (5, [.int (nI T.length), .ref m1, .ref m2, .ref m3, .int (nI n), .ref m4, .int (nI e), .int (nI k), .ref m5, .ref m6])), (m1, .inl (cI, 400, .inl su)), (m2, .inl (cI, 400, .inl pd)), (m3, .inl (cI, 400, .inl ob)), (m6, .inl (cB, 256, .inl se))] sz) (va_Qi (fun (r : Int32) (u : (Nat → Int32)) => r = nI (cnt (MA T b bo) 256)) (fun u : (Nat → Int32) => zz_B D vwCl [(cI, .int), (cB, .boolean)] (va_A [(m0, .inr (5, [.int (nI T.length), .ref m1, .ref m2, .ref m3, .int (nI n), .ref m4, .int (nI e), .int (nI k), .ref m5, .ref m6])), (m1, .inl (cI, 400, .inl su)), (m2, .inl (cI, 400, .inl pd)), (m3, .inl (cI, 400, .inl ob)), (m6, .inl (cB, 256, .inl se))] sz) [(m0, .inr (5, [.int (nI T.length), .ref m1, .ref m2, .ref m3, .int (nI n), .ref m4, .int (nI e), .int (nI k), .ref m5, .ref m6])), (m1, .inl (cI, 400, .inl su)), (m2, .inl (cI, 400, .inl pd)), (m3, .inl (cI, 400, .inl ob)), (m6, .inl (cB, 256, .inl u))]) (va_A [(m0, .inr (5, [.int (nI T.length), .ref m1, .ref m2, .ref m3, .int (nI n), .ref m4, .int (nI e), .int (nI k), .ref m5, .ref m6])), (m1, .inl (cI, 400, .inl su)), (m2, .inl (cI, 400, .inl pd)), (m3, .inl (cI, 400, .inl ob)), (m6, .inl (cB, 256, .inl se))] sz)) 0 0 (va_A [(m0, .inr (5, [.int (nI T.length), .ref m1, .ref m2, .ref m3, .int (nI n), .ref m4, .int (nI e), .int (nI k), .ref m5, .ref m6])), (m1, .inl (cI, 400, .inl su)), (m2, .inl (cI, 400, .inl pd)), (m3, .inl (cI, 400, .inl ob)), (m6, .inl (cB, 256, .inl se))] sz) := by
  refine Met.ofW (cc := cM_different) (maxL := 6) (ret := (some .int)) (by decide) rfl ?_
  intro pg ev s mt args below meth kd s₁ B hml hv
  obtain ⟨rfl, hsz, hP, hK, hD0, hN⟩ := hv
  have hx := B.exec
  have hb := B.bytes
  have hr := B.returns
  have ht : ∀ w ∈ W0, w.before _ s = true := fun w h => atoms_spec (ws := wM_different) B.pre w (List.mem_cons_of_mem _ h)
  have hown : s.vm.findClass "StatRowsModel" = some mt.cls := findClass_of_methodNamed B.named
  have hlocks := B.notSynchronized
  subst hsz
  have hD := hD0.self (sz := s.heap.size)
  generalize hAe : va_A [(m0, .inr (5, [.int (nI T.length), .ref m1, .ref m2, .ref m3, .int (nI n), .ref m4, .int (nI e), .int (nI k), .ref m5, .ref m6])), (m1, .inl (cI, 400, .inl su)), (m2, .inl (cI, 400, .inl pd)), (m3, .inl (cI, 400, .inl ob)), (m6, .inl (cB, 256, .inl se))] s.heap.size = A at hD ⊢
  have hA : ∀ q : Nat, s.heap.size ≤ q → A q := fun q h => by rw [← hAe]; exact Or.inr h
  have hS : va_S A s.heap s.heap [] := va_S.rf
  have hP : va_P D vwCl [(m0, .inr (5, [.int (nI T.length), .ref m1, .ref m2, .ref m3, .int (nI n), .ref m4, .int (nI e), .int (nI k), .ref m5, .ref m6])), (m1, .inl (cI, 400, .inl su)), (m2, .inl (cI, 400, .inl pd)), (m3, .inl (cI, 400, .inl ob)), (m6, .inl (cB, 256, .inl se))] s.heap := hP
  have hl := lv_entry ([.ref m0, .int (nI b), .int (nI bo.toNat)]) (n := 6) (Nat.le_of_ble_eq_true rfl)
  rw [lg_entry_eq]
  generalize (lg_sl ([.ref m0, .int (nI b), .int (nI bo.toNat)]) ++ List.replicate (6 - (lg_sl ([.ref m0, .int (nI b), .int (nI bo.toNat)])).length) Slot.unset).toArray = ls at hl ⊢
  have hl : lv_has ls 6 [(0, .ref m0), (1, .int (nI b)), (2, .int (nI bo.toNat))] := hl
  have hM4 := hM.2.1
  have hbo := btl bo
  refine lv_iconst (v := nI 0) hx hb dM_different_0 (by decide) ?_
  refine lv_istore_n (lv' := [(3, .int (nI 0)), (0, .ref m0), (1, .int (nI b)), (2, .int (nI bo.toNat))]) hx hb dM_different_1 rfl hl (by decide) rfl (fun ls hl => ?_)
  have lp2 : ∀ (fu : Nat) (i : Nat) (sg : Nat → Int32) (hi : i ≤ 256) (hsg : ∀ v, v < i → sg v = nI 0) (hm : 256 - i < fu) (H : Heap) (locs : List Loc) (hP : va_P D vwCl [(m0, .inr (5, [.int (nI T.length), .ref m1, .ref m2, .ref m3, .int (nI n), .ref m4, .int (nI e), .int (nI k), .ref m5, .ref m6])), (m1, .inl (cI, 400, .inl su)), (m2, .inl (cI, 400, .inl pd)), (m3, .inl (cI, 400, .inl ob)), (m6, .inl (cB, 256, .inl sg))] H) (hD : va_D A [(m0, .inr (5, [.int (nI T.length), .ref m1, .ref m2, .ref m3, .int (nI n), .ref m4, .int (nI e), .int (nI k), .ref m5, .ref m6])), (m1, .inl (cI, 400, .inl su)), (m2, .inl (cI, 400, .inl pd)), (m3, .inl (cI, 400, .inl ob)), (m6, .inl (cB, 256, .inl sg))]) (hS : va_S A s.heap H locs) (ls : Array Slot) (hl : lv_has ls 6 [(0, .ref m0), (1, .int (nI b)), (2, .int (nI bo.toNat)), (3, .int (nI i))]), W pg l ev (headSpec wM_different rm_M_different).room s mt (([.ref m0, .int (nI b), .int (nI bo.toNat)] : List Value).toArray) below meth kd H locs 0 0 (MQ below (va_Qi (fun (r : Int32) (u : (Nat → Int32)) => r = nI (cnt (MA T b bo) 256)) (fun u : (Nat → Int32) => zz_B D vwCl [(cI, .int), (cB, .boolean)] A [(m0, .inr (5, [.int (nI T.length), .ref m1, .ref m2, .ref m3, .int (nI n), .ref m4, .int (nI e), .int (nI k), .ref m5, .ref m6])), (m1, .inl (cI, 400, .inl su)), (m2, .inl (cI, 400, .inl pd)), (m3, .inl (cI, 400, .inl ob)), (m6, .inl (cB, 256, .inl u))]) A) (([.ref m0, .int (nI b), .int (nI bo.toNat)] : List Value).toArray) s 0 0 A) (F0 mt 2 ls []) := by
    intro fu
    induction fu with
    | zero => intro i sg hi hsg hm; exact absurd hm (Nat.not_lt_zero _)
    | succ fu ih2 =>
      intro i sg hi hsg hm H locs hP hD hS ls hl
      refine lv_iload_n hx hb dM_different_2 rfl (lv_at hl 3 rfl) ?_
      refine lv_sipush (v := nI 256) hx hb dM_different_3 (by decide) ?_
      refine lv_icmp_ge (tgt := 22) hx hb dM_different_6 (by decide) (fun c6 => ?_) (fun c6 => ?_)
      · -- taken
        have c6 : 256 ≤ i := (nI_leI (a := 256) (b := i) (by omega) (by omega)).mp c6
        have e256 : i = 256 := by omega
        refine lv_iconst (v := nI 0) hx hb dM_different_22 (by decide) ?_
        refine lv_istore_n (lv' := [(3, .int (nI 0)), (0, .ref m0), (1, .int (nI b)), (2, .int (nI bo.toNat))]) hx hb dM_different_23 rfl hl (by decide) rfl (fun ls hl => ?_)
        rw [show nI 0 = nI (cnt (MA (T.take 0) b bo) 256) from rfl] at hl
        refine lv_iconst (v := nI 0) hx hb dM_different_24 (by decide) ?_
        refine lv_istore (lv' := [(4, .int (nI 0)), (3, .int (nI (cnt (MA (T.take 0) b bo) 256))), (0, .ref m0), (1, .int (nI b)), (2, .int (nI bo.toNat))]) hx hb dM_different_25 hl (by decide) rfl (fun ls hl => ?_)
        have lp27 : ∀ (fu : Nat) (i : Nat) (sh : Nat → Int32) (hi : i ≤ T.length) (hsh2 : ∀ v, v < 256 → sh v = nI (MA (T.take i) b bo v).toNat) (hm : T.length - i < fu) (H : Heap) (locs : List Loc) (hP : va_P D vwCl [(m0, .inr (5, [.int (nI T.length), .ref m1, .ref m2, .ref m3, .int (nI n), .ref m4, .int (nI e), .int (nI k), .ref m5, .ref m6])), (m1, .inl (cI, 400, .inl su)), (m2, .inl (cI, 400, .inl pd)), (m3, .inl (cI, 400, .inl ob)), (m6, .inl (cB, 256, .inl sh))] H) (hD : va_D A [(m0, .inr (5, [.int (nI T.length), .ref m1, .ref m2, .ref m3, .int (nI n), .ref m4, .int (nI e), .int (nI k), .ref m5, .ref m6])), (m1, .inl (cI, 400, .inl su)), (m2, .inl (cI, 400, .inl pd)), (m3, .inl (cI, 400, .inl ob)), (m6, .inl (cB, 256, .inl sh))]) (hS : va_S A s.heap H locs) (ls : Array Slot) (hl : lv_has ls 6 [(0, .ref m0), (1, .int (nI b)), (2, .int (nI bo.toNat)), (3, .int (nI (cnt (MA (T.take i) b bo) 256))), (4, .int (nI i))]), W pg l ev (headSpec wM_different rm_M_different).room s mt (([.ref m0, .int (nI b), .int (nI bo.toNat)] : List Value).toArray) below meth kd H locs 0 0 (MQ below (va_Qi (fun (r : Int32) (u : (Nat → Int32)) => r = nI (cnt (MA T b bo) 256)) (fun u : (Nat → Int32) => zz_B D vwCl [(cI, .int), (cB, .boolean)] A [(m0, .inr (5, [.int (nI T.length), .ref m1, .ref m2, .ref m3, .int (nI n), .ref m4, .int (nI e), .int (nI k), .ref m5, .ref m6])), (m1, .inl (cI, 400, .inl su)), (m2, .inl (cI, 400, .inl pd)), (m3, .inl (cI, 400, .inl ob)), (m6, .inl (cB, 256, .inl u))]) A) (([.ref m0, .int (nI b), .int (nI bo.toNat)] : List Value).toArray) s 0 0 A) (F0 mt 27 ls []) := by
          intro fu
          induction fu with
          | zero => intro i sh hi hsh2 hm; exact absurd hm (Nat.not_lt_zero _)
          | succ fu ih27 =>
            intro i sh hi hsh2 hm H locs hP hD hS ls hl
            refine lv_iload hx hb dM_different_27 (lv_at hl 4 rfl) ?_
            refine lv_aload_n hx hb dM_different_29 rfl (lv_at hl 0 rfl) ?_
            refine va_get (D := D) (ci := 5) (v := .int (nI T.length)) (C := "StatRowsModel") (T := TM) (N := 10) hx hb ht inM hown hK hP 0 rfl rfl 0 (by decide) (ht _ wd389) (fun _ h9 => h9) rfl dM_different_30 ?_
            refine lv_icmp_ge (tgt := 101) hx hb dM_different_33 (by decide) (fun c33 => ?_) (fun c33 => ?_)
            · -- taken
              have c33 : T.length ≤ i := (nI_leI (a := T.length) (b := i) (by omega) (by omega)).mp c33
              refine lv_iload_n hx hb dM_different_101 rfl (lv_at hl 3 rfl) ?_
              exact zz_iretW (v := nI (cnt (MA (T.take i) b bo) 256)) (w1 := fun u : (Nat → Int32) => [(m0, .inr (5, [.int (nI T.length), .ref m1, .ref m2, .ref m3, .int (nI n), .ref m4, .int (nI e), .int (nI k), .ref m5, .ref m6])), (m1, .inl (cI, 400, .inl su)), (m2, .inl (cI, 400, .inl pd)), (m3, .inl (cI, 400, .inl ob)), (m6, .inl (cB, 256, .inl u))]) sh hx hb hr hlocks (by rw [tkl _ i (by omega)]) hP hK hD hS dM_different_102
            · -- not taken
              have c33 : ¬ (T.length ≤ i) := fun h => c33 ((nI_leI (a := T.length) (b := i) (by omega) (by omega)).mpr h)
              have hCi := hM.2.2.1 i (by omega)
              refine lv_iload_n hx hb dM_different_36 rfl (lv_at hl 2 rfl) ?_
              refine lv_if_eq (tgt := 50) hx hb dM_different_37 (by decide) (fun c37 => ?_) (fun c37 => ?_)
              · -- taken
                have c37 : bo.toNat = 0 := (nI_eq (a := bo.toNat) (b := 0) (by omega) (by omega)).mp c37
                refine lv_aload_n hx hb dM_different_50 rfl (lv_at hl 0 rfl) ?_
                refine va_get (D := D) (ci := 5) (v := .ref m3) (C := "StatRowsModel") (T := TM) (N := 10) hx hb ht inM hown hK hP 0 rfl rfl 3 (by decide) (ht _ wd392) (fun _ h9 => h9) rfl dM_different_51 ?_
                refine lv_iload hx hb dM_different_54 (lv_at hl 4 rfl) ?_
                refine zz_iald (k := i) hx hb hK hP 3 0 rfl rfl (by omega) (by decide) dM_different_56 ?_
                refine zz_top (y := nI (T.getD i 0 % 256)) ((hM.1 i (by omega)).2.2) ?_
                refine zz_top (y := nI (keyb bo (T.getD i 0))) (congrArg nI (by unfold keyb; rw [bt0 c37]; rfl)) ?_
                refine lv_istore (lv' := [(5, .int (nI (keyb bo (T.getD i 0)))), (0, .ref m0), (1, .int (nI b)), (2, .int (nI bo.toNat)), (3, .int (nI (cnt (MA (T.take i) b bo) 256))), (4, .int (nI i))]) hx hb dM_different_57 hl (by decide) rfl (fun ls hl => ?_)
                have hK256 : keyb bo (T.getD i 0) < 256 := by unfold keyb; split <;> omega
                have hdl := Nat.div_le_self b (2 ^ (T.getD i 0 / 65536))
                have hml2 : b / 2 ^ (T.getD i 0 / 65536) % 2 < 2 := Nat.mod_lt _ (by decide)
                refine lv_iload_n hx hb dM_different_59 rfl (lv_at hl 2 rfl) ?_
                refine lv_aload_n hx hb dM_different_60 rfl (lv_at hl 1 rfl) ?_
                refine va_get (D := D) (ci := 5) (v := .ref m2) (C := "StatRowsModel") (T := TM) (N := 10) hx hb ht inM hown hK hP 0 rfl rfl 2 (by decide) (ht _ wd391) (fun _ h9 => h9) rfl dM_different_61 ?_
                refine lv_iload hx hb dM_different_64 (lv_at hl 5 rfl) ?_
                refine zz_iald (k := i) hx hb hK hP 2 0 rfl rfl (by omega) (by decide) dM_different_66 ?_
                refine zz_top (y := nI (T.getD i 0 / 65536)) ((hM.1 i (by omega)).2.1) ?_
                refine lv_ishr hx hb dM_different_67 ?_
                refine zz_top (y := nI (b / 2 ^ (T.getD i 0 / 65536))) (zz_shrV (n := b) (k := T.getD i 0 / 65536) (by omega) (by omega)) ?_
                refine lv_iconst (v := nI 1) hx hb dM_different_68 (by decide) ?_
                refine lv_iand hx hb dM_different_69 ?_
                refine zz_top (y := nI ((b / 2 ^ (T.getD i 0 / 65536)) % 2)) (pk_andN (n := b / 2 ^ (T.getD i 0 / 65536)) (by omega) 1 (by decide)) ?_
                refine lv_iconst (v := nI 1) hx hb dM_different_70 (by decide) ?_
                refine lv_icmp_ne (tgt := 95) hx hb dM_different_71 (by decide) (fun c71 => ?_) (fun c71 => ?_)
                · -- taken
                  have c71 : ¬ ((b / 2 ^ (T.getD i 0 / 65536)) % 2 = 1) := fun h => c71 ((nI_eq (a := (b / 2 ^ (T.getD i 0 / 65536)) % 2) (b := 1) (by omega) (by omega)).mpr h)
                  have hhit : ∀ v, hitb b bo v (T.getD i 0) = false := fun v => by
                    unfold hitb bit_
                    have : (b / 2 ^ (T.getD i 0 / 65536) % 2 == 1) = false := by simpa using c71
                    rw [this]; rfl
                  have hsm : ∀ v, v < 256 → MA (T.take (i + 1)) b bo v = MA (T.take i) b bo v := fun v hv => by
                    rw [tk1 _ i 0 (by omega), MA1, hhit v]; exact Bool.or_false _
                  have ez : cnt (MA (T.take i) b bo) 256 = cnt (MA (T.take (i + 1)) b bo) 256 := (cnt_congr 256 hsm).symm
                  rw [ez] at hl
                  refine lv_iinc (v := nI (i + 1)) (lv' := [(4, .int (nI (i + 1))), (5, .int (nI (keyb bo (T.getD i 0)))), (0, .ref m0), (1, .int (nI b)), (2, .int (nI bo.toNat)), (3, .int (nI (cnt (MA (T.take (i + 1)) b bo) 256)))]) hx hb dM_different_95 hl (k := 5) rfl (nI_1 i) (by decide) rfl (fun ls hl => ?_)
                  refine lv_goto (tgt := 27) hx hb dM_different_98 (by decide) ?_
                  exact ih27 (i + 1) sh (by omega) (fun v hv => by rw [hsh2 v hv, hsm v hv]) (by omega) _ _ hP hD hS ls (lv_sub hl [2, 3, 4, 5, 0] rfl)
                · -- not taken
                  have c71 : (b / 2 ^ (T.getD i 0 / 65536)) % 2 = 1 := (nI_eq (a := (b / 2 ^ (T.getD i 0 / 65536)) % 2) (b := 1) (by omega) (by omega)).mp c71
                  have hbit : bit_ b (T.getD i 0 / 65536) = true := by unfold bit_; simpa using c71
                  refine lv_aload_n hx hb dM_different_74 rfl (lv_at hl 1 rfl) ?_
                  refine va_get (D := D) (ci := 5) (v := .ref m6) (C := "StatRowsModel") (T := TM) (N := 10) hx hb ht inM hown hK hP 0 rfl rfl 9 (by decide) (ht _ wd398) (fun _ h9 => h9) rfl dM_different_75 ?_
                  refine lv_iload hx hb dM_different_78 (lv_at hl 0 rfl) ?_
                  refine zz_zald (k := keyb bo (T.getD i 0)) hx hb hK hP 4 1 rfl rfl (by omega) (by decide) dM_different_80 ?_
                  refine zz_top (y := nI ((MA (T.take i) b bo (keyb bo (T.getD i 0))).toNat)) (hsh2 _ hK256) ?_
                  have hab := btl (MA (T.take i) b bo (keyb bo (T.getD i 0)))
                  refine lv_if_ne (tgt := 95) hx hb dM_different_81 (by decide) (fun c81 => ?_) (fun c81 => ?_)
                  · -- taken
                    have c81 : ¬ ((MA (T.take i) b bo (keyb bo (T.getD i 0))).toNat = 0) := fun h => c81 ((nI_eq (a := (MA (T.take i) b bo (keyb bo (T.getD i 0))).toNat) (b := 0) (by omega) (by omega)).mpr h)
                    have hak : MA (T.take i) b bo (keyb bo (T.getD i 0)) = true := bt1 c81
                    have hsm : ∀ v, v < 256 → MA (T.take (i + 1)) b bo v = MA (T.take i) b bo v := fun v hv => by
                      rw [tk1 _ i 0 (by omega), MA1]
                      by_cases q : v = keyb bo (T.getD i 0)
                      · rw [q, hak]; rfl
                      · rw [hit_no q, Bool.or_false]
                    have ez : cnt (MA (T.take i) b bo) 256 = cnt (MA (T.take (i + 1)) b bo) 256 := (cnt_congr 256 hsm).symm
                    rw [ez] at hl
                    refine lv_iinc (v := nI (i + 1)) (lv' := [(4, .int (nI (i + 1))), (5, .int (nI (keyb bo (T.getD i 0)))), (0, .ref m0), (1, .int (nI b)), (2, .int (nI bo.toNat)), (3, .int (nI (cnt (MA (T.take (i + 1)) b bo) 256)))]) hx hb dM_different_95 hl (k := 5) rfl (nI_1 i) (by decide) rfl (fun ls hl => ?_)
                    refine lv_goto (tgt := 27) hx hb dM_different_98 (by decide) ?_
                    exact ih27 (i + 1) sh (by omega) (fun v hv => by rw [hsh2 v hv, hsm v hv]) (by omega) _ _ hP hD hS ls (lv_sub hl [2, 3, 4, 5, 0] rfl)
                  · -- not taken
                    have c81 : (MA (T.take i) b bo (keyb bo (T.getD i 0))).toNat = 0 := (nI_eq (a := (MA (T.take i) b bo (keyb bo (T.getD i 0))).toNat) (b := 0) (by omega) (by omega)).mp c81
                    refine lv_aload_n hx hb dM_different_84 rfl (lv_at hl 1 rfl) ?_
                    refine va_get (D := D) (ci := 5) (v := .ref m6) (C := "StatRowsModel") (T := TM) (N := 10) hx hb ht inM hown hK hP 0 rfl rfl 9 (by decide) (ht _ wd398) (fun _ h9 => h9) rfl dM_different_85 ?_
                    refine lv_iload hx hb dM_different_88 (lv_at hl 0 rfl) ?_
                    refine lv_iconst (v := nI 1) hx hb dM_different_90 (by decide) ?_
                    refine zz_zast (k := keyb bo (T.getD i 0)) hx hb hK hP hD hS 4 1 rfl rfl (by decide) (by omega) (by decide) dM_different_91 (fun H locs hP hD hS => ?_)
                    have hP : va_P D vwCl [(m0, .inr (5, [.int (nI T.length), .ref m1, .ref m2, .ref m3, .int (nI n), .ref m4, .int (nI e), .int (nI k), .ref m5, .ref m6])), (m1, .inl (cI, 400, .inl su)), (m2, .inl (cI, 400, .inl pd)), (m3, .inl (cI, 400, .inl ob)), (m6, .inl (cB, 256, .inl (upd sh (keyb bo (T.getD i 0)) (nI 1))))] H := hP
                    have hD : va_D A [(m0, .inr (5, [.int (nI T.length), .ref m1, .ref m2, .ref m3, .int (nI n), .ref m4, .int (nI e), .int (nI k), .ref m5, .ref m6])), (m1, .inl (cI, 400, .inl su)), (m2, .inl (cI, 400, .inl pd)), (m3, .inl (cI, 400, .inl ob)), (m6, .inl (cB, 256, .inl (upd sh (keyb bo (T.getD i 0)) (nI 1))))] := hD
                    refine lv_iinc (v := nI (cnt (MA (T.take i) b bo) 256 + 1)) (lv' := [(3, .int (nI (cnt (MA (T.take i) b bo) 256 + 1))), (5, .int (nI (keyb bo (T.getD i 0)))), (0, .ref m0), (1, .int (nI b)), (2, .int (nI bo.toNat)), (4, .int (nI i))]) hx hb dM_different_92 hl (k := 4) rfl (nI_1 (cnt (MA (T.take i) b bo) 256)) (by decide) rfl (fun ls hl => ?_)
                    have hak : MA (T.take i) b bo (keyb bo (T.getD i 0)) = false := bt0 c81
                    have hqq : ∀ v, v < 256 → MA (T.take (i + 1)) b bo v = (MA (T.take i) b bo v || v == keyb bo (T.getD i 0)) := fun v hv => by
                      rw [tk1 _ i 0 (by omega), MA1]; rw [hit_yes hbit]
                    have ez : cnt (MA (T.take i) b bo) 256 + 1 = cnt (MA (T.take (i + 1)) b bo) 256 := (cnt_set 256 hK256 hak hqq).symm
                    rw [ez] at hl
                    have hset : ∀ v, v < 256 → upd sh (keyb bo (T.getD i 0)) (nI 1) v = nI (MA (T.take (i + 1)) b bo v).toNat := fun v hv => by
                      rw [hqq v hv]
                      by_cases q : v = keyb bo (T.getD i 0)
                      · rw [q, pk_us]; simp
                      · rw [pk_un q, hsh2 v hv]; have : (v == keyb bo (T.getD i 0)) = false := by simpa using q
                        rw [this, Bool.or_false]
                    refine lv_iinc (v := nI (i + 1)) (lv' := [(4, .int (nI (i + 1))), (3, .int (nI (cnt (MA (T.take (i + 1)) b bo) 256))), (5, .int (nI (keyb bo (T.getD i 0)))), (0, .ref m0), (1, .int (nI b)), (2, .int (nI bo.toNat))]) hx hb dM_different_95 hl (k := 5) rfl (nI_1 i) (by decide) rfl (fun ls hl => ?_)
                    refine lv_goto (tgt := 27) hx hb dM_different_98 (by decide) ?_
                    exact ih27 (i + 1) (upd sh (keyb bo (T.getD i 0)) (nI 1)) (by omega) hset (by omega) _ _ hP hD hS ls (lv_sub hl [3, 4, 5, 1, 0] rfl)
              · -- not taken
                have c37 : ¬ (bo.toNat = 0) := fun h => c37 ((nI_eq (a := bo.toNat) (b := 0) (by omega) (by omega)).mpr h)
                refine lv_aload_n hx hb dM_different_40 rfl (lv_at hl 0 rfl) ?_
                refine va_get (D := D) (ci := 5) (v := .ref m1) (C := "StatRowsModel") (T := TM) (N := 10) hx hb ht inM hown hK hP 0 rfl rfl 1 (by decide) (ht _ wd390) (fun _ h9 => h9) rfl dM_different_41 ?_
                refine lv_iload hx hb dM_different_44 (lv_at hl 4 rfl) ?_
                refine zz_iald (k := i) hx hb hK hP 1 0 rfl rfl (by omega) (by decide) dM_different_46 ?_
                refine zz_top (y := nI (T.getD i 0 / 256 % 256)) ((hM.1 i (by omega)).1) ?_
                refine zz_top (y := nI (keyb bo (T.getD i 0))) (congrArg nI (by unfold keyb; rw [bt1 c37]; rfl)) ?_
                refine lv_goto (tgt := 57) hx hb dM_different_47 (by decide) ?_
                refine lv_istore (lv' := [(5, .int (nI (keyb bo (T.getD i 0)))), (0, .ref m0), (1, .int (nI b)), (2, .int (nI bo.toNat)), (3, .int (nI (cnt (MA (T.take i) b bo) 256))), (4, .int (nI i))]) hx hb dM_different_57 hl (by decide) rfl (fun ls hl => ?_)
                have hK256 : keyb bo (T.getD i 0) < 256 := by unfold keyb; split <;> omega
                have hdl := Nat.div_le_self b (2 ^ (T.getD i 0 / 65536))
                have hml2 : b / 2 ^ (T.getD i 0 / 65536) % 2 < 2 := Nat.mod_lt _ (by decide)
                refine lv_iload_n hx hb dM_different_59 rfl (lv_at hl 2 rfl) ?_
                refine lv_aload_n hx hb dM_different_60 rfl (lv_at hl 1 rfl) ?_
                refine va_get (D := D) (ci := 5) (v := .ref m2) (C := "StatRowsModel") (T := TM) (N := 10) hx hb ht inM hown hK hP 0 rfl rfl 2 (by decide) (ht _ wd391) (fun _ h9 => h9) rfl dM_different_61 ?_
                refine lv_iload hx hb dM_different_64 (lv_at hl 5 rfl) ?_
                refine zz_iald (k := i) hx hb hK hP 2 0 rfl rfl (by omega) (by decide) dM_different_66 ?_
                refine zz_top (y := nI (T.getD i 0 / 65536)) ((hM.1 i (by omega)).2.1) ?_
                refine lv_ishr hx hb dM_different_67 ?_
                refine zz_top (y := nI (b / 2 ^ (T.getD i 0 / 65536))) (zz_shrV (n := b) (k := T.getD i 0 / 65536) (by omega) (by omega)) ?_
                refine lv_iconst (v := nI 1) hx hb dM_different_68 (by decide) ?_
                refine lv_iand hx hb dM_different_69 ?_
                refine zz_top (y := nI ((b / 2 ^ (T.getD i 0 / 65536)) % 2)) (pk_andN (n := b / 2 ^ (T.getD i 0 / 65536)) (by omega) 1 (by decide)) ?_
                refine lv_iconst (v := nI 1) hx hb dM_different_70 (by decide) ?_
                refine lv_icmp_ne (tgt := 95) hx hb dM_different_71 (by decide) (fun c71 => ?_) (fun c71 => ?_)
                · -- taken
                  have c71 : ¬ ((b / 2 ^ (T.getD i 0 / 65536)) % 2 = 1) := fun h => c71 ((nI_eq (a := (b / 2 ^ (T.getD i 0 / 65536)) % 2) (b := 1) (by omega) (by omega)).mpr h)
                  have hhit : ∀ v, hitb b bo v (T.getD i 0) = false := fun v => by
                    unfold hitb bit_
                    have : (b / 2 ^ (T.getD i 0 / 65536) % 2 == 1) = false := by simpa using c71
                    rw [this]; rfl
                  have hsm : ∀ v, v < 256 → MA (T.take (i + 1)) b bo v = MA (T.take i) b bo v := fun v hv => by
                    rw [tk1 _ i 0 (by omega), MA1, hhit v]; exact Bool.or_false _
                  have ez : cnt (MA (T.take i) b bo) 256 = cnt (MA (T.take (i + 1)) b bo) 256 := (cnt_congr 256 hsm).symm
                  rw [ez] at hl
                  refine lv_iinc (v := nI (i + 1)) (lv' := [(4, .int (nI (i + 1))), (5, .int (nI (keyb bo (T.getD i 0)))), (0, .ref m0), (1, .int (nI b)), (2, .int (nI bo.toNat)), (3, .int (nI (cnt (MA (T.take (i + 1)) b bo) 256)))]) hx hb dM_different_95 hl (k := 5) rfl (nI_1 i) (by decide) rfl (fun ls hl => ?_)
                  refine lv_goto (tgt := 27) hx hb dM_different_98 (by decide) ?_
                  exact ih27 (i + 1) sh (by omega) (fun v hv => by rw [hsh2 v hv, hsm v hv]) (by omega) _ _ hP hD hS ls (lv_sub hl [2, 3, 4, 5, 0] rfl)
                · -- not taken
                  have c71 : (b / 2 ^ (T.getD i 0 / 65536)) % 2 = 1 := (nI_eq (a := (b / 2 ^ (T.getD i 0 / 65536)) % 2) (b := 1) (by omega) (by omega)).mp c71
                  have hbit : bit_ b (T.getD i 0 / 65536) = true := by unfold bit_; simpa using c71
                  refine lv_aload_n hx hb dM_different_74 rfl (lv_at hl 1 rfl) ?_
                  refine va_get (D := D) (ci := 5) (v := .ref m6) (C := "StatRowsModel") (T := TM) (N := 10) hx hb ht inM hown hK hP 0 rfl rfl 9 (by decide) (ht _ wd398) (fun _ h9 => h9) rfl dM_different_75 ?_
                  refine lv_iload hx hb dM_different_78 (lv_at hl 0 rfl) ?_
                  refine zz_zald (k := keyb bo (T.getD i 0)) hx hb hK hP 4 1 rfl rfl (by omega) (by decide) dM_different_80 ?_
                  refine zz_top (y := nI ((MA (T.take i) b bo (keyb bo (T.getD i 0))).toNat)) (hsh2 _ hK256) ?_
                  have hab := btl (MA (T.take i) b bo (keyb bo (T.getD i 0)))
                  refine lv_if_ne (tgt := 95) hx hb dM_different_81 (by decide) (fun c81 => ?_) (fun c81 => ?_)
                  · -- taken
                    have c81 : ¬ ((MA (T.take i) b bo (keyb bo (T.getD i 0))).toNat = 0) := fun h => c81 ((nI_eq (a := (MA (T.take i) b bo (keyb bo (T.getD i 0))).toNat) (b := 0) (by omega) (by omega)).mpr h)
                    have hak : MA (T.take i) b bo (keyb bo (T.getD i 0)) = true := bt1 c81
                    have hsm : ∀ v, v < 256 → MA (T.take (i + 1)) b bo v = MA (T.take i) b bo v := fun v hv => by
                      rw [tk1 _ i 0 (by omega), MA1]
                      by_cases q : v = keyb bo (T.getD i 0)
                      · rw [q, hak]; rfl
                      · rw [hit_no q, Bool.or_false]
                    have ez : cnt (MA (T.take i) b bo) 256 = cnt (MA (T.take (i + 1)) b bo) 256 := (cnt_congr 256 hsm).symm
                    rw [ez] at hl
                    refine lv_iinc (v := nI (i + 1)) (lv' := [(4, .int (nI (i + 1))), (5, .int (nI (keyb bo (T.getD i 0)))), (0, .ref m0), (1, .int (nI b)), (2, .int (nI bo.toNat)), (3, .int (nI (cnt (MA (T.take (i + 1)) b bo) 256)))]) hx hb dM_different_95 hl (k := 5) rfl (nI_1 i) (by decide) rfl (fun ls hl => ?_)
                    refine lv_goto (tgt := 27) hx hb dM_different_98 (by decide) ?_
                    exact ih27 (i + 1) sh (by omega) (fun v hv => by rw [hsh2 v hv, hsm v hv]) (by omega) _ _ hP hD hS ls (lv_sub hl [2, 3, 4, 5, 0] rfl)
                  · -- not taken
                    have c81 : (MA (T.take i) b bo (keyb bo (T.getD i 0))).toNat = 0 := (nI_eq (a := (MA (T.take i) b bo (keyb bo (T.getD i 0))).toNat) (b := 0) (by omega) (by omega)).mp c81
                    refine lv_aload_n hx hb dM_different_84 rfl (lv_at hl 1 rfl) ?_
                    refine va_get (D := D) (ci := 5) (v := .ref m6) (C := "StatRowsModel") (T := TM) (N := 10) hx hb ht inM hown hK hP 0 rfl rfl 9 (by decide) (ht _ wd398) (fun _ h9 => h9) rfl dM_different_85 ?_
                    refine lv_iload hx hb dM_different_88 (lv_at hl 0 rfl) ?_
                    refine lv_iconst (v := nI 1) hx hb dM_different_90 (by decide) ?_
                    refine zz_zast (k := keyb bo (T.getD i 0)) hx hb hK hP hD hS 4 1 rfl rfl (by decide) (by omega) (by decide) dM_different_91 (fun H locs hP hD hS => ?_)
                    have hP : va_P D vwCl [(m0, .inr (5, [.int (nI T.length), .ref m1, .ref m2, .ref m3, .int (nI n), .ref m4, .int (nI e), .int (nI k), .ref m5, .ref m6])), (m1, .inl (cI, 400, .inl su)), (m2, .inl (cI, 400, .inl pd)), (m3, .inl (cI, 400, .inl ob)), (m6, .inl (cB, 256, .inl (upd sh (keyb bo (T.getD i 0)) (nI 1))))] H := hP
                    have hD : va_D A [(m0, .inr (5, [.int (nI T.length), .ref m1, .ref m2, .ref m3, .int (nI n), .ref m4, .int (nI e), .int (nI k), .ref m5, .ref m6])), (m1, .inl (cI, 400, .inl su)), (m2, .inl (cI, 400, .inl pd)), (m3, .inl (cI, 400, .inl ob)), (m6, .inl (cB, 256, .inl (upd sh (keyb bo (T.getD i 0)) (nI 1))))] := hD
                    refine lv_iinc (v := nI (cnt (MA (T.take i) b bo) 256 + 1)) (lv' := [(3, .int (nI (cnt (MA (T.take i) b bo) 256 + 1))), (5, .int (nI (keyb bo (T.getD i 0)))), (0, .ref m0), (1, .int (nI b)), (2, .int (nI bo.toNat)), (4, .int (nI i))]) hx hb dM_different_92 hl (k := 4) rfl (nI_1 (cnt (MA (T.take i) b bo) 256)) (by decide) rfl (fun ls hl => ?_)
                    have hak : MA (T.take i) b bo (keyb bo (T.getD i 0)) = false := bt0 c81
                    have hqq : ∀ v, v < 256 → MA (T.take (i + 1)) b bo v = (MA (T.take i) b bo v || v == keyb bo (T.getD i 0)) := fun v hv => by
                      rw [tk1 _ i 0 (by omega), MA1]; rw [hit_yes hbit]
                    have ez : cnt (MA (T.take i) b bo) 256 + 1 = cnt (MA (T.take (i + 1)) b bo) 256 := (cnt_set 256 hK256 hak hqq).symm
                    rw [ez] at hl
                    have hset : ∀ v, v < 256 → upd sh (keyb bo (T.getD i 0)) (nI 1) v = nI (MA (T.take (i + 1)) b bo v).toNat := fun v hv => by
                      rw [hqq v hv]
                      by_cases q : v = keyb bo (T.getD i 0)
                      · rw [q, pk_us]; simp
                      · rw [pk_un q, hsh2 v hv]; have : (v == keyb bo (T.getD i 0)) = false := by simpa using q
                        rw [this, Bool.or_false]
                    refine lv_iinc (v := nI (i + 1)) (lv' := [(4, .int (nI (i + 1))), (3, .int (nI (cnt (MA (T.take (i + 1)) b bo) 256))), (5, .int (nI (keyb bo (T.getD i 0)))), (0, .ref m0), (1, .int (nI b)), (2, .int (nI bo.toNat))]) hx hb dM_different_95 hl (k := 5) rfl (nI_1 i) (by decide) rfl (fun ls hl => ?_)
                    refine lv_goto (tgt := 27) hx hb dM_different_98 (by decide) ?_
                    exact ih27 (i + 1) (upd sh (keyb bo (T.getD i 0)) (nI 1)) (by omega) hset (by omega) _ _ hP hD hS ls (lv_sub hl [3, 4, 5, 1, 0] rfl)
        exact lp27 ((T.length - 0) + 1) 0 sg (Nat.zero_le _) (fun v h => by rw [hsg v (by omega)]; rfl) (Nat.lt_succ_self _) _ _ hP hD hS ls (lv_sub hl [2, 3, 4, 1, 0] rfl)
      · -- not taken
        have c6 : ¬ (256 ≤ i) := fun h => c6 ((nI_leI (a := 256) (b := i) (by omega) (by omega)).mpr h)
        refine lv_aload_n hx hb dM_different_9 rfl (lv_at hl 0 rfl) ?_
        refine va_get (D := D) (ci := 5) (v := .ref m6) (C := "StatRowsModel") (T := TM) (N := 10) hx hb ht inM hown hK hP 0 rfl rfl 9 (by decide) (ht _ wd398) (fun _ h9 => h9) rfl dM_different_10 ?_
        refine lv_iload_n hx hb dM_different_13 rfl (lv_at hl 3 rfl) ?_
        refine lv_iconst (v := nI 0) hx hb dM_different_14 (by decide) ?_
        refine zz_zast (k := i) hx hb hK hP hD hS 4 1 rfl rfl (by decide) (by omega) (by decide) dM_different_15 (fun H locs hP hD hS => ?_)
        have hP : va_P D vwCl [(m0, .inr (5, [.int (nI T.length), .ref m1, .ref m2, .ref m3, .int (nI n), .ref m4, .int (nI e), .int (nI k), .ref m5, .ref m6])), (m1, .inl (cI, 400, .inl su)), (m2, .inl (cI, 400, .inl pd)), (m3, .inl (cI, 400, .inl ob)), (m6, .inl (cB, 256, .inl (upd sg i (nI 0))))] H := hP
        have hD : va_D A [(m0, .inr (5, [.int (nI T.length), .ref m1, .ref m2, .ref m3, .int (nI n), .ref m4, .int (nI e), .int (nI k), .ref m5, .ref m6])), (m1, .inl (cI, 400, .inl su)), (m2, .inl (cI, 400, .inl pd)), (m3, .inl (cI, 400, .inl ob)), (m6, .inl (cB, 256, .inl (upd sg i (nI 0))))] := hD
        refine lv_iinc (v := nI (i + 1)) (lv' := [(3, .int (nI (i + 1))), (0, .ref m0), (1, .int (nI b)), (2, .int (nI bo.toNat))]) hx hb dM_different_16 hl (k := 3) rfl (nI_1 i) (by decide) rfl (fun ls hl => ?_)
        refine lv_goto (tgt := 2) hx hb dM_different_19 (by decide) ?_
        exact ih2 (i + 1) (upd sg i (nI 0)) (by omega) (fun v h => by
          by_cases q : v = i
          · rw [q, pk_us]
          · rw [pk_un q]; exact hsg v (by omega)) (by omega) _ _ hP hD hS ls (lv_sub hl [1, 2, 3, 0] rfl)
  exact lp2 ((256 - 0) + 1) 0 se (Nat.zero_le _) (fun v h => absurd h (Nat.not_lt_zero _)) (Nat.lt_succ_self _) s.heap _ hP hD hS ls (lv_sub hl [1, 2, 3, 0] rfl)
