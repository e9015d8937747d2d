set_option maxHeartbeats 4000000 in
set_option maxRecDepth 100000 in
theorem law_loop {pg : Program} {l : Launch} {ev : Env} {s : State} {mt : MethodId} {below : List Frame} {meth : Method} {kd : Code} {D : va_G} {cI cB : ClassId} {b L : Nat} {xs : Nat → Int32} {A : Nat → Prop} (C0 : lw_At pg s mt meth kd b L xs) (hK : va_K D vwCl [(cI, .int), (cB, .boolean)] s) (hN : NW s) (hZ : ZT A s s.heap) (hA : ∀ q, s.heap.size ≤ q → A q) (hbA : ¬ A b) (hL : L ≤ 2048) {x0 t0 t1 t2 p0 p1_ p2_ p3_ v0 v1 g0 g1 ta m0 m1 m2 m3 m4 m5 m6 : Nat} (hA2 : ∀ q, A q → s.heap.size ≤ q) : ∀ (fu it i : Nat) (hm : L + 1 - i < fu) (hit4 : i = 4 * it) (hiL : i ≤ L) (f g : Nat → Int32) (Ls : Nat → List Nat) (fs fp fo : Nat → Int32) (n : Nat) (z : Nat → Int32) (k e : Nat) (tl rk : Nat → Int32) (su pd ob : Nat → Int32) (T : List Nat) (ak cn se : Nat → Int32) (I : LI it f g Ls fs fp fo n z k e su pd ob T ak cn) (H : Heap) (locs : List Loc) (hP : va_P D vwCl [(x0, .inr (4, [.ref t0, .ref p0, .ref v0, .ref g0, .ref ta])), (t0, .inr (0, [.ref t1, .ref t2])), (t1, .inl (cI, 400, .inl f)), (t2, .inl (cI, 9, .inl g)), (p0, .inr (1, [.ref p1_, .ref p2_, .ref p3_, .int (nI n)])), (p1_, .inl (cI, 30, .inl fs)), (p2_, .inl (cI, 30, .inl fp)), (p3_, .inl (cI, 30, .inl fo)), (v0, .inr (2, [.ref v1, .int (nI k), .int (nI e)])), (v1, .inl (cI, 320, .inl z)), (g0, .inr (3, [.ref g1])), (g1, .inl (cI, 16, .inl rk)), (ta, .inl (cI, 256, .inl tl)), (m0, .inr (5, [.int (nI T.length), .ref m1, .ref m2, .ref m3, .int (nI n), .ref m4, .int (nI e), .int (nI k), .ref m5, .ref m6])), (m1, .inl (cI, 400, .inl su)), (m2, .inl (cI, 400, .inl pd)), (m3, .inl (cI, 400, .inl ob)), (m4, .inl (cI, 90, .inl ak)), (m5, .inl (cI, 320, .inl cn)), (m6, .inl (cB, 256, .inl se))] H) (hD : va_D A [(x0, .inr (4, [.ref t0, .ref p0, .ref v0, .ref g0, .ref ta])), (t0, .inr (0, [.ref t1, .ref t2])), (t1, .inl (cI, 400, .inl f)), (t2, .inl (cI, 9, .inl g)), (p0, .inr (1, [.ref p1_, .ref p2_, .ref p3_, .int (nI n)])), (p1_, .inl (cI, 30, .inl fs)), (p2_, .inl (cI, 30, .inl fp)), (p3_, .inl (cI, 30, .inl fo)), (v0, .inr (2, [.ref v1, .int (nI k), .int (nI e)])), (v1, .inl (cI, 320, .inl z)), (g0, .inr (3, [.ref g1])), (g1, .inl (cI, 16, .inl rk)), (ta, .inl (cI, 256, .inl tl)), (m0, .inr (5, [.int (nI T.length), .ref m1, .ref m2, .ref m3, .int (nI n), .ref m4, .int (nI e), .int (nI k), .ref m5, .ref m6])), (m1, .inl (cI, 400, .inl su)), (m2, .inl (cI, 400, .inl pd)), (m3, .inl (cI, 400, .inl ob)), (m4, .inl (cI, 90, .inl ak)), (m5, .inl (cI, 320, .inl cn)), (m6, .inl (cB, 256, .inl se))]) (hS : va_S A s.heap H locs) (ls : Array Slot) (hl : lv_has ls 4 [(0, .ref b), (1, .ref x0), (2, .ref m0), (3, .int (nI i))]), W pg l ev room_1 s mt #[Value.ref b] below meth kd H locs 20 2982 (lw_Z below #[Value.ref b] s) (F0 mt 18 ls []) := by
  obtain ⟨hx, hb, hr, hml, hown, hts, hX, hbl, hlocks, hgv⟩ := id C0
  intro fu
  induction fu with
  | zero => intro it i hm; exact absurd hm (Nat.not_lt_zero _)
  | succ fu ih =>
    intro it i hm hit4 hiL f g Ls fs fp fo n z k e tl rk su pd ob T ak cn se I H locs hP hD hS ls hl
    refine lv_iload_n hx hb dL_law_18 rfl (lv_at hl 3 rfl) ?_
    refine lv_aload_n hx hb dL_law_19 rfl (lv_at hl 0 rfl) ?_
    refine va_slen hx hb hX hbl hbA hS dL_law_20 ?_
    refine lv_iconst (v := nI 4) hx hb dL_law_21 (by decide) ?_
    refine lv_isub hx hb dL_law_22 ?_
    refine lv_icmp_gt (tgt := 734) hx hb dL_law_23 (by decide) (fun c23 => ?_) (fun c23 => ?_)
    · refine lv_iconst (v := 1) hx hb dL_law_734 (by decide) ?_
      refine va_forget (fun q hq => hA2 _ (hS.2.2 q hq)) ?_
      exact lw_ret hx hb hr hlocks dL_law_735
    · have hi : i + 4 ≤ L := lp_cond (by omega) (by omega) c23
      have K : ∀ (f g : Nat → Int32) (Ls : Nat → List Nat) (fs fp fo : Nat → Int32) (n : Nat) (z : Nat → Int32) (k e : Nat) (tl rk : Nat → Int32) (su pd ob : Nat → Int32) (T : List Nat) (ak cn se : Nat → Int32) (I : LI (it + 1) f g Ls fs fp fo n z k e su pd ob T ak cn) (H : Heap) (locs : List Loc) (hP : va_P D vwCl [(x0, .inr (4, [.ref t0, .ref p0, .ref v0, .ref g0, .ref ta])), (t0, .inr (0, [.ref t1, .ref t2])), (t1, .inl (cI, 400, .inl f)), (t2, .inl (cI, 9, .inl g)), (p0, .inr (1, [.ref p1_, .ref p2_, .ref p3_, .int (nI n)])), (p1_, .inl (cI, 30, .inl fs)), (p2_, .inl (cI, 30, .inl fp)), (p3_, .inl (cI, 30, .inl fo)), (v0, .inr (2, [.ref v1, .int (nI k), .int (nI e)])), (v1, .inl (cI, 320, .inl z)), (g0, .inr (3, [.ref g1])), (g1, .inl (cI, 16, .inl rk)), (ta, .inl (cI, 256, .inl tl)), (m0, .inr (5, [.int (nI T.length), .ref m1, .ref m2, .ref m3, .int (nI n), .ref m4, .int (nI e), .int (nI k), .ref m5, .ref m6])), (m1, .inl (cI, 400, .inl su)), (m2, .inl (cI, 400, .inl pd)), (m3, .inl (cI, 400, .inl ob)), (m4, .inl (cI, 90, .inl ak)), (m5, .inl (cI, 320, .inl cn)), (m6, .inl (cB, 256, .inl se))] H) (hD : va_D A [(x0, .inr (4, [.ref t0, .ref p0, .ref v0, .ref g0, .ref ta])), (t0, .inr (0, [.ref t1, .ref t2])), (t1, .inl (cI, 400, .inl f)), (t2, .inl (cI, 9, .inl g)), (p0, .inr (1, [.ref p1_, .ref p2_, .ref p3_, .int (nI n)])), (p1_, .inl (cI, 30, .inl fs)), (p2_, .inl (cI, 30, .inl fp)), (p3_, .inl (cI, 30, .inl fo)), (v0, .inr (2, [.ref v1, .int (nI k), .int (nI e)])), (v1, .inl (cI, 320, .inl z)), (g0, .inr (3, [.ref g1])), (g1, .inl (cI, 16, .inl rk)), (ta, .inl (cI, 256, .inl tl)), (m0, .inr (5, [.int (nI T.length), .ref m1, .ref m2, .ref m3, .int (nI n), .ref m4, .int (nI e), .int (nI k), .ref m5, .ref m6])), (m1, .inl (cI, 400, .inl su)), (m2, .inl (cI, 400, .inl pd)), (m3, .inl (cI, 400, .inl ob)), (m4, .inl (cI, 90, .inl ak)), (m5, .inl (cI, 320, .inl cn)), (m6, .inl (cB, 256, .inl se))]) (hS : va_S A s.heap H locs) (ls : Array Slot) (hl : lv_has ls 4 [(0, .ref b), (1, .ref x0), (2, .ref m0), (3, .int (nI i))]), W pg l ev room_1 s mt #[Value.ref b] below meth kd H locs 20 2982 (lw_Z below #[Value.ref b] s) (F0 mt 728 ls []) := by
        intro f g Ls fs fp fo n z k e tl rk su pd ob T ak cn se I2 H locs hP hD hS ls hl
        refine lv_iinc (v := nI (i + 4)) (lv' := [(3, .int (nI (i + 4))), (0, .ref b), (1, .ref x0), (2, .ref m0)]) hx hb dL_law_728 hl (k := 3) rfl (nI_add i 4) (by decide) rfl (fun ls hl => ?_)
        refine lv_goto (tgt := 18) hx hb dL_law_731 (by decide) ?_
        exact ih (it + 1) (i + 4) (by omega) (by omega) hi f g Ls fs fp fo n z k e tl rk su pd ob T ak cn se I2 H locs hP hD hS ls (lv_sub hl [1, 2, 3, 0] rfl)
      refine lv_aload_n hx hb dL_law_26 rfl (lv_at hl 0 rfl) ?_
      refine lv_iload_n hx hb dL_law_27 rfl (lv_at hl 3 rfl) ?_
      refine zz_sld (k := i) hx hb hX hbl hbA hS (by omega) (by omega) dL_law_28 ?_
      refine lv_bipush (v := nI 31) hx hb dL_law_29 (by decide) ?_
      refine lv_iand hx hb dL_law_31 ?_
      obtain ⟨j, hj, ej⟩ := pk_andE (xs i) (m := nI 31) 5 (by decide)
      refine zz_top ej ?_
      by_cases t32_0 : nI j = nI 0
      · refine zz_top t32_0 ?_
        refine lv_tableIn (tgt := 120) hx hb dL_law_32 (by decide) (by decide) (by first | rfl | decide) (by decide) ?_
        exact law_triple C0 hK hN hZ hA hbA hL hit4 hi I K H locs hP hD hS ls hl
      by_cases t32_1 : nI j = nI 1
      · refine zz_top t32_1 ?_
        refine lv_tableIn (tgt := 163) hx hb dL_law_32 (by decide) (by decide) (by first | rfl | decide) (by decide) ?_
        exact law_drop C0 hK hN hZ hA hbA hL hit4 hi I K H locs hP hD hS ls hl
      by_cases t32_2 : nI j = nI 2
      · refine zz_top t32_2 ?_
        refine lv_tableIn (tgt := 206) hx hb dL_law_32 (by decide) (by decide) (by first | rfl | decide) (by decide) ?_
        exact law_count C0 hK hN hZ hA hbA hL hit4 hi I K H locs hP hD hS ls hl
      by_cases t32_3 : nI j = nI 3
      · refine zz_top t32_3 ?_
        refine lv_tableIn (tgt := 239) hx hb dL_law_32 (by decide) (by decide) (by first | rfl | decide) (by decide) ?_
        exact law_chain C0 hK hN hZ hA hbA hL hit4 hi I K H locs hP hD hS ls hl
      by_cases t32_4 : nI j = nI 4
      · refine zz_top t32_4 ?_
        refine lv_tableIn (tgt := 273) hx hb dL_law_32 (by decide) (by decide) (by first | rfl | decide) (by decide) ?_
        exact law_star C0 hK hN hZ hA hbA hL hit4 hi I K H locs hP hD hS ls hl
      by_cases t32_5 : nI j = nI 5
      · refine zz_top t32_5 ?_
        refine lv_tableIn (tgt := 307) hx hb dL_law_32 (by decide) (by decide) (by first | rfl | decide) (by decide) ?_
        exact law_bucket C0 hK hN hZ hA hbA hL hit4 hi I K H locs hP hD hS ls hl
      by_cases t32_6 : nI j = nI 6
      · refine zz_top t32_6 ?_
        refine lv_tableIn (tgt := 350) hx hb dL_law_32 (by decide) (by decide) (by first | rfl | decide) (by decide) ?_
        exact law_quantile C0 hK hN hZ hA hbA hL hit4 hi I K H locs hP hD hS ls hl
      by_cases t32_7 : nI j = nI 7
      · refine zz_top t32_7 ?_
        refine lv_tableIn (tgt := 383) hx hb dL_law_32 (by decide) (by decide) (by first | rfl | decide) (by decide) ?_
        exact law_register C0 hK hN hZ hA hbA hL hit4 hi I K H locs hP hD hS ls hl
      by_cases t32_8 : nI j = nI 8
      · refine zz_top t32_8 ?_
        refine lv_tableIn (tgt := 416) hx hb dL_law_32 (by decide) (by decide) (by first | rfl | decide) (by decide) ?_
        exact law_distinct C0 hK hN hZ hA hbA hL hit4 hi I K H locs hP hD hS ls hl
      by_cases t32_9 : nI j = nI 9
      · refine zz_top t32_9 ?_
        refine lv_tableIn (tgt := 450) hx hb dL_law_32 (by decide) (by decide) (by first | rfl | decide) (by decide) ?_
        exact law_estimate C0 hK hN hZ hA hbA hL hit4 hi I K H locs hP hD hS ls hl
      by_cases t32_10 : nI j = nI 10
      · refine zz_top t32_10 ?_
        refine lv_tableIn (tgt := 494) hx hb dL_law_32 (by decide) (by decide) (by first | rfl | decide) (by decide) ?_
        exact law_range C0 hK hN hZ hA hbA hL hit4 hi I K H locs hP hD hS ls hl
      by_cases t32_11 : nI j = nI 11
      · refine zz_top t32_11 ?_
        refine lv_tableIn (tgt := 537) hx hb dL_law_32 (by decide) (by decide) (by first | rfl | decide) (by decide) ?_
        exact law_sample C0 hK hN hZ hA hbA hL hit4 hi I K H locs hP hD hS ls hl
      by_cases t32_12 : nI j = nI 12
      · refine zz_top t32_12 ?_
        refine lv_tableIn (tgt := 570) hx hb dL_law_32 (by decide) (by decide) (by first | rfl | decide) (by decide) ?_
        exact law_pattern C0 hK hN hZ hA hbA hL hit4 hi I K H locs hP hD hS ls hl
      by_cases t32_13 : nI j = nI 13
      · refine zz_top t32_13 ?_
        refine lv_tableIn (tgt := 613) hx hb dL_law_32 (by decide) (by decide) (by first | rfl | decide) (by decide) ?_
        exact law_matches C0 hK hN hZ hA hbA hL hit4 hi I K H locs hP hD hS ls hl
      by_cases t32_14 : nI j = nI 14
      · refine zz_top t32_14 ?_
        refine lv_tableIn (tgt := 636) hx hb dL_law_32 (by decide) (by decide) (by first | rfl | decide) (by decide) ?_
        exact law_version C0 hK hN hZ hA hbA hL hit4 hi I K H locs hP hD hS ls hl
      by_cases t32_15 : nI j = nI 15
      · refine zz_top t32_15 ?_
        refine lv_tableIn (tgt := 649) hx hb dL_law_32 (by decide) (by decide) (by first | rfl | decide) (by decide) ?_
        exact law_countAt C0 hK hN hZ hA hbA hL hit4 hi I K H locs hP hD hS ls hl
      by_cases t32_16 : nI j = nI 16
      · refine zz_top t32_16 ?_
        refine lv_tableIn (tgt := 682) hx hb dL_law_32 (by decide) (by decide) (by first | rfl | decide) (by decide) ?_
        exact law_forget C0 hK hN hZ hA hbA hL hit4 hi I K H locs hP hD hS ls hl
      by_cases t32_17 : nI j = nI 17
      · refine zz_top t32_17 ?_
        refine lv_tableIn (tgt := 705) hx hb dL_law_32 (by decide) (by decide) (by first | rfl | decide) (by decide) ?_
        exact law_told C0 hK hN hZ hA hbA hL hit4 hi I K H locs hP hD hS ls hl
      have hout32 : (nI j).toInt < 0 ∨ 17 < (nI j).toInt := zz_tout 0 17 (by decide) (fun k hk1 hk2 q => by
        rcases (show k = 0 ∨ k = 1 ∨ k = 2 ∨ k = 3 ∨ k = 4 ∨ k = 5 ∨ k = 6 ∨ k = 7 ∨ k = 8 ∨ k = 9 ∨ k = 10 ∨ k = 11 ∨ k = 12 ∨ k = 13 ∨ k = 14 ∨ k = 15 ∨ k = 16 ∨ k = 17 by omega) with rfl | rfl | rfl | rfl | rfl | rfl | rfl | rfl | rfl | rfl | rfl | rfl | rfl | rfl | rfl | rfl | rfl | rfl
        · exact t32_0 q
        · exact t32_1 q
        · exact t32_2 q
        · exact t32_3 q
        · exact t32_4 q
        · exact t32_5 q
        · exact t32_6 q
        · exact t32_7 q
        · exact t32_8 q
        · exact t32_9 q
        · exact t32_10 q
        · exact t32_11 q
        · exact t32_12 q
        · exact t32_13 q
        · exact t32_14 q
        · exact t32_15 q
        · exact t32_16 q
        · exact t32_17 q)
      refine lv_tableOut (tgt := 728) hx hb dL_law_32 hout32 (by decide) ?_
      exact K f g Ls fs fp fo n z k e tl rk su pd ob T ak cn se (LI_s I) H locs hP hD hS ls hl
