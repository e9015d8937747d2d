set_option maxHeartbeats 4000000 in
theorem ag_count {it : Nat} {f g : Nat → Int32} {Ls : Nat → List Nat} {fs fp fo : Nat → Int32} {n : Nat} {z : Nat → Int32} {k e : Nat} {su pd ob : Nat → Int32} {T : List Nat} {ak cn : Nat → Int32} (I : LI it f g Ls fs fp fo n z k e su pd ob T ak cn) (h512 : it ≤ 512) (p1 wh : Int32) {r1 r2 : Int32} (hx : ((inr_ 8 p1 = false ∨ (wh ≠ nI 0 ∧ wh ≠ nI 1 ∧ wh ≠ nI 2)) ∧ r1 = -1) ∨ ∃ pp, pp < 8 ∧ p1 = nI pp ∧ ((wh = nI 0 ∧ r1 = nI (Ls pp).length) ∨ (wh = nI 1 ∧ r1 = nI (cnt (anyk sub_ (Ls pp)) 256)) ∨ (wh = nI 2 ∧ r1 = nI (cnt (anyk obj_ (Ls pp)) 256)))) (hm : ((inr_ 8 p1 = false ∨ (wh ≠ nI 0 ∧ wh ≠ nI 1 ∧ wh ≠ nI 2)) ∧ r2 = -1) ∨ ∃ pp, pp < 8 ∧ p1 = nI pp ∧ ((wh = nI 0 ∧ r2 = nI (T.countP (isp pp))) ∨ (wh = nI 1 ∧ r2 = nI (cnt (MA T (2 ^ pp) true) 256)) ∨ (wh = nI 2 ∧ r2 = nI (cnt (MA T (2 ^ pp) false) 256)))) : r1 = r2 := by
  obtain ⟨hT, hM, hR, hn, hAk, hok, hke, h40, hit, hz⟩ := I
  have hb := RM_bd hM
  rcases hx with ⟨a, e1⟩ | ⟨pp, h1, h3, e1⟩ <;> rcases hm with ⟨b, e2⟩ | ⟨p', g1, g3, e2⟩
  · rw [e1, e2]
  · exfalso
    rcases a with a | a
    · exact nb1 (by decide) a g1 g3
    · rcases e2 with ⟨q, _⟩ | ⟨q, _⟩ | ⟨q, _⟩
      · exact a.1 q
      · exact a.2.1 q
      · exact a.2.2 q
  · exfalso
    rcases b with b | b
    · exact nb1 (by decide) b h1 h3
    · rcases e1 with ⟨q, _⟩ | ⟨q, _⟩ | ⟨q, _⟩
      · exact b.1 q
      · exact b.2.1 q
      · exact b.2.2 q
  · have x1 := ij (by omega) (by omega) h3 g3
    subst x1
    have k1 : cnt (anyk sub_ (Ls pp)) 256 = cnt (MA T (2 ^ pp) true) 256 := cnt_congr 256 (fun v _ => ag_any hR hb h1 true v)
    have k2 : cnt (anyk obj_ (Ls pp)) 256 = cnt (MA T (2 ^ pp) false) 256 := cnt_congr 256 (fun v _ => ag_any hR hb h1 false v)
    rcases e1 with ⟨q, e1⟩ | ⟨q, e1⟩ | ⟨q, e1⟩ <;> rcases e2 with ⟨q2, e2⟩ | ⟨q2, e2⟩ | ⟨q2, e2⟩ <;> first | (exfalso; rw [q] at q2; exact absurd q2 (by decide)) | (rw [e1, e2, ag_len hR h1]; done) | (rw [e1, e2, k1]; done) | (rw [e1, e2, k2]; done)

set_option maxHeartbeats 4000000 in
theorem ag_chain {it : Nat} {f g : Nat → Int32} {Ls : Nat → List Nat} {fs fp fo : Nat → Int32} {n : Nat} {z : Nat → Int32} {k e : Nat} {su pd ob : Nat → Int32} {T : List Nat} {ak cn : Nat → Int32} (I : LI it f g Ls fs fp fo n z k e su pd ob T ak cn) (h512 : it ≤ 512) (p1 p2 : Int32) {r1 r2 : Int64} (hx : ((inr_ 8 p1 && inr_ 8 p2) = false ∧ r1 = -1) ∨ ∃ pp qq, pp < 8 ∧ qq < 8 ∧ p1 = nI pp ∧ p2 = nI qq ∧ r1 = lN (chn false obj_ (Ls pp) (Ls qq))) (hm : ((inr_ 8 p1 && inr_ 8 p2) = false ∧ r2 = -1) ∨ ∃ pp qq, pp < 8 ∧ qq < 8 ∧ p1 = nI pp ∧ p2 = nI qq ∧ r2 = lN (sumf (prs T pp qq true false) T)) : r1 = r2 := by
  obtain ⟨hT, hM, hR, hn, hAk, hok, hke, h40, hit, hz⟩ := I
  have hb := RM_bd hM
  rcases hx with ⟨a, e1⟩ | ⟨pp, qq, h1, h2, h3, h4, e1⟩ <;> rcases hm with ⟨b, e2⟩ | ⟨p', q', g1, g2, g3, g4, e2⟩
  · rw [e1, e2]
  · exact (nb2 (by decide) (by decide) a g1 g2 g3 g4).elim
  · exact (nb2 (by decide) (by decide) b h1 h2 h3 h4).elim
  · have x1 := ij (by omega) (by omega) h3 g3
    have x2 := ij (by omega) (by omega) h4 g4
    subst x1; subst x2
    rw [e1, e2]; exact congrArg lN (ag_chn hR h1 h2 true false)

set_option maxHeartbeats 4000000 in
theorem ag_star {it : Nat} {f g : Nat → Int32} {Ls : Nat → List Nat} {fs fp fo : Nat → Int32} {n : Nat} {z : Nat → Int32} {k e : Nat} {su pd ob : Nat → Int32} {T : List Nat} {ak cn : Nat → Int32} (I : LI it f g Ls fs fp fo n z k e su pd ob T ak cn) (h512 : it ≤ 512) (p1 p2 : Int32) {r1 r2 : Int64} (hx : ((inr_ 8 p1 && inr_ 8 p2) = false ∧ r1 = -1) ∨ ∃ pp qq, pp < 8 ∧ qq < 8 ∧ p1 = nI pp ∧ p2 = nI qq ∧ r1 = lN (chn false sub_ (Ls pp) (Ls qq))) (hm : ((inr_ 8 p1 && inr_ 8 p2) = false ∧ r2 = -1) ∨ ∃ pp qq, pp < 8 ∧ qq < 8 ∧ p1 = nI pp ∧ p2 = nI qq ∧ r2 = lN (sumf (prs T pp qq false false) T)) : r1 = r2 := by
  obtain ⟨hT, hM, hR, hn, hAk, hok, hke, h40, hit, hz⟩ := I
  have hb := RM_bd hM
  rcases hx with ⟨a, e1⟩ | ⟨pp, qq, h1, h2, h3, h4, e1⟩ <;> rcases hm with ⟨b, e2⟩ | ⟨p', q', g1, g2, g3, g4, e2⟩
  · rw [e1, e2]
  · exact (nb2 (by decide) (by decide) a g1 g2 g3 g4).elim
  · exact (nb2 (by decide) (by decide) b h1 h2 h3 h4).elim
  · have x1 := ij (by omega) (by omega) h3 g3
    have x2 := ij (by omega) (by omega) h4 g4
    subst x1; subst x2
    rw [e1, e2]; exact congrArg lN (ag_chn hR h1 h2 false false)

set_option maxHeartbeats 4000000 in
theorem ag_bucket {it : Nat} {f g : Nat → Int32} {Ls : Nat → List Nat} {fs fp fo : Nat → Int32} {n : Nat} {z : Nat → Int32} {k e : Nat} {su pd ob : Nat → Int32} {T : List Nat} {ak cn : Nat → Int32} (I : LI it f g Ls fs fp fo n z k e su pd ob T ak cn) (h512 : it ≤ 512) (p1 fr to : Int32) {r1 r2 : Int32} (hx : (inr_ 8 p1 = false ∧ r1 = -1) ∨ ∃ pp, pp < 8 ∧ p1 = nI pp ∧ r1 = nI ((Ls pp).countP (fun c => btw fr to (obj_ c)))) (hm : (inr_ 8 p1 = false ∧ r2 = -1) ∨ ∃ pp, pp < 8 ∧ p1 = nI pp ∧ r2 = nI (T.countP (fun C => isp pp C && btw fr to (C % 256)))) : r1 = r2 := by
  obtain ⟨hT, hM, hR, hn, hAk, hok, hke, h40, hit, hz⟩ := I
  have hb := RM_bd hM
  rcases hx with ⟨a, e1⟩ | ⟨pp, h1, h3, e1⟩ <;> rcases hm with ⟨b, e2⟩ | ⟨p', g1, g3, e2⟩
  · rw [e1, e2]
  · exact (nb1 (by decide) a g1 g3).elim
  · exact (nb1 (by decide) b h1 h3).elim
  · have x1 := ij (by omega) (by omega) h3 g3
    subst x1
    rw [e1, e2, ag_bt hR h1]

set_option maxHeartbeats 4000000 in
theorem ag_range {it : Nat} {f g : Nat → Int32} {Ls : Nat → List Nat} {fs fp fo : Nat → Int32} {n : Nat} {z : Nat → Int32} {k e : Nat} {su pd ob : Nat → Int32} {T : List Nat} {ak cn : Nat → Int32} (I : LI it f g Ls fs fp fo n z k e su pd ob T ak cn) (h512 : it ≤ 512) (p1 fr to : Int32) {r1 r2 : Int32} (hx : (inr_ 8 p1 = false ∧ r1 = -1) ∨ ∃ pp, pp < 8 ∧ p1 = nI pp ∧ r1 = nI (rgs (Ls pp) fr to 8)) (hm : (inr_ 8 p1 = false ∧ r2 = -1) ∨ ∃ pp, pp < 8 ∧ p1 = nI pp ∧ r2 = nI (mrg T pp fr to 8)) : r1 = r2 := by
  obtain ⟨hT, hM, hR, hn, hAk, hok, hke, h40, hit, hz⟩ := I
  have hb := RM_bd hM
  rcases hx with ⟨a, e1⟩ | ⟨pp, h1, h3, e1⟩ <;> rcases hm with ⟨b, e2⟩ | ⟨p', g1, g3, e2⟩
  · rw [e1, e2]
  · exact (nb1 (by decide) a g1 g3).elim
  · exact (nb1 (by decide) b h1 h3).elim
  · have x1 := ij (by omega) (by omega) h3 g3
    subst x1
    rw [e1, e2, ag_rng hR h1]

set_option maxHeartbeats 4000000 in
theorem ag_quantile {it : Nat} {f g : Nat → Int32} {Ls : Nat → List Nat} {fs fp fo : Nat → Int32} {n : Nat} {z : Nat → Int32} {k e : Nat} {su pd ob : Nat → Int32} {T : List Nat} {ak cn : Nat → Int32} (I : LI it f g Ls fs fp fo n z k e su pd ob T ak cn) (h512 : it ≤ 512) (p1 k1 : Int32) {r1 r2 : Int32} (hx : (¬ (inr_ 8 p1 = true ∧ ¬ k1 < nI 1 ∧ ¬ nI 8 < k1) ∧ r1 = -1) ∨ ∃ pp kk, pp < 8 ∧ 1 ≤ kk ∧ kk ≤ 8 ∧ p1 = nI pp ∧ k1 = nI kk ∧ (((Ls pp).length = 0 ∧ r1 = -2) ∨ (0 < (Ls pp).length ∧ ∃ o, o < 256 ∧ r1 = nI o ∧ (∀ j, j < o → 8 * clt (Ls pp) (j + 1) < kk * (Ls pp).length) ∧ kk * (Ls pp).length ≤ 8 * clt (Ls pp) (o + 1)))) (hm : (¬ (inr_ 8 p1 = true ∧ ¬ k1 < nI 1 ∧ ¬ nI 8 < k1) ∧ r2 = -1) ∨ ∃ pp kk, pp < 8 ∧ 1 ≤ kk ∧ kk ≤ 8 ∧ p1 = nI pp ∧ k1 = nI kk ∧ ((T.countP (isp pp) = 0 ∧ r2 = -2) ∨ (0 < T.countP (isp pp) ∧ ∃ o, o < 256 ∧ r2 = nI o ∧ (∀ j, j < o → 8 * cbt T pp j < kk * T.countP (isp pp)) ∧ kk * T.countP (isp pp) ≤ 8 * cbt T pp o))) : r1 = r2 := by
  obtain ⟨hT, hM, hR, hn, hAk, hok, hke, h40, hit, hz⟩ := I
  have hb := RM_bd hM
  rcases hx with ⟨a, e1⟩ | ⟨pp, kk, h1, h2, h3, h4, h5, e1⟩ <;> rcases hm with ⟨b, e2⟩ | ⟨p', k', g1, g2, g3, g4, g5, e2⟩
  · rw [e1, e2]
  · exfalso; apply a; rw [g4, g5]; exact ⟨inr_n (by decide) g1, nI_nlt g2 (by omega), nI_nlt g3 (by omega)⟩
  · exfalso; apply b; rw [h4, h5]; exact ⟨inr_n (by decide) h1, nI_nlt h2 (by omega), nI_nlt h3 (by omega)⟩
  · have x1 := ij (by omega) (by omega) h4 g4
    have x2 := ij (by omega) (by omega) h5 g5
    subst x1; subst x2
    have hl := ag_len hR h1
    rw [hl] at e1
    rcases e1 with ⟨q, e1⟩ | ⟨q, o, ho, e1, m1, m2⟩ <;> rcases e2 with ⟨q', e2⟩ | ⟨q', o', ho', e2, n1, n2⟩
    · rw [e1, e2]
    · omega
    · omega
    · have : o = o' := by
        rcases Nat.lt_trichotomy o o' with c | c | c
        · have c1 := n1 o c
          rw [← ag_cbt hR h1 ho] at c1; omega
        · exact c
        · have c1 := m1 o' c
          rw [ag_cbt hR h1 ho'] at c1; omega
      rw [e1, e2, this]

set_option maxHeartbeats 4000000 in
theorem ag_register {it : Nat} {f g : Nat → Int32} {Ls : Nat → List Nat} {fs fp fo : Nat → Int32} {n : Nat} {z : Nat → Int32} {k e : Nat} {su pd ob : Nat → Int32} {T : List Nat} {ak cn : Nat → Int32} (I : LI it f g Ls fs fp fo n z k e su pd ob T ak cn) (h512 : it ≤ 512) (b1 i1 : Int32) {r1 r2 : Int32} (hx : (¬ (inr_ 256 b1 = true ∧ ¬ i1 < 0 ∧ i1 < nI 16) ∧ r1 = -1) ∨ ∃ bb ii, bb < 256 ∧ ii < 16 ∧ b1 = nI bb ∧ i1 = nI ii ∧ r1 = nI (rkf (fun v => anyb Ls bb v 8) ii 256)) (hm : (¬ (inr_ 256 b1 = true ∧ ¬ i1 < 0 ∧ i1 < nI 16) ∧ r2 = -1) ∨ ∃ bb ii, bb < 256 ∧ ii < 16 ∧ b1 = nI bb ∧ i1 = nI ii ∧ r2 = nI (mxf (rgf bb ii) T)) : r1 = r2 := by
  obtain ⟨hT, hM, hR, hn, hAk, hok, hke, h40, hit, hz⟩ := I
  have hb := RM_bd hM
  rcases hx with ⟨a, e1⟩ | ⟨bb, ii, h1, h2, h3, h4, e1⟩ <;> rcases hm with ⟨b, e2⟩ | ⟨b', i', g1, g2, g3, g4, e2⟩
  · rw [e1, e2]
  · exfalso; apply a; rw [g3, g4]; exact ⟨inr_n (by decide) g1, nI_pos (by omega), nI_lt g2 (by omega)⟩
  · exfalso; apply b; rw [h3, h4]; exact ⟨inr_n (by decide) h1, nI_pos (by omega), nI_lt h2 (by omega)⟩
  · have x1 := ij (by omega) (by omega) h3 g3
    have x2 := ij (by omega) (by omega) h4 g4
    subst x1; subst x2
    rw [e1, e2, ag_reg hR hb]

set_option maxHeartbeats 4000000 in
theorem ag_distinct {it : Nat} {f g : Nat → Int32} {Ls : Nat → List Nat} {fs fp fo : Nat → Int32} {n : Nat} {z : Nat → Int32} {k e : Nat} {su pd ob : Nat → Int32} {T : List Nat} {ak cn : Nat → Int32} (I : LI it f g Ls fs fp fo n z k e su pd ob T ak cn) (h512 : it ≤ 512) (b1 d1 : Int32) {r1 r2 : Int64} (hx : (¬ (inr_ 256 b1 = true ∧ ¬ d1 < 0) ∧ r1 = -1) ∨ ∃ bb dd, bb < 256 ∧ dd < 2 ^ 31 ∧ b1 = nI bb ∧ d1 = nI dd ∧ r1 = lN (if cnt (fun v => anyb Ls bb v 8) 256 ≤ dd then cnt (fun v => anyb Ls bb v 8) 256 else abt (fun i => rkf (fun v => anyb Ls bb v 8) i 256))) (hm : (¬ (inr_ 256 b1 = true ∧ ¬ d1 < 0) ∧ r2 = -1) ∨ ∃ bb dd, bb < 256 ∧ dd < 2 ^ 31 ∧ b1 = nI bb ∧ d1 = nI dd ∧ r2 = lN (if cnt (MA T bb true) 256 ≤ dd then cnt (MA T bb true) 256 else abt (fun i => mxf (rgf bb i) T))) : r1 = r2 := by
  obtain ⟨hT, hM, hR, hn, hAk, hok, hke, h40, hit, hz⟩ := I
  have hb := RM_bd hM
  rcases hx with ⟨a, e1⟩ | ⟨bb, dd, h1, h2, h3, h4, e1⟩ <;> rcases hm with ⟨b, e2⟩ | ⟨b', d', g1, g2, g3, g4, e2⟩
  · rw [e1, e2]
  · exfalso; apply a; rw [g3, g4]; exact ⟨inr_n (by decide) g1, nI_pos (by omega)⟩
  · exfalso; apply b; rw [h3, h4]; exact ⟨inr_n (by decide) h1, nI_pos (by omega)⟩
  · have x1 := ij (by omega) (by omega) h3 g3
    have x2 := ij (by omega) (by omega) h4 g4
    subst x1; subst x2
    have k1 : cnt (fun v => anyb Ls bb v 8) 256 = cnt (MA T bb true) 256 := cnt_congr 256 (fun v _ => ag_anyb hR hb bb v)
    have k2 : abt (fun i => rkf (fun v => anyb Ls bb v 8) i 256) = abt (fun i => mxf (rgf bb i) T) := abt_congr (fun i _ => ag_reg hR hb bb i)
    rw [e1, e2, k1, k2]

set_option maxHeartbeats 4000000 in
theorem ag_estimate {it : Nat} {f g : Nat → Int32} {Ls : Nat → List Nat} {fs fp fo : Nat → Int32} {n : Nat} {z : Nat → Int32} {k e : Nat} {su pd ob : Nat → Int32} {T : List Nat} {ak cn : Nat → Int32} (I : LI it f g Ls fs fp fo n z k e su pd ob T ak cn) (h512 : it ≤ 512) (op p1 p2 : Int32) {r1 r2 : Int64} (hx : (inr_ 8 p1 = false ∧ r1 = -1) ∨ ∃ pp, pp < 8 ∧ p1 = nI pp ∧ ((op = nI 3 ∧ r1 = lN ((Ls pp).length / 3)) ∨ (op ≠ nI 3 ∧ ((inr_ 8 p2 = false ∧ r1 = -1) ∨ ∃ qq, qq < 8 ∧ p2 = nI qq ∧ (((op ≠ nI 0 ∧ op ≠ nI 1 ∧ op ≠ nI 2 ∧ op ≠ nI 4) ∧ r1 = -1) ∨ (op = nI 0 ∧ r1 = lN ((Ls pp).length * (Ls qq).length / max 1 (max (cnt (anyk obj_ (Ls pp)) 256) (cnt (anyk sub_ (Ls qq)) 256)))) ∨ (op = nI 1 ∧ r1 = lN ((Ls pp).length * (Ls qq).length / max 1 (max (cnt (anyk sub_ (Ls pp)) 256) (cnt (anyk sub_ (Ls qq)) 256)))) ∨ (op = nI 2 ∧ r1 = lN ((Ls pp).length + (Ls qq).length)) ∨ (op = nI 4 ∧ r1 = lN (16 * chn true obj_ (Ls pp) (Ls qq)))))))) (hm : (inr_ 8 p1 = false ∧ r2 = -1) ∨ ∃ pp, pp < 8 ∧ p1 = nI pp ∧ ((op = nI 3 ∧ r2 = lN (T.countP (isp pp) / 3)) ∨ (op ≠ nI 3 ∧ ((inr_ 8 p2 = false ∧ r2 = -1) ∨ ∃ qq, qq < 8 ∧ p2 = nI qq ∧ (((op ≠ nI 0 ∧ op ≠ nI 1 ∧ op ≠ nI 2 ∧ op ≠ nI 4) ∧ r2 = -1) ∨ (op = nI 0 ∧ r2 = lN (T.countP (isp pp) * T.countP (isp qq) / max 1 (max (cnt (MA T (2 ^ pp) false) 256) (cnt (MA T (2 ^ qq) true) 256)))) ∨ (op = nI 1 ∧ r2 = lN (T.countP (isp pp) * T.countP (isp qq) / max 1 (max (cnt (MA T (2 ^ pp) true) 256) (cnt (MA T (2 ^ qq) true) 256)))) ∨ (op = nI 2 ∧ r2 = lN (T.countP (isp pp) + T.countP (isp qq))) ∨ (op = nI 4 ∧ r2 = lN (16 * sumf (prs T pp qq true true) T))))))) : r1 = r2 := by
  obtain ⟨hT, hM, hR, hn, hAk, hok, hke, h40, hit, hz⟩ := I
  have hb := RM_bd hM
  rcases hx with ⟨a, e1⟩ | ⟨pp, h1, h3, e1⟩ <;> rcases hm with ⟨b, e2⟩ | ⟨p', g1, g3, e2⟩
  · rw [e1, e2]
  · exact (nb1 (by decide) a g1 g3).elim
  · exact (nb1 (by decide) b h1 h3).elim
  · have x1 := ij (by omega) (by omega) h3 g3
    subst x1
    rcases e1 with ⟨o1, e1⟩ | ⟨o1, e1⟩ <;> rcases e2 with ⟨o2, e2⟩ | ⟨o2, e2⟩
    · rw [e1, e2, ag_len hR h1]
    · exact absurd o1 o2
    · exact absurd o2 o1
    · rcases e1 with ⟨a, e1⟩ | ⟨qq, h2, h4, e1⟩ <;> rcases e2 with ⟨b, e2⟩ | ⟨q', g2, g4, e2⟩
      · rw [e1, e2]
      · exact (nb1 (by decide) a g2 g4).elim
      · exact (nb1 (by decide) b h2 h4).elim
      · have x2 := ij (by omega) (by omega) h4 g4
        subst x2
        have k1 : cnt (anyk sub_ (Ls pp)) 256 = cnt (MA T (2 ^ pp) true) 256 := cnt_congr 256 (fun v _ => ag_any hR hb h1 true v)
        have k2 : cnt (anyk obj_ (Ls pp)) 256 = cnt (MA T (2 ^ pp) false) 256 := cnt_congr 256 (fun v _ => ag_any hR hb h1 false v)
        have k3 : cnt (anyk sub_ (Ls qq)) 256 = cnt (MA T (2 ^ qq) true) 256 := cnt_congr 256 (fun v _ => ag_any hR hb h2 true v)
        have k4 : chn true obj_ (Ls pp) (Ls qq) = sumf (prs T pp qq true true) T := ag_chn hR h1 h2 true true
        have k5 := ag_len hR h1
        have k6 := ag_len hR h2
        rcases e1 with ⟨w, e1⟩ | ⟨w, e1⟩ | ⟨w, e1⟩ | ⟨w, e1⟩ | ⟨w, e1⟩ <;> rcases e2 with ⟨w2, e2⟩ | ⟨w2, e2⟩ | ⟨w2, e2⟩ | ⟨w2, e2⟩ | ⟨w2, e2⟩ <;> first | (rw [e1, e2]; done) | (exact absurd w2 w.1) | (exact absurd w2 w.2.1) | (exact absurd w2 w.2.2.1) | (exact absurd w2 w.2.2.2) | (exact absurd w w2.1) | (exact absurd w w2.2.1) | (exact absurd w w2.2.2.1) | (exact absurd w w2.2.2.2) | (exfalso; rw [w] at w2; exact absurd w2 (by decide)) | (rw [e1, e2, k5, k6, k2, k3]; done) | (rw [e1, e2, k5, k6, k1, k3]; done) | (rw [e1, e2, k5, k6]; done) | (rw [e1, e2, k4]; done)

set_option maxHeartbeats 4000000 in
theorem ag_sample {it : Nat} {f g : Nat → Int32} {Ls : Nat → List Nat} {fs fp fo : Nat → Int32} {n : Nat} {z : Nat → Int32} {k e : Nat} {su pd ob : Nat → Int32} {T : List Nat} {ak cn : Nat → Int32} (I : LI it f g Ls fs fp fo n z k e su pd ob T ak cn) (h512 : it ≤ 512) (p1 i1 : Int32) {r1 r2 : Int32} (hx : (inr_ 8 p1 = false ∧ r1 = -1) ∨ ∃ pp, pp < 8 ∧ p1 = nI pp ∧ ((∃ ii, ii < ((Ls pp).filter smp).length ∧ i1 = nI ii ∧ r1 = nI (((Ls pp).filter smp).getD ii 0)) ∨ ((∀ ii, ii < ((Ls pp).filter smp).length → i1 ≠ nI ii) ∧ r1 = -2))) (hm : (inr_ 8 p1 = false ∧ r2 = -1) ∨ ∃ pp, pp < 8 ∧ p1 = nI pp ∧ ((∃ ii, ii < ((fun p => (Ls p).filter smp) pp).length ∧ i1 = nI ii ∧ r2 = nI (((fun p => (Ls p).filter smp) pp).getD ii 0)) ∨ ((∀ ii, ii < ((fun p => (Ls p).filter smp) pp).length → i1 ≠ nI ii) ∧ r2 = -2))) : r1 = r2 := by
  obtain ⟨hT, hM, hR, hn, hAk, hok, hke, h40, hit, hz⟩ := I
  have hb := RM_bd hM
  rcases hx with ⟨a, e1⟩ | ⟨pp, h1, h3, e1⟩ <;> rcases hm with ⟨b, e2⟩ | ⟨p', g1, g3, e2⟩
  · rw [e1, e2]
  · exact (nb1 (by decide) a g1 g3).elim
  · exact (nb1 (by decide) b h1 h3).elim
  · have x1 := ij (by omega) (by omega) h3 g3
    subst x1
    have hsl := ss_len hT pp h1
    dsimp only at e2
    rcases e1 with ⟨ii, a1, a2, a3⟩ | ⟨a1, a2⟩ <;> rcases e2 with ⟨i', b1, b2, b3⟩ | ⟨b1, b2⟩
    · have : ii = i' := ij (by omega) (by omega) a2 b2
      rw [a3, b3, this]
    · exact absurd a2 (b1 ii a1)
    · exact absurd b2 (a1 i' b1)
    · rw [a2, b2]

set_option maxHeartbeats 4000000 in
theorem ag_matches {it : Nat} {f g : Nat → Int32} {Ls : Nat → List Nat} {fs fp fo : Nat → Int32} {n : Nat} {z : Nat → Int32} {k e : Nat} {su pd ob : Nat → Int32} {T : List Nat} {ak cn : Nat → Int32} (I : LI it f g Ls fs fp fo n z k e su pd ob T ak cn) (h512 : it ≤ 512) (row : Int32) {r1 r2 : Int32} (hx : (¬ (¬ row < 0 ∧ ¬ nI n ≤ row) ∧ r1 = -1) ∨ ∃ k, k < n ∧ row = nI k ∧ r1 = nI (mts Ls (gow (fs k) (fp k) (fo k)) 8)) (hm : (¬ (¬ row < 0 ∧ ¬ nI n ≤ row) ∧ r2 = -1) ∨ ∃ kk, kk < n ∧ row = nI kk ∧ r2 = nI (T.countP (mgo (fs kk) (fp kk) (fo kk)))) : r1 = r2 := by
  obtain ⟨hT, hM, hR, hn, hAk, hok, hke, h40, hit, hz⟩ := I
  have hb := RM_bd hM
  rcases hx with ⟨a, e1⟩ | ⟨kk, h1, h3, e1⟩ <;> rcases hm with ⟨b, e2⟩ | ⟨k', g1, g3, e2⟩
  · rw [e1, e2]
  · exact absurd (zs (by omega) g1 g3) a
  · exact absurd (zs (by omega) h1 h3) b
  · have x1 := ij (by omega) (by omega) h3 g3
    subst x1
    rw [e1, e2, ag_mat hR hb (hok kk h1).1 (hok kk h1).2.1 (hok kk h1).2.2]

set_option maxHeartbeats 4000000 in
theorem ag_countAt {it : Nat} {f g : Nat → Int32} {Ls : Nat → List Nat} {fs fp fo : Nat → Int32} {n : Nat} {z : Nat → Int32} {k e : Nat} {su pd ob : Nat → Int32} {T : List Nat} {ak cn : Nat → Int32} (I : LI it f g Ls fs fp fo n z k e su pd ob T ak cn) (h512 : it ≤ 512) (p1 x : Int32) {r1 r2 : Int32} (hx : (inr_ 8 p1 = false ∧ r1 = -1) ∨ ∃ pp, pp < 8 ∧ p1 = nI pp ∧ ((¬ (¬ x < 0 ∧ ¬ nI e ≤ x) ∧ r1 = -1) ∨ ∃ v, v < e ∧ x = nI v ∧ r1 = if v < k then -2 else z (v % 40 * 8 + pp))) (hm : (inr_ 8 p1 = false ∧ r2 = -1) ∨ ∃ pp, pp < 8 ∧ p1 = nI pp ∧ ((¬ (¬ x < 0 ∧ ¬ nI e ≤ x) ∧ r2 = -1) ∨ ∃ v, v < e ∧ x = nI v ∧ r2 = if v < k then -2 else cn (v % 40 * 8 + pp))) : r1 = r2 := by
  obtain ⟨hT, hM, hR, hn, hAk, hok, hke, h40, hit, hz⟩ := I
  have hb := RM_bd hM
  rcases hx with ⟨a, e1⟩ | ⟨pp, h1, h3, e1⟩ <;> rcases hm with ⟨b, e2⟩ | ⟨p', g1, g3, e2⟩
  · rw [e1, e2]
  · exact (nb1 (by decide) a g1 g3).elim
  · exact (nb1 (by decide) b h1 h3).elim
  · have x1 := ij (by omega) (by omega) h3 g3
    subst x1
    rcases e1 with ⟨a, e1⟩ | ⟨v, a1, a2, e1⟩ <;> rcases e2 with ⟨b, e2⟩ | ⟨v', b1, b2, e2⟩
    · rw [e1, e2]
    · exact absurd (zs (by omega) b1 b2) a
    · exact absurd (zs (by omega) a1 a2) b
    · have x2 := ij (by omega) (by omega) a2 b2
      subst x2
      rw [e1, e2, hz _ (by omega)]

set_option maxHeartbeats 4000000 in
theorem ag_told {it : Nat} {f g : Nat → Int32} {Ls : Nat → List Nat} {fs fp fo : Nat → Int32} {n : Nat} {z : Nat → Int32} {k e : Nat} {su pd ob : Nat → Int32} {T : List Nat} {ak cn : Nat → Int32} (I : LI it f g Ls fs fp fo n z k e su pd ob T ak cn) (h512 : it ≤ 512) (wh : Int32) {r1 r2 : Int32} (hx : (wh = nI 0 ∧ r1 = nI (tr_off Ls 8)) ∨ (wh = nI 1 ∧ r1 = nI n) ∨ (wh = nI 2 ∧ r1 = nI e) ∨ (wh = nI 3 ∧ r1 = nI (e - k)) ∨ (wh ≠ nI 0 ∧ wh ≠ nI 1 ∧ wh ≠ nI 2 ∧ wh ≠ nI 3 ∧ r1 = -1)) (hm : (wh = nI 0 ∧ r2 = nI T.length) ∨ (wh = nI 1 ∧ r2 = nI n) ∨ (wh = nI 2 ∧ r2 = nI e) ∨ (wh = nI 3 ∧ r2 = nI (e - k)) ∨ (wh ≠ nI 0 ∧ wh ≠ nI 1 ∧ wh ≠ nI 2 ∧ wh ≠ nI 3 ∧ r2 = -1)) : r1 = r2 := by
  obtain ⟨hT, hM, hR, hn, hAk, hok, hke, h40, hit, hz⟩ := I
  have hb := RM_bd hM
  have ht := ag_tot hR hb
  rw [ht] at hx
  rcases hx with ⟨w, e1⟩ | ⟨w, e1⟩ | ⟨w, e1⟩ | ⟨w, e1⟩ | ⟨w, w3, w4, w5, e1⟩ <;> rcases hm with ⟨w2, e2⟩ | ⟨w2, e2⟩ | ⟨w2, e2⟩ | ⟨w2, e2⟩ | ⟨w2, v3, v4, v5, e2⟩ <;> first | (rw [e1, e2]; done) | (exact absurd w2 w) | (exact absurd w w2) | (exact absurd w2 w3) | (exact absurd w2 w4) | (exact absurd w2 w5) | (exact absurd w v3) | (exact absurd w v4) | (exact absurd w v5) | (exfalso; rw [w] at w2; exact absurd w2 (by decide))

set_option maxHeartbeats 4000000 in
theorem ag_version {it : Nat} {f g : Nat → Int32} {Ls : Nat → List Nat} {fs fp fo : Nat → Int32} {n : Nat} {z : Nat → Int32} {k e : Nat} {su pd ob : Nat → Int32} {T : List Nat} {ak cn : Nat → Int32} (I : LI it f g Ls fs fp fo n z k e su pd ob T ak cn) (h512 : it ≤ 512)  {r1 r2 : Int32} {u1 : ((Nat → Int32) × Nat)} {u2 : ((Nat → Int32) × Nat)} (hx : (40 ≤ e - k ∧ r1 = -3 ∧ u1 = (z, e)) ∨ (e - k < 40 ∧ r1 = nI e ∧ u1.2 = e + 1 ∧ ∀ j, j < 320 → u1.1 j = if e % 40 * 8 ≤ j ∧ j < e % 40 * 8 + 8 then nI (Ls (j - e % 40 * 8)).length else z j)) (hm : (40 ≤ e - k ∧ r2 = -3 ∧ u2 = (cn, e)) ∨ (e - k < 40 ∧ r2 = nI e ∧ u2.2 = e + 1 ∧ ∀ j, j < 320 → u2.1 j = if e % 40 * 8 ≤ j ∧ j < e % 40 * 8 + 8 then nI (T.countP (isp (j - e % 40 * 8))) else cn j)) : r1 = r2 ∧ u2.2 = u1.2 ∧ LI (it + 1) f g Ls fs fp fo n u1.1 k u1.2 su pd ob T ak u2.1 := by
  obtain ⟨hT, hM, hR, hn, hAk, hok, hke, h40, hit, hz⟩ := I
  have hb := RM_bd hM
  rcases hx with ⟨a, e1, q1⟩ | ⟨a, e1, q1, q2⟩ <;> rcases hm with ⟨b, e2, w1⟩ | ⟨b, e2, w1, w2⟩
  · subst q1; subst w1
    exact ⟨by rw [e1, e2], rfl, hT, hM, hR, hn, hAk, hok, hke, h40, by omega, hz⟩
  · omega
  · omega
  · refine ⟨by rw [e1, e2], by rw [q1, w1], hT, hM, hR, hn, hAk, hok, by omega, by omega, by omega, fun j hj => ?_⟩
    rw [q2 j hj, w2 j hj]
    by_cases c : e % 40 * 8 ≤ j ∧ j < e % 40 * 8 + 8
    · rw [if_pos c, if_pos c, ag_len hR (by omega)]
    · rw [if_neg c, if_neg c]; exact hz j hj

set_option maxHeartbeats 4000000 in
theorem ag_forget {it : Nat} {f g : Nat → Int32} {Ls : Nat → List Nat} {fs fp fo : Nat → Int32} {n : Nat} {z : Nat → Int32} {k e : Nat} {su pd ob : Nat → Int32} {T : List Nat} {ak cn : Nat → Int32} (I : LI it f g Ls fs fp fo n z k e su pd ob T ak cn) (h512 : it ≤ 512) (x : Int32) {r1 r2 : Int32} {u1 : Nat} {u2 : Nat} (hx : (¬ (¬ x < 0 ∧ ¬ nI e ≤ x) ∧ r1 = -1 ∧ u1 = k) ∨ ∃ v, v < e ∧ x = nI v ∧ r1 = nI (v - k) ∧ u1 = k + (v - k)) (hm : (¬ (¬ x < 0 ∧ ¬ nI e ≤ x) ∧ r2 = -1 ∧ u2 = k) ∨ ∃ v, v < e ∧ x = nI v ∧ r2 = nI (v - k) ∧ u2 = k + (v - k)) : r1 = r2 ∧ u2 = u1 ∧ LI (it + 1) f g Ls fs fp fo n z u1 e su pd ob T ak cn := by
  obtain ⟨hT, hM, hR, hn, hAk, hok, hke, h40, hit, hz⟩ := I
  have hb := RM_bd hM
  rcases hx with ⟨a, e1, q1⟩ | ⟨v, a1, a2, e1, q1⟩ <;> rcases hm with ⟨b, e2, w1⟩ | ⟨v', b1, b2, e2, w1⟩
  · subst q1; subst w1
    exact ⟨by rw [e1, e2], rfl, hT, hM, hR, hn, hAk, hok, hke, h40, by omega, hz⟩
  · exact absurd (zs (by omega) b1 b2) a
  · exact absurd (zs (by omega) a1 a2) b
  · have x2 := ij (by omega) (by omega) a2 b2
    subst x2; subst q1; subst w1
    exact ⟨by rw [e1, e2], rfl, hT, hM, hR, hn, hAk, hok, by omega, by omega, by omega, hz⟩

set_option maxHeartbeats 4000000 in
theorem ag_pattern {it : Nat} {f g : Nat → Int32} {Ls : Nat → List Nat} {fs fp fo : Nat → Int32} {n : Nat} {z : Nat → Int32} {k e : Nat} {su pd ob : Nat → Int32} {T : List Nat} {ak cn : Nat → Int32} (I : LI it f g Ls fs fp fo n z k e su pd ob T ak cn) (h512 : it ≤ 512) (s1 p1 o1 : Int32) {r1 r2 : Int32} {u1 : ((Nat → Int32) × (Nat → Int32) × (Nat → Int32) × Nat)} {u2 : ((Nat → Int32) × Nat)} (hx : (((decide (s1 = -1) || inr_ 256 s1) && (decide (p1 = -1) || inr_ 8 p1) && (decide (o1 = -1) || inr_ 256 o1)) = false ∧ r1 = -1 ∧ u1 = (fs, fp, fo, n)) ∨ (((decide (s1 = -1) || inr_ 256 s1) && (decide (p1 = -1) || inr_ 8 p1) && (decide (o1 = -1) || inr_ 256 o1)) = true ∧ ((∃ j, j < n ∧ (fs j = s1 ∧ fp j = p1 ∧ fo j = o1) ∧ (∀ i, i < j → ¬ (fs i = s1 ∧ fp i = p1 ∧ fo i = o1)) ∧ r1 = nI j ∧ u1 = (fs, fp, fo, n)) ∨ ((∀ i, i < n → ¬ (fs i = s1 ∧ fp i = p1 ∧ fo i = o1)) ∧ ((n = 30 ∧ r1 = -3 ∧ u1 = (fs, fp, fo, n)) ∨ (n < 30 ∧ r1 = nI n ∧ u1 = (upd fs n s1, upd fp n p1, upd fo n o1, n + 1))))))) (hm : (((decide (s1 = -1) || inr_ 256 s1) && (decide (p1 = -1) || inr_ 8 p1) && (decide (o1 = -1) || inr_ 256 o1)) = false ∧ r2 = -1 ∧ u2 = (ak, n)) ∨ (((decide (s1 = -1) || inr_ 256 s1) && (decide (p1 = -1) || inr_ 8 p1) && (decide (o1 = -1) || inr_ 256 o1)) = true ∧ ((∃ j, j < n ∧ (fs j = s1 ∧ fp j = p1 ∧ fo j = o1) ∧ (∀ i, i < j → ¬ (fs i = s1 ∧ fp i = p1 ∧ fo i = o1)) ∧ r2 = nI j ∧ u2 = (ak, n)) ∨ ((∀ i, i < n → ¬ (fs i = s1 ∧ fp i = p1 ∧ fo i = o1)) ∧ ((n = 30 ∧ r2 = -3 ∧ u2 = (ak, n)) ∨ (n < 30 ∧ r2 = nI n ∧ u2.2 = n + 1 ∧ ∀ i, i < n + 1 → u2.1 (3 * i) = upd fs n s1 i ∧ u2.1 (3 * i + 1) = upd fp n p1 i ∧ u2.1 (3 * i + 2) = upd fo n o1 i)))))) : r1 = r2 ∧ u2.2 = u1.2.2.2 ∧ LI (it + 1) f g Ls u1.1 u1.2.1 u1.2.2.1 u1.2.2.2 z k e su pd ob T u2.1 cn := by
  obtain ⟨hT, hM, hR, hn, hAk, hok, hke, h40, hit, hz⟩ := I
  have hb := RM_bd hM
  rcases hx with ⟨a, e1, q1⟩ | ⟨a, hx⟩ <;> rcases hm with ⟨b, e2, w1⟩ | ⟨b, hm⟩
  · subst q1; subst w1
    exact ⟨by rw [e1, e2], rfl, hT, hM, hR, hn, hAk, hok, hke, h40, by omega, hz⟩
  · rw [a] at b; cases b
  · rw [a] at b; cases b
  · rcases hx with ⟨j, a1, a2, a3, e1, q1⟩ | ⟨a1, hx⟩ <;> rcases hm with ⟨j', b1, b2, b3, e2, w1⟩ | ⟨b1, hm⟩
    · have : j = j' := by
        rcases Nat.lt_trichotomy j j' with c | c | c
        · exact absurd a2 (b3 j c)
        · exact c
        · exact absurd b2 (a3 j' c)
      subst this; subst q1; subst w1
      exact ⟨by rw [e1, e2], rfl, hT, hM, hR, hn, hAk, hok, hke, h40, by omega, hz⟩
    · exact absurd a2 (b1 j a1)
    · exact absurd b2 (a1 j' b1)
    · rcases hx with ⟨c1, e1, q1⟩ | ⟨c1, e1, q1⟩ <;> rcases hm with ⟨d1, e2, w1⟩ | ⟨d1, e2, w1, w2⟩
      · subst q1; subst w1
        exact ⟨by rw [e1, e2], rfl, hT, hM, hR, hn, hAk, hok, hke, h40, by omega, hz⟩
      · omega
      · omega
      · subst q1
        refine ⟨by rw [e1, e2], w1, hT, hM, hR, by show n + 1 ≤ 30; omega, w2, fun i hi => ?_, hke, h40, by omega, hz⟩
        simp only [Bool.and_eq_true] at a
        obtain ⟨⟨g1, g2⟩, g3⟩ := a
        have op : ∀ (N : Nat) (x : Int32), (decide (x = -1) || inr_ N x) = true → okp x := by
          intro N x h
          rw [Bool.or_eq_true] at h
          rcases h with h | h
          · exact Or.inl (of_decide_eq_true h)
          · exact Or.inr (of_decide_eq_true h).1
        show okp (upd fs n s1 i) ∧ okp (upd fp n p1 i) ∧ okp (upd fo n o1 i)
        by_cases c : i = n
        · rw [c, pk_us, pk_us, pk_us]; exact ⟨op _ _ g1, op _ _ g2, op _ _ g3⟩
        · rw [pk_un c, pk_un c, pk_un c]; exact hok i (by have : i < n + 1 := hi
                                                          omega)

set_option maxHeartbeats 4000000 in
theorem ag_triple {it : Nat} {f g : Nat → Int32} {Ls : Nat → List Nat} {fs fp fo : Nat → Int32} {n : Nat} {z : Nat → Int32} {k e : Nat} {su pd ob : Nat → Int32} {T : List Nat} {ak cn : Nat → Int32} (I : LI it f g Ls fs fp fo n z k e su pd ob T ak cn) (h512 : it ≤ 512) (s1 p1 o1 : Int32) {r1 r2 : Int32} {u1 : ((Nat → Int32) × (Nat → Int32))} {u2 : ((Nat → Int32) × (Nat → Int32) × (Nat → Int32) × List Nat)} (hx : ((inr_ 256 s1 && inr_ 8 p1 && inr_ 256 o1) = false ∧ r1 = -1 ∧ RT Ls u1.1 u1.2) ∨ ∃ ss pp oo, ss < 256 ∧ pp < 8 ∧ oo < 256 ∧ s1 = nI ss ∧ p1 = nI pp ∧ o1 = nI oo ∧ (((256 * ss + oo ∈ Ls pp) ∧ r1 = nI 0 ∧ RT Ls u1.1 u1.2) ∨ ((256 * ss + oo ∉ Ls pp) ∧ tr_off Ls 8 = 400 ∧ r1 = -3 ∧ RT Ls u1.1 u1.2) ∨ ((256 * ss + oo ∉ Ls pp) ∧ tr_off Ls 8 < 400 ∧ r1 = nI 1 ∧ ∃ k, k ≤ (Ls pp).length ∧ RT (tr_ins Ls pp k (256 * ss + oo)) u1.1 u1.2))) (hm : ((inr_ 256 s1 && inr_ 8 p1 && inr_ 256 o1) = false ∧ r2 = -1 ∧ u2 = (su, pd, ob, T)) ∨ ∃ ss pp oo, ss < 256 ∧ pp < 8 ∧ oo < 256 ∧ s1 = nI ss ∧ p1 = nI pp ∧ o1 = nI oo ∧ (((∃ j, j < T.length ∧ T.getD j 0 = 65536 * pp + 256 * ss + oo) ∧ r2 = nI 0 ∧ u2 = (su, pd, ob, T)) ∨ ((∀ j, j < T.length → T.getD j 0 ≠ 65536 * pp + 256 * ss + oo) ∧ T.length = 400 ∧ r2 = -3 ∧ u2 = (su, pd, ob, T)) ∨ ((∀ j, j < T.length → T.getD j 0 ≠ 65536 * pp + 256 * ss + oo) ∧ T.length < 400 ∧ r2 = nI 1 ∧ u2.2.2.2 = T ++ [65536 * pp + 256 * ss + oo] ∧ RM (T ++ [65536 * pp + 256 * ss + oo]) u2.1 u2.2.1 u2.2.2.1))) : r1 = r2 ∧ ∃ Ls2, LI (it + 1) u1.1 u1.2 Ls2 fs fp fo n z k e u2.1 u2.2.1 u2.2.2.1 u2.2.2.2 ak cn := by
  obtain ⟨hT, hM, hR, hn, hAk, hok, hke, h40, hit, hz⟩ := I
  have hb := RM_bd hM
  have ht := ag_tot hR hb
  rw [ht] at hx
  rcases hx with ⟨a, e1, q1⟩ | ⟨ss, pp, oo, h1, h2, h3, h4, h5, h6, hx⟩ <;> rcases hm with ⟨b, e2, w1⟩ | ⟨s', p', o', g1, g2, g3, g4, g5, g6, hm⟩
  · subst w1
    exact ⟨by rw [e1, e2], Ls, q1, hM, hR, hn, hAk, hok, hke, h40, by omega, hz⟩
  · exact (nb3 a g1 g2 g3 g4 g5 g6).elim
  · exact (nb3 b h1 h2 h3 h4 h5 h6).elim
  · have x1 := ij (by omega) (by omega) h4 g4
    have x2 := ij (by omega) (by omega) h5 g5
    have x3 := ij (by omega) (by omega) h6 g6
    subst x1; subst x2; subst x3
    have hmem := ag_mem hR h2 (c := 256 * ss + oo) (by omega)
    rw [show 65536 * pp + (256 * ss + oo) = 65536 * pp + 256 * ss + oo by omega] at hmem
    rcases hx with ⟨a1, e1, q1⟩ | ⟨a1, a2, e1, q1⟩ | ⟨a1, a2, e1, kq, hkq, q1⟩ <;> rcases hm with ⟨b1, e2, w1⟩ | ⟨b1, b2, e2, w1⟩ | ⟨b1, b2, e2, w1, w2⟩
    · subst w1
      exact ⟨by rw [e1, e2], Ls, q1, hM, hR, hn, hAk, hok, hke, h40, by omega, hz⟩
    · exfalso; obtain ⟨j, hj, ej⟩ := hmem.mp a1; exact b1 j hj ej
    · exfalso; obtain ⟨j, hj, ej⟩ := hmem.mp a1; exact b1 j hj ej
    · exact absurd (hmem.mpr b1) a1
    · subst w1
      exact ⟨by rw [e1, e2], Ls, q1, hM, hR, hn, hAk, hok, hke, h40, by omega, hz⟩
    · omega
    · exact absurd (hmem.mpr b1) a1
    · omega
    · refine ⟨by rw [e1, e2], _, q1, by rw [w1]; exact w2, ?_, hn, hAk, hok, hke, h40, by omega, hz⟩
      rw [w1, show 65536 * pp + 256 * ss + oo = 65536 * pp + (256 * ss + oo) by omega]
      exact RL_ins hR (by omega) hkq

set_option maxHeartbeats 4000000 in
theorem ag_drop {it : Nat} {f g : Nat → Int32} {Ls : Nat → List Nat} {fs fp fo : Nat → Int32} {n : Nat} {z : Nat → Int32} {k e : Nat} {su pd ob : Nat → Int32} {T : List Nat} {ak cn : Nat → Int32} (I : LI it f g Ls fs fp fo n z k e su pd ob T ak cn) (h512 : it ≤ 512) (s1 p1 o1 : Int32) {r1 r2 : Int32} {u1 : ((Nat → Int32) × (Nat → Int32))} {u2 : ((Nat → Int32) × (Nat → Int32) × (Nat → Int32) × List Nat)} (hx : ((inr_ 256 s1 && inr_ 8 p1 && inr_ 256 o1) = false ∧ r1 = -1 ∧ RT Ls u1.1 u1.2) ∨ ∃ ss pp oo, ss < 256 ∧ pp < 8 ∧ oo < 256 ∧ s1 = nI ss ∧ p1 = nI pp ∧ o1 = nI oo ∧ (((256 * ss + oo ∉ Ls pp) ∧ r1 = nI 0 ∧ RT Ls u1.1 u1.2) ∨ ((256 * ss + oo ∈ Ls pp) ∧ r1 = nI 1 ∧ ∃ k, k < (Ls pp).length ∧ (Ls pp).getD k 0 = 256 * ss + oo ∧ RT (tr_del Ls pp k) u1.1 u1.2))) (hm : ((inr_ 256 s1 && inr_ 8 p1 && inr_ 256 o1) = false ∧ r2 = -1 ∧ u2 = (su, pd, ob, T)) ∨ ∃ ss pp oo, ss < 256 ∧ pp < 8 ∧ oo < 256 ∧ s1 = nI ss ∧ p1 = nI pp ∧ o1 = nI oo ∧ (((∀ j, j < T.length → T.getD j 0 ≠ 65536 * pp + 256 * ss + oo) ∧ r2 = nI 0 ∧ u2 = (su, pd, ob, T)) ∨ (∃ j, j < T.length ∧ T.getD j 0 = 65536 * pp + 256 * ss + oo ∧ r2 = nI 1 ∧ u2.2.2.2 = tdel T j ∧ RM (tdel T j) u2.1 u2.2.1 u2.2.2.1))) : r1 = r2 ∧ ∃ Ls2, LI (it + 1) u1.1 u1.2 Ls2 fs fp fo n z k e u2.1 u2.2.1 u2.2.2.1 u2.2.2.2 ak cn := by
  obtain ⟨hT, hM, hR, hn, hAk, hok, hke, h40, hit, hz⟩ := I
  have hb := RM_bd hM
  rcases hx with ⟨a, e1, q1⟩ | ⟨ss, pp, oo, h1, h2, h3, h4, h5, h6, hx⟩ <;> rcases hm with ⟨b, e2, w1⟩ | ⟨s', p', o', g1, g2, g3, g4, g5, g6, hm⟩
  · subst w1
    exact ⟨by rw [e1, e2], Ls, q1, hM, hR, hn, hAk, hok, hke, h40, by omega, hz⟩
  · exact (nb3 a g1 g2 g3 g4 g5 g6).elim
  · exact (nb3 b h1 h2 h3 h4 h5 h6).elim
  · have x1 := ij (by omega) (by omega) h4 g4
    have x2 := ij (by omega) (by omega) h5 g5
    have x3 := ij (by omega) (by omega) h6 g6
    subst x1; subst x2; subst x3
    have hmem := ag_mem hR h2 (c := 256 * ss + oo) (by omega)
    rw [show 65536 * pp + (256 * ss + oo) = 65536 * pp + 256 * ss + oo by omega] at hmem
    rcases hx with ⟨a1, e1, q1⟩ | ⟨a1, e1, kq, hkq, ekq, q1⟩ <;> rcases hm with ⟨b1, e2, w1⟩ | ⟨j, hj, ej, e2, w1, w2⟩
    · subst w1
      exact ⟨by rw [e1, e2], Ls, q1, hM, hR, hn, hAk, hok, hke, h40, by omega, hz⟩
    · exact absurd (hmem.mpr ⟨j, hj, ej⟩) a1
    · exfalso; obtain ⟨j, hj, ej⟩ := hmem.mp a1; exact b1 j hj ej
    · refine ⟨by rw [e1, e2], _, q1, by rw [w1]; exact w2, ?_, hn, hAk, hok, hke, h40, by omega, hz⟩
      rw [w1]
      exact RL_del hR (by omega) hkq ekq hj (by rw [ej]; omega)
