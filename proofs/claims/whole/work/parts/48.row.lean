/-! its row is the least -/
theorem ar_eq {C K C' K' B : Int} (h0 : 0 ≤ K) (h1 : K ≤ 2097140) (h2 : 0 ≤ K') (h3 : K' ≤ 2097140) (hb : 10000000 * C - K = B) (hB : 10000000 * C' - K' = B) : C = C' := by omega
theorem ar_n {r : Nat} (h : r ≤ 10) : (r : Int) * 209714 ≤ 2097140 := by omega
theorem ar_q {C K K' : Int} (h : 10000000 * C - K = 10000000 * C - K') : K = K' := by omega
theorem ar_lt {C K C' K' : Int} (h0 : 0 ≤ K) (h1 : K ≤ 2097140) (h2 : 0 ≤ K') (h3 : K' ≤ 2097140) (h : 10000000 * C - K < 10000000 * C' - K') : C < C' ∨ (C = C' ∧ K' + 1 ≤ K) := by omega
theorem ar_a {O C K R C' K' R' : Int} (h0 : 0 ≤ K) (h3 : K' ≤ 2097140) (h4 : 0 ≤ R) (h5 : R' ≤ 1099511627776) (h : C < C') : 2305843009213693952 * O - 2305843009213693952 * C' + 1099511627776 * K' + R' ≤ 2305843009213693952 * O - 2305843009213693952 * C + 1099511627776 * K + R := by omega
theorem ar_b {O C K R K' R' : Int} (h4 : 0 ≤ R) (h5 : R' ≤ 1099511627776) (h : K' + 1 ≤ K) : 2305843009213693952 * O - 2305843009213693952 * C + 1099511627776 * K' + R' ≤ 2305843009213693952 * O - 2305843009213693952 * C + 1099511627776 * K + R := by omega
theorem ar_c {x y z w : Int} {a b p : Nat} (h0 : 0 ≤ y) (h1 : x < (p : Int)) (h2 : a + p ≤ b) (hz : z = (a : Int) + x) (hw : w = (b : Int) + y) : z ≤ w := by omega
theorem ar_d {a x y : Int} (h : x ≤ y) : a + x ≤ a + y := by omega
theorem ar_e {a x y : Int} (h : x ≤ y) : a + x ≤ a + y := by omega
theorem ar_v {C K T X k B : Int} (hv : 10000000 * (1 + C) - (k + K) = B) (h5 : 10000000 * C - K ≤ X) (h6 : 10000000 - k + X ≤ B) : 10000000 - k + X = B := by omega
section GR
variable {s : DS}
/-- and of those worth the best its row is the least -/
theorem clC (hW : DW s) (hC : CW s) {b : Nat → Nat} (hb : VA (zW s) 10 b) {g : Nat} (hg10 : g ≤ 10) : (∀ i, g ≤ i → i < 10 → b i ≠ 12 → (wkF s g).2.1.testBit (b i) = false) → tl (fun i => vl (zW s) i (bst s i)) g ≤ tl (fun i => vl (zW s) i (b i)) g := by
  have htc := hW.1
  have hgc := hW.2.1
  have hB := bst_VA hW hC
  refine down' (P := fun g => (∀ i, g ≤ i → i < 10 → b i ≠ 12 → (wkF s g).2.1.testBit (b i) = false) → tl (fun i => vl (zW s) i (bst s i)) g ≤ tl (fun i => vl (zW s) i (b i)) g) ?_ ?_ hg10
  · intro _
    rw [tl_10, tl_10]
    exact Int.le_refl 0
  · intro g hg ih hav
    have e109 : 10 - (g + 1) = 9 - g := by omega
    by_cases c : g < zG s
    · have hgo := wkF_go (s := s) g
      have vA := clA hW hC hb (Nat.le_of_lt hg) (wkF s g).2.1 (Nat.le_of_lt c) hgo hav
      have vB := clB hW hC (Nat.le_of_lt hg) (Nat.le_of_lt c)
      obtain ⟨b1, b2, b3, b4, b5⟩ := tl_bnd hC hb (Nat.le_of_lt hg)
      obtain ⟨c1, c2, c3, c4, c5⟩ := tl_bnd hC hB (Nat.le_of_lt hg)
      have p1 := tl_parts hC hb (Nat.le_of_lt hg)
      have p2 := tl_parts hC hB (Nat.le_of_lt hg)
      have hp : 16 ^ (10 - g) ≤ 1099511627776 := Nat.pow_le_pow_right (n := 16) (by decide) (Nat.sub_le 10 g)
      have hp2 : ((16 ^ (10 - g) : Nat) : Int) ≤ 1099511627776 := Int.ofNat_le.mpr hp
      have hk10 : ((10 - g : Nat) : Int) * 209714 ≤ 2097140 := ar_n (Nat.sub_le 10 g)
      have b6 := Int.le_trans b3 hk10
      have c6 := Int.le_trans c3 hk10
      have c7 := Int.le_trans (Int.le_of_lt c5) hp2
      by_cases cv : 10000000 * tl (fC b) g - tl (fK s b) g = (bsG s g (wkF s g).2.1).toInt
      · -- worth the same: the digits decide
        have eC : tl (fC b) g = tl (fC (bst s)) g := ar_eq b2 b6 c2 c6 cv vB
        have eK : tl (fK s b) g = tl (fK s (bst s)) g := by
          rw [← vB, eC] at cv
          exact ar_q cv
        have hle : bst s g ≤ b g := by
          by_cases cb : b g = 12
          · rw [cb]; exact hB.1 g hg
          · obtain ⟨h1, h2, h3, h4, k, hk, e, e2⟩ := hb.fil hC hg cb
            have hbit := hav g (Nat.le_refl g) hg cb
            have ho := or_lt hgo h3
            have h5 := clA hW hC hb hg ((wkF s g).2.1 ||| 2 ^ b g) h1 ho (fun i q1 q2 q3 => by
              rw [Nat.testBit_or, hav i (Nat.le_of_succ_le q1) q2 q3, Nat.testBit_two_pow, Bool.false_or]
              apply decide_eq_false
              intro z
              exact q3 ((hb.2.2.2 i g q2 hg (Nat.ne_of_gt q1) z.symm)))
            have h6 := (bs_T hW hC h1 hgo).2.1 h2 (b g) h3 hbit h4
            have h7 := bsG_nn hW hC (show g + 1 ≤ zG s from c) ho
            have e7 := wor_e hk e h7.1 h7.2
            rw [e7] at h6
            rw [tl_s _ hg, tl_s _ hg, show fC b g = 1 from if_neg cb, show fK s b g = (zCs s (b g) g).toInt from if_neg cb, e, nI_toInt (Nat.lt_trans hk (by decide))] at cv
            have hwB : wkB s g (wkF s g).2.1 (b g) = true := by
              unfold wkB
              rw [hbit, h4, decide_eq_true (Int32.toInt_inj.mp (by rw [e7]; exact ar_v (T := 0) cv h5 h6))]
              rfl
            rcases bst_ne htc c with ⟨h0, _⟩ | ⟨t, q1, q2, q3⟩
            · rw [wkT_none h0 h2 h3] at hwB
              cases hwB
            · rw [q2]; exact wkT_first q1 hwB
        by_cases ce : bst s g = b g
        · rw [tl_s _ hg, tl_s (fun i => vl (zW s) i (b i)) hg, ce]
          have h9 := ih (fun i q1 q2 q3 => by
            rw [wkF_gone]
            rcases bst_ne htc c with ⟨h0, _⟩ | ⟨t, r1, r2, r3⟩
            · rw [h0]; exact hav i (Nat.le_of_succ_le q1) q2 q3
            · rw [r1]
              show ((wkF s g).2.1 ||| 2 ^ t).testBit (b i) = false
              rw [Nat.testBit_or, hav i (Nat.le_of_succ_le q1) q2 q3, Nat.testBit_two_pow, Bool.false_or]
              apply decide_eq_false
              intro z
              exact q3 (hb.2.2.2 i g q2 hg (Nat.ne_of_gt q1) (by rw [← ce, r2, z])))
          exact ar_d h9
        · have hopen : g < zG s ∧ zOp s g = true := by
            by_cases cb : b g = 12
            · have hne : bst s g ≠ 12 := fun z => ce (by rw [z, cb])
              have := hB.fil hC hg hne
              exact ⟨c, this.2.1⟩
            · exact ⟨c, (hb.fil hC hg cb).2.1⟩
          obtain ⟨_, _, _, d4, d5⟩ := tl_bnd hC hB hg
          obtain ⟨_, _, _, f4, _⟩ := tl_bnd hC hb hg
          rw [show 10 - (g + 1) = 9 - g from e109] at d5
          have r1 : tl (fR s (bst s)) g = ((bst s g * 16 ^ (9 - g) : Nat) : Int) + tl (fR s (bst s)) (g + 1) := by
            rw [tl_s _ hg, show fR s (bst s) g = _ from if_pos hopen]
          have r2 : tl (fR s b) g = ((b g * 16 ^ (9 - g) : Nat) : Int) + tl (fR s b) (g + 1) := by
            rw [tl_s _ hg, show fR s b g = _ from if_pos hopen]
          have r3 : (bst s g + 1) * 16 ^ (9 - g) ≤ b g * 16 ^ (9 - g) := Nat.mul_le_mul_right _ (Nat.lt_of_le_of_ne hle ce)
          rw [Nat.add_mul, Nat.one_mul] at r3
          rw [p1, p2, eC, eK]
          exact ar_d (ar_c f4 d5 r3 r1 r2)
      · rw [p1, p2]
        have cv2 : 10000000 * tl (fC b) g - tl (fK s b) g < 10000000 * tl (fC (bst s)) g - tl (fK s (bst s)) g := by
          rw [vB]
          exact Int.lt_iff_le_and_ne.mpr ⟨vA, cv⟩
        rcases ar_lt b2 b6 c2 c6 cv2 with q | ⟨q1, q2⟩
        · exact ar_a b2 c6 b4 c7 q
        · rw [q1]
          exact ar_b b4 c7 q2
    · rw [tl_s _ hg, tl_s (fun i => vl (zW s) i (b i)) hg]
      have hb12 : b g = 12 := by
        by_cases z : b g = 12
        · exact z
        · exact absurd (hb.fil hC hg z).1 c
      have hB12 : bst s g = 12 := by unfold bst; rw [if_neg c]
      have h9 := ih (fun i q1 q2 q3 => absurd (hb.fil hC q2 q3).1 (fun z => c (Nat.lt_of_le_of_lt (Nat.le_of_succ_le q1) z)))
      rw [hb12, hB12]
      exact ar_d h9
theorem Wt_tl (f : Nat → Int) : sF f 10 = tl f 0 := by
  show 0 + f 0 + f 1 + f 2 + f 3 + f 4 + f 5 + f 6 + f 7 + f 8 + f 9 = f 0 + (f 1 + (f 2 + (f 3 + (f 4 + (f 5 + (f 6 + (f 7 + (f 8 + (f 9 + 0)))))))))
  omega
/-- THE CLASS'S MATCH IS THE MODEL'S -/
theorem Mtd.isb {s : DS} (hW : DW s) (hC : CW s) {A : Nat → Nat} {o : oa_T} (h : Mtd s A o) : ∀ g, g < 10 → A g = bst s g := by
  have hU := Mtd.um hW hC h
  have h2 := (Mto.c hW h.o).2.1
  have hva : ∀ b, VA (zW s) 10 b → VA o.2.1 10 b := fun b hb => ⟨hb.1, hb.2.1, fun g hg hne => by rw [h2 g hg _ (hb.1 g hg)]; exact hb.2.2.1 g hg hne, hb.2.2.2⟩
  have hav : VA (zW s) 10 A := ⟨hU.1.1, hU.1.2.1, fun g hg hne => by rw [← h2 g hg _ (hU.1.1 g hg)]; exact hU.1.2.2.1 g hg hne, hU.1.2.2.2⟩
  have hvl : ∀ b, VA (zW s) 10 b → Wt (vl o.2.1) 10 b = tl (fun i => vl (zW s) i (b i)) 0 := fun b hb => by
    rw [← Wt_tl]
    unfold Wt
    exact sF_cg (fun i hi => by unfold vl; rw [h2 i hi _ (hb.1 i hi)])
  have hB := bst_VA hW hC
  have hle := clC hW hC hav (Nat.zero_le 10) (fun i _ _ _ => by
    show (0 : Nat).testBit (A i) = false
    exact Nat.zero_testBit _)
  intro g hg
  by_cases c : A g = bst s g
  · exact c
  · have := hU.2 (bst s) (hva _ hB) ⟨g, hg, fun z => c z.symm⟩
    rw [hvl A hav, hvl _ hB] at this
    omega
end GR
