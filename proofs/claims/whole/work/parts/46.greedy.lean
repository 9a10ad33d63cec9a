/-! THE MODEL'S GREEDY is the assignment of least weight too -/
theorem i32_add {x y : Int32} (h1 : -2147483648 ≤ x.toInt + y.toInt) (h2 : x.toInt + y.toInt < 2147483648) : (x + y).toInt = x.toInt + y.toInt := by
  rw [Int32.toInt_add, Int.bmod_def]
  omega
theorem e7_I : (10000000 : Int32).toInt = 10000000 := by decide
theorem wor_e {c r : Int32} {k : Nat} (hk : k < 209715) (hc : c = nI k) (h0 : 0 ≤ r.toInt) (h1 : r.toInt ≤ 100000000) : (10000000 - c + r).toInt = 10000000 - (k : Int) + r.toInt := by
  subst hc
  have e1 : ((10000000 : Int32) - nI k).toInt = 10000000 - (k : Int) := by
    rw [fb_subI (by rw [e7_I, nI_toInt (by omega)]; omega) (by rw [e7_I, nI_toInt (by omega)]; omega), e7_I, nI_toInt (by omega)]
  rw [i32_add (by rw [e1]; omega) (by rw [e1]; omega), e1]
theorem ar_g {k : Nat} {x R : Int} (h : x ≤ R) : 10000000 - (k : Int) + x ≤ R + 10000000 := by omega
theorem ar_h {x R : Int} (h : x ≤ R) : x ≤ R + 10000000 := by omega
theorem ar_9 {r : Nat} (h : r ≤ 9) : (r : Int) * 10000000 ≤ 90000000 := by omega
theorem ar_10 {r : Nat} (h : r ≤ 10) : (r : Int) * 10000000 ≤ 100000000 := by omega
theorem ar_r (r : Nat) : (r : Int) * 10000000 + 10000000 ≤ ((r + 1 : Nat) : Int) * 10000000 := by omega
theorem ar_r0 (r : Nat) : (r : Int) * 10000000 ≤ ((r + 1 : Nat) : Int) * 10000000 := by omega
theorem ar_100 {x R : Int} (h : x ≤ R) (hR : R ≤ 90000000) : x ≤ 100000000 := by omega
section GR
variable {s : DS}
/-- one row of best -/
theorem bsT_ok (hC : CW s) {g : Nat} (hg : g < zG s) {row : Nat → Int32} {R : Int} (hR : R ≤ 90000000) (hr : ∀ j, j < 2 ^ zT s → 0 ≤ (row j).toInt ∧ (row j).toInt ≤ R) {set : Nat} (hs : set < 2 ^ zT s) : ∀ m, m ≤ zT s →
    (row set).toInt ≤ (bsT s g row set m).toInt ∧ (bsT s g row set m).toInt ≤ R + 10000000 ∧
    (∀ t, t < m → set.testBit t = false → zGo s t g = true → (10000000 - zCs s t g + row (set ||| 2 ^ t)).toInt ≤ (bsT s g row set m).toInt) ∧
    ((bsT s g row set m) = row set ∨ ∃ t, t < m ∧ set.testBit t = false ∧ zGo s t g = true ∧ bsT s g row set m = 10000000 - zCs s t g + row (set ||| 2 ^ t))
  | 0, _ => ⟨Int.le_refl _, ar_h (hr set hs).2, fun t ht => absurd ht (Nat.not_lt_zero t), Or.inl rfl⟩
  | m + 1, hm => by
    obtain ⟨h1, h2, h3, h4⟩ := bsT_ok hC hg hR hr hs m (Nat.le_of_succ_le hm)
    obtain ⟨k, hk, ek⟩ := hC m hm g hg
    have ho := hr _ (or_lt hs hm)
    have hv := wor_e (r := row (set ||| 2 ^ m)) hk ek ho.1 (ar_100 ho.2 hR)
    have e : bsT s g row set (m + 1) = if (!set.testBit m && zGo s m g) && decide (bsT s g row set m < 10000000 - zCs s m g + row (set ||| 2 ^ m)) then 10000000 - zCs s m g + row (set ||| 2 ^ m) else bsT s g row set m := rfl
    have hor : ∀ t, t < m + 1 → t ≠ m → t < m := fun t a b => Nat.lt_of_le_of_ne (Nat.le_of_lt_succ a) b
    generalize bsT s g row set m = B at h1 h2 h3 h4 e
    by_cases c : ((!set.testBit m && zGo s m g) && decide (B < 10000000 - zCs s m g + row (set ||| 2 ^ m))) = true
    · rw [e, if_pos c]
      simp only [Bool.and_eq_true, Bool.not_eq_true', decide_eq_true_iff] at c
      have c3 := Int32.lt_iff_toInt_lt.mp c.2
      refine ⟨Int.le_trans h1 (Int.le_of_lt c3), by rw [hv]; exact ar_g ho.2, fun t ht q1 q2 => ?_, Or.inr ⟨m, Nat.lt_succ_self m, c.1.1, c.1.2, rfl⟩⟩
      by_cases e2 : t = m
      · rw [e2]; exact Int.le_refl _
      · exact Int.le_trans (h3 t (hor t ht e2) q1 q2) (Int.le_of_lt c3)
    · rw [e, if_neg c]
      refine ⟨h1, h2, fun t ht q1 q2 => ?_, ?_⟩
      · by_cases e2 : t = m
        · subst e2
          have : ¬ B.toInt < (10000000 - zCs s t g + row (set ||| 2 ^ t)).toInt := fun z => c (by
            simp only [Bool.and_eq_true, Bool.not_eq_true', decide_eq_true_iff]
            exact ⟨⟨q1, q2⟩, Int32.lt_iff_toInt_lt.mpr z⟩)
          exact Int.not_lt.mp this
        · exact h3 t (hor t ht e2) q1 q2
      · rcases h4 with h4 | ⟨t, q1, q2⟩
        · exact Or.inl h4
        · exact Or.inr ⟨t, Nat.lt_succ_of_lt q1, q2⟩
theorem bsG_rng (hW : DW s) (hC : CW s) : ∀ r, r ≤ zG s → ∀ j, j < 2 ^ zT s → 0 ≤ (bsG s (zG s - r) j).toInt ∧ (bsG s (zG s - r) j).toInt ≤ r * 10000000
  | 0, _, j, _ => by
    rw [Nat.sub_zero, bsG_e]
    show 0 ≤ (0 : Int32).toInt ∧ (0 : Int32).toInt ≤ ((0 : Nat) : Int) * 10000000
    exact ⟨by decide, by decide⟩
  | r + 1, hr, j, hj => by
    have hgc := hW.2.1
    have hgl : zG s - (r + 1) < zG s := by omega
    have e1 : zG s - (r + 1) + 1 = zG s - r := by omega
    have hr9 : r ≤ 9 := by omega
    have ih := bsG_rng hW hC r (Nat.le_of_succ_le hr)
    rw [bsG_s s hgl, e1]
    by_cases c : zOp s (zG s - (r + 1)) = true
    · rw [if_pos c]
      have h := bsT_ok hC hgl (row := bsG s (zG s - r)) (R := r * 10000000) (ar_9 hr9) ih hj (zT s) (Nat.le_refl _)
      exact ⟨Int.le_trans (ih j hj).1 h.1, Int.le_trans h.2.1 (ar_r r)⟩
    · rw [if_neg c]
      exact ⟨(ih j hj).1, Int.le_trans (ih j hj).2 (ar_r0 r)⟩
theorem bsG_nn (hW : DW s) (hC : CW s) {g j : Nat} (hg : g ≤ zG s) (hj : j < 2 ^ zT s) : 0 ≤ (bsG s g j).toInt ∧ (bsG s g j).toInt ≤ 100000000 := by
  have hgc := hW.2.1
  have e1 : zG s - (zG s - g) = g := by omega
  have e2 : zG s - g ≤ zG s := by omega
  have e3 : zG s - g ≤ 10 := by omega
  have h := bsG_rng hW hC (zG s - g) e2 j hj
  rw [e1] at h
  exact ⟨h.1, Int.le_trans h.2 (ar_10 e3)⟩
theorem bs_T (hW : DW s) (hC : CW s) {g j : Nat} (hg : g < zG s) (hj : j < 2 ^ zT s) :
    (bsG s (g + 1) j).toInt ≤ (bsG s g j).toInt ∧
    (zOp s g = true → ∀ t, t < zT s → j.testBit t = false → zGo s t g = true → (10000000 - zCs s t g + bsG s (g + 1) (j ||| 2 ^ t)).toInt ≤ (bsG s g j).toInt) ∧
    (bsG s g j = bsG s (g + 1) j ∨ (zOp s g = true ∧ ∃ t, t < zT s ∧ j.testBit t = false ∧ zGo s t g = true ∧ bsG s g j = 10000000 - zCs s t g + bsG s (g + 1) (j ||| 2 ^ t))) := by
  have hgc := hW.2.1
  rw [bsG_s s hg]
  by_cases c : zOp s g = true
  · rw [if_pos c]
    have e1 : zG s - (zG s - (g + 1)) = g + 1 := by omega
    have e2 : zG s - (g + 1) ≤ zG s := by omega
    have e3 : zG s - (g + 1) ≤ 9 := by omega
    have hr : ∀ i, i < 2 ^ zT s → 0 ≤ (bsG s (g + 1) i).toInt ∧ (bsG s (g + 1) i).toInt ≤ 90000000 := fun i hi => by
      have h := bsG_rng hW hC (zG s - (g + 1)) e2 i hi
      rw [e1] at h
      exact ⟨h.1, Int.le_trans h.2 (ar_9 e3)⟩
    obtain ⟨h1, h2, h3, h4⟩ := bsT_ok hC hg (row := bsG s (g + 1)) (R := 90000000) (Int.le_refl _) hr hj (zT s) (Nat.le_refl _)
    refine ⟨h1, fun _ t ht q1 q2 => h3 t ht q1 q2, ?_⟩
    rcases h4 with h4 | h4
    · exact Or.inl h4
    · exact Or.inr ⟨c, h4⟩
  · rw [if_neg c]
    exact ⟨Int.le_refl _, fun z => absurd z c, Or.inl rfl⟩
/-! tails -/
def sI (f : Nat → Int) (g : Nat) : Nat → Int
  | 0 => 0
  | k + 1 => f g + sI f (g + 1) k
def tl (f : Nat → Int) (g : Nat) : Int := sI f g (10 - g)
theorem tl_s (f : Nat → Int) {g : Nat} (hg : g < 10) : tl f g = f g + tl f (g + 1) := by
  unfold tl
  rw [show 10 - g = (10 - (g + 1)) + 1 by omega]
  rfl
theorem tl_10 (f : Nat → Int) : tl f 10 = 0 := rfl
/-- downward from ten -/
theorem down {P : Nat → Prop} (h10 : P 10) (hs : ∀ g, g < 10 → P (g + 1) → P g) : ∀ k, k ≤ 10 → P (10 - k)
  | 0, _ => h10
  | k + 1, hk => hs _ (by omega) (by
      rw [show 10 - (k + 1) + 1 = 10 - k by omega]
      exact down h10 hs k (by omega))
theorem down' {P : Nat → Prop} (h10 : P 10) (hs : ∀ g, g < 10 → P (g + 1) → P g) {g : Nat} (hg : g ≤ 10) : P g := by
  have := down h10 hs (10 - g) (by omega)
  rw [show 10 - (10 - g) = g by omega] at this
  exact this
def fK (s : DS) (b : Nat → Nat) (g : Nat) : Int := if b g = 12 then 0 else (zCs s (b g) g).toInt
def fC (b : Nat → Nat) (g : Nat) : Int := if b g = 12 then 0 else 1
def fO (s : DS) (g : Nat) : Int := if g < zG s ∧ zOp s g = true then 1 else 0
def fR (s : DS) (b : Nat → Nat) (g : Nat) : Int := if g < zG s ∧ zOp s g = true then ((b g * 16 ^ (9 - g) : Nat) : Int) else 0
/-- what a filled gap is -/
theorem VA.fil (hC : CW s) {b : Nat → Nat} (hb : VA (zW s) 10 b) {g : Nat} (hg : g < 10) (h : b g ≠ 12) : g < zG s ∧ zOp s g = true ∧ b g < zT s ∧ zGo s (b g) g = true ∧ ∃ k, k < 209715 ∧ zCs s (b g) g = nI k ∧ vl (zW s) g (b g) = ((k * 1099511627776 + b g * 16 ^ (9 - g) : Nat) : Int) := by
  have h12 := hb.1 g hg
  have hne := hb.2.2.1 g hg h
  rcases zW_t hC hg (show b g < 12 by omega) with h1 | ⟨h1, h2, h3, h4, k, hk, e, e2⟩
  · exact absurd h1 hne
  · refine ⟨h1, h2, h3, h4, k, hk, e, ?_⟩
    have hp := p16 (g := g)
    have h9 : b g * 16 ^ (9 - g) ≤ 12 * 16 ^ (9 - g) := Nat.mul_le_mul_right _ (by omega)
    rw [vl_e hne, e2, pf_lI (by omega)]
theorem vl_12 {g : Nat} (hg : g < 10) : vl (zW s) g 12 = if g < zG s ∧ zOp s g = true then ((2305843009213693952 + 12 * 16 ^ (9 - g) : Nat) : Int) else 0 := by
  have hp := p16 (g := g)
  by_cases c : g < zG s ∧ zOp s g = true
  · rw [if_pos c, vl_e ((zW_12 hg).mpr c)]
    unfold zW
    rw [if_pos c, if_pos rfl, unf_e g hg, pf_lI (by omega)]
  · rw [if_neg c]
    unfold vl
    rw [if_pos]
    by_cases z : zW s g 12 = -1
    · exact z
    · exact absurd ((zW_12 hg).mp z) c
theorem vl_parts (hC : CW s) {b : Nat → Nat} (hb : VA (zW s) 10 b) {g : Nat} (hg : g < 10) : vl (zW s) g (b g) = 2305843009213693952 * fO s g - 2305843009213693952 * fC b g + 1099511627776 * fK s b g + fR s b g := by
  by_cases c : b g = 12
  · rw [c, vl_12 hg]
    unfold fO fC fK fR
    rw [if_pos c, if_pos c, c]
    split <;> omega
  · obtain ⟨h1, h2, h3, h4, k, hk, e, e2⟩ := hb.fil hC hg c
    rw [e2]
    unfold fO fC fK fR
    rw [if_neg c, if_neg c, if_pos ⟨h1, h2⟩, if_pos ⟨h1, h2⟩, e, nI_toInt (by omega)]
    omega
theorem tl_parts (hC : CW s) {b : Nat → Nat} (hb : VA (zW s) 10 b) {g : Nat} (hg : g ≤ 10) : tl (fun i => vl (zW s) i (b i)) g = 2305843009213693952 * tl (fO s) g - 2305843009213693952 * tl (fC b) g + 1099511627776 * tl (fK s b) g + tl (fR s b) g := by
  refine down' (P := fun g => tl (fun i => vl (zW s) i (b i)) g = 2305843009213693952 * tl (fO s) g - 2305843009213693952 * tl (fC b) g + 1099511627776 * tl (fK s b) g + tl (fR s b) g) ?_ ?_ hg
  · rw [tl_10, tl_10, tl_10, tl_10, tl_10]; rfl
  · intro g hg ih
    rw [tl_s _ hg, tl_s _ hg, tl_s _ hg, tl_s _ hg, tl_s _ hg, ih, vl_parts hC hb hg]
    omega
theorem tl_bnd (hC : CW s) {b : Nat → Nat} (hb : VA (zW s) 10 b) {g : Nat} (hg : g ≤ 10) : 0 ≤ tl (fC b) g ∧ 0 ≤ tl (fK s b) g ∧ tl (fK s b) g ≤ (10 - g : Nat) * 209714 ∧ 0 ≤ tl (fR s b) g ∧ tl (fR s b) g < ((16 ^ (10 - g) : Nat) : Int) := by
  refine down' (P := fun g => 0 ≤ tl (fC b) g ∧ 0 ≤ tl (fK s b) g ∧ tl (fK s b) g ≤ (10 - g : Nat) * 209714 ∧ 0 ≤ tl (fR s b) g ∧ tl (fR s b) g < ((16 ^ (10 - g) : Nat) : Int)) ?_ ?_ hg
  · rw [tl_10, tl_10, tl_10]; exact ⟨by decide, by decide, by decide, by decide, by decide⟩
  · intro g hg ⟨i1, i2, i3, i4, i5⟩
    rw [tl_s _ hg, tl_s _ hg, tl_s _ hg]
    have hps := pw_s (n := g) hg
    have h12 := hb.1 g hg
    have h9 : b g * 16 ^ (9 - g) ≤ 12 * 16 ^ (9 - g) := Nat.mul_le_mul_right _ h12
    rw [show 10 - (g + 1) = 9 - g by omega] at i3 i5
    have f1 : 0 ≤ fC b g := by unfold fC; split <;> decide
    have f2 : 0 ≤ fK s b g ∧ fK s b g ≤ 209714 := by
      unfold fK
      by_cases c : b g = 12
      · rw [if_pos c]; exact ⟨by decide, by decide⟩
      · obtain ⟨h1, h2, h3, h4, k, hk, e, e2⟩ := hb.fil hC hg c
        rw [if_neg c, e, nI_toInt (by omega)]
        exact ⟨by omega, by omega⟩
    have f3 : 0 ≤ fR s b g ∧ fR s b g ≤ ((12 * 16 ^ (9 - g) : Nat) : Int) := by
      unfold fR
      split
      · exact ⟨Int.natCast_nonneg _, by omega⟩
      · exact ⟨by decide, Int.natCast_nonneg _⟩
    exact ⟨by omega, by omega, by omega, by omega, by omega⟩
end GR
