/-! THE MODEL'S GREEDY is the assignment of least weight too -/
theorem i32_add {x y : Int32} (h1 : -2147483648 ≤ x.toInt + y.toInt) (h2 : x.toInt + y.toInt < 2147483648) : (x + y).toInt = x.toInt + y.toInt := by
  rw [Int32.toInt_add, Int.bmod_def]
  omega
theorem e7_I : (10000000 : Int32).toInt = 10000000 := by decide
theorem wor_e {c r : Int32} {k : Nat} (hk : k < 209715) (hc : c = nI k) (h0 : 0 ≤ r.toInt) (h1 : r.toInt ≤ 100000000) : (10000000 - c + r).toInt = 10000000 - (k : Int) + r.toInt := by
  subst hc
  have e1 : ((10000000 : Int32) - nI k).toInt = 10000000 - (k : Int) := by
    rw [fb_subI (by rw [e7_I, nI_toInt (by omega)]; omega) (by rw [e7_I, nI_toInt (by omega)]; omega), e7_I, nI_toInt (by omega)]
  rw [i32_add (by rw [e1]; omega) (by rw [e1]; omega), e1]
section GR
variable {s : DS}
/-- one row of best -/
theorem bsT_ok (hC : CW s) {g : Nat} (hg : g < zG s) {row : Nat → Int32} {R : Int} (hR : R ≤ 90000000) (hr : ∀ j, j < 2 ^ zT s → 0 ≤ (row j).toInt ∧ (row j).toInt ≤ R) {set : Nat} (hs : set < 2 ^ zT s) : ∀ m, m ≤ zT s →
    (row set).toInt ≤ (bsT s g row set m).toInt ∧ (bsT s g row set m).toInt ≤ R + 10000000 ∧
    (∀ t, t < m → set.testBit t = false → zGo s t g = true → (10000000 - zCs s t g + row (set ||| 2 ^ t)).toInt ≤ (bsT s g row set m).toInt) ∧
    ((bsT s g row set m) = row set ∨ ∃ t, t < m ∧ set.testBit t = false ∧ zGo s t g = true ∧ bsT s g row set m = 10000000 - zCs s t g + row (set ||| 2 ^ t))
  | 0, _ => ⟨Int.le_refl _, by have := (hr set hs).2; show (row set).toInt ≤ _; omega, fun t ht => absurd ht (Nat.not_lt_zero t), Or.inl rfl⟩
  | m + 1, hm => by
    obtain ⟨h1, h2, h3, h4⟩ := bsT_ok hC hg hR hr hs m (by omega)
    obtain ⟨k, hk, ek⟩ := hC m (by omega) g hg
    have ho := hr _ (or_lt hs (show m < zT s by omega))
    have hv := wor_e (r := row (set ||| 2 ^ m)) hk ek ho.1 (by omega)
    have e : bsT s g row set (m + 1) = if (!set.testBit m && zGo s m g) && decide (bsT s g row set m < 10000000 - zCs s m g + row (set ||| 2 ^ m)) then 10000000 - zCs s m g + row (set ||| 2 ^ m) else bsT s g row set m := rfl
    by_cases c : ((!set.testBit m && zGo s m g) && decide (bsT s g row set m < 10000000 - zCs s m g + row (set ||| 2 ^ m))) = true
    · rw [e, if_pos c]
      simp only [Bool.and_eq_true, Bool.not_eq_true', decide_eq_true_iff] at c
      have c3 := Int32.lt_iff_toInt_lt.mp c.2
      refine ⟨by omega, by omega, fun t ht q1 q2 => ?_, Or.inr ⟨m, by omega, c.1.1, c.1.2, rfl⟩⟩
      by_cases e2 : t = m
      · rw [e2]; exact Int.le_refl _
      · have := h3 t (by omega) q1 q2
        omega
    · rw [e, if_neg c]
      refine ⟨h1, h2, fun t ht q1 q2 => ?_, ?_⟩
      · by_cases e2 : t = m
        · subst e2
          have : ¬ (bsT s g row set t).toInt < (10000000 - zCs s t g + row (set ||| 2 ^ t)).toInt := fun z => c (by
            simp only [Bool.and_eq_true, Bool.not_eq_true', decide_eq_true_iff]
            exact ⟨⟨q1, q2⟩, Int32.lt_iff_toInt_lt.mpr z⟩)
          omega
        · exact h3 t (by omega) q1 q2
      · rcases h4 with h4 | ⟨t, q1, q2⟩
        · exact Or.inl h4
        · exact Or.inr ⟨t, by omega, q2⟩
theorem bsG_rng (hW : DW s) (hC : CW s) : ∀ r, r ≤ zG s → ∀ j, j < 2 ^ zT s → 0 ≤ (bsG s (zG s - r) j).toInt ∧ (bsG s (zG s - r) j).toInt ≤ r * 10000000
  | 0, _, j, _ => by
    rw [Nat.sub_zero, bsG_e]
    exact ⟨by decide, by decide⟩
  | r + 1, hr, j, hj => by
    have ih := bsG_rng hW hC r (by omega)
    have hgc := hW.2.1
    have hgl : zG s - (r + 1) < zG s := by omega
    rw [bsG_s s hgl, show zG s - (r + 1) + 1 = zG s - r by omega]
    by_cases c : zOp s (zG s - (r + 1)) = true
    · rw [if_pos c]
      have h := bsT_ok hC hgl (row := bsG s (zG s - r)) (R := r * 10000000) (by omega) ih hj (zT s) (Nat.le_refl _)
      have h0 := (ih j hj).1
      exact ⟨by omega, by omega⟩
    · rw [if_neg c]
      have h0 := ih j hj
      exact ⟨h0.1, by omega⟩
theorem bsG_nn (hW : DW s) (hC : CW s) {g j : Nat} (hg : g ≤ zG s) (hj : j < 2 ^ zT s) : 0 ≤ (bsG s g j).toInt ∧ (bsG s g j).toInt ≤ 100000000 := by
  have h := bsG_rng hW hC (zG s - g) (by omega) j hj
  rw [show zG s - (zG s - g) = g by omega] at h
  have := hW.2.1
  exact ⟨h.1, by omega⟩
theorem bs_T (hW : DW s) (hC : CW s) {g j : Nat} (hg : g < zG s) (hj : j < 2 ^ zT s) :
    (bsG s (g + 1) j).toInt ≤ (bsG s g j).toInt ∧
    (zOp s g = true → ∀ t, t < zT s → j.testBit t = false → zGo s t g = true → (10000000 - zCs s t g + bsG s (g + 1) (j ||| 2 ^ t)).toInt ≤ (bsG s g j).toInt) ∧
    (bsG s g j = bsG s (g + 1) j ∨ (zOp s g = true ∧ ∃ t, t < zT s ∧ j.testBit t = false ∧ zGo s t g = true ∧ bsG s g j = 10000000 - zCs s t g + bsG s (g + 1) (j ||| 2 ^ t))) := by
  have hgc := hW.2.1
  rw [bsG_s s hg]
  by_cases c : zOp s g = true
  · rw [if_pos c]
    have hr : ∀ i, i < 2 ^ zT s → 0 ≤ (bsG s (g + 1) i).toInt ∧ (bsG s (g + 1) i).toInt ≤ 90000000 := fun i hi => by
      have h := bsG_rng hW hC (zG s - (g + 1)) (by omega) i hi
      rw [show zG s - (zG s - (g + 1)) = g + 1 by omega] at h
      exact ⟨h.1, by omega⟩
    obtain ⟨h1, h2, h3, h4⟩ := bsT_ok hC hg (row := bsG s (g + 1)) (R := 90000000) (Int.le_refl _) hr hj (zT s) (Nat.le_refl _)
    refine ⟨h1, fun _ t ht q1 q2 => h3 t ht q1 q2, ?_⟩
    rcases h4 with h4 | h4
    · exact Or.inl h4
    · exact Or.inr ⟨c, h4⟩
  · rw [if_neg c]
    exact ⟨Int.le_refl _, fun z => absurd z c, Or.inl rfl⟩
/-! tails -/
def sI (f : Nat → Int) (g : Nat) : Nat → Int
  | 0 => 0
  | k + 1 => f g + sI f (g + 1) k
def tl (f : Nat → Int) (g : Nat) : Int := sI f g (10 - g)
theorem tl_s (f : Nat → Int) {g : Nat} (hg : g < 10) : tl f g = f g + tl f (g + 1) := by
  unfold tl
  rw [show 10 - g = (10 - (g + 1)) + 1 by omega]
  rfl
theorem tl_10 (f : Nat → Int) : tl f 10 = 0 := rfl
/-- downward from ten -/
theorem down {P : Nat → Prop} (h10 : P 10) (hs : ∀ g, g < 10 → P (g + 1) → P g) : ∀ k, k ≤ 10 → P (10 - k)
  | 0, _ => h10
  | k + 1, hk => hs _ (by omega) (by
      rw [show 10 - (k + 1) + 1 = 10 - k by omega]
      exact down h10 hs k (by omega))
theorem down' {P : Nat → Prop} (h10 : P 10) (hs : ∀ g, g < 10 → P (g + 1) → P g) {g : Nat} (hg : g ≤ 10) : P g := by
  have := down h10 hs (10 - g) (by omega)
  rw [show 10 - (10 - g) = g by omega] at this
  exact this
def fK (s : DS) (b : Nat → Nat) (g : Nat) : Int := if b g = 12 then 0 else (zCs s (b g) g).toInt
def fC (b : Nat → Nat) (g : Nat) : Int := if b g = 12 then 0 else 1
def fO (s : DS) (g : Nat) : Int := if g < zG s ∧ zOp s g = true then 1 else 0
def fR (s : DS) (b : Nat → Nat) (g : Nat) : Int := if g < zG s ∧ zOp s g = true then ((b g * 16 ^ (9 - g) : Nat) : Int) else 0
/-- what a filled gap is -/
theorem VA.fil (hC : CW s) {b : Nat → Nat} (hb : VA (zW s) 10 b) {g : Nat} (hg : g < 10) (h : b g ≠ 12) : g < zG s ∧ zOp s g = true ∧ b g < zT s ∧ zGo s (b g) g = true ∧ ∃ k, k < 209715 ∧ zCs s (b g) g = nI k ∧ vl (zW s) g (b g) = ((k * 1099511627776 + b g * 16 ^ (9 - g) : Nat) : Int) := by
  have h12 := hb.1 g hg
  have hne := hb.2.2.1 g hg h
  rcases zW_t hC hg (show b g < 12 by omega) with h1 | ⟨h1, h2, h3, h4, k, hk, e, e2⟩
  · exact absurd h1 hne
  · refine ⟨h1, h2, h3, h4, k, hk, e, ?_⟩
    have hp := p16 (g := g)
    have h9 : b g * 16 ^ (9 - g) ≤ 12 * 16 ^ (9 - g) := Nat.mul_le_mul_right _ (by omega)
    rw [vl_e hne, e2, pf_lI (by omega)]
theorem vl_12 {g : Nat} (hg : g < 10) : vl (zW s) g 12 = if g < zG s ∧ zOp s g = true then ((2305843009213693952 + 12 * 16 ^ (9 - g) : Nat) : Int) else 0 := by
  have hp := p16 (g := g)
  by_cases c : g < zG s ∧ zOp s g = true
  · rw [if_pos c, vl_e ((zW_12 hg).mpr c)]
    unfold zW
    rw [if_pos c, if_pos rfl, unf_e g hg, pf_lI (by omega)]
  · rw [if_neg c]
    unfold vl
    rw [if_pos]
    by_cases z : zW s g 12 = -1
    · exact z
    · exact absurd ((zW_12 hg).mp z) c
theorem vl_parts (hC : CW s) {b : Nat → Nat} (hb : VA (zW s) 10 b) {g : Nat} (hg : g < 10) : vl (zW s) g (b g) = 2305843009213693952 * fO s g - 2305843009213693952 * fC b g + 1099511627776 * fK s b g + fR s b g := by
  by_cases c : b g = 12
  · rw [c, vl_12 hg]
    unfold fO fC fK fR
    rw [if_pos c, if_pos c, c]
    split <;> omega
  · obtain ⟨h1, h2, h3, h4, k, hk, e, e2⟩ := hb.fil hC hg c
    rw [e2]
    unfold fO fC fK fR
    rw [if_neg c, if_neg c, if_pos ⟨h1, h2⟩, if_pos ⟨h1, h2⟩, e, nI_toInt (by omega)]
    omega
theorem tl_parts (hC : CW s) {b : Nat → Nat} (hb : VA (zW s) 10 b) {g : Nat} (hg : g ≤ 10) : tl (fun i => vl (zW s) i (b i)) g = 2305843009213693952 * tl (fO s) g - 2305843009213693952 * tl (fC b) g + 1099511627776 * tl (fK s b) g + tl (fR s b) g := by
  refine down' (P := fun g => tl (fun i => vl (zW s) i (b i)) g = 2305843009213693952 * tl (fO s) g - 2305843009213693952 * tl (fC b) g + 1099511627776 * tl (fK s b) g + tl (fR s b) g) ?_ ?_ hg
  · rw [tl_10, tl_10, tl_10, tl_10, tl_10]; rfl
  · intro g hg ih
    rw [tl_s _ hg, tl_s _ hg, tl_s _ hg, tl_s _ hg, tl_s _ hg, ih, vl_parts hC hb hg]
    omega
theorem tl_bnd (hC : CW s) {b : Nat → Nat} (hb : VA (zW s) 10 b) {g : Nat} (hg : g ≤ 10) : 0 ≤ tl (fC b) g ∧ 0 ≤ tl (fK s b) g ∧ tl (fK s b) g ≤ (10 - g : Nat) * 209714 ∧ 0 ≤ tl (fR s b) g ∧ tl (fR s b) g < ((16 ^ (10 - g) : Nat) : Int) := by
  refine down' (P := fun g => 0 ≤ tl (fC b) g ∧ 0 ≤ tl (fK s b) g ∧ tl (fK s b) g ≤ (10 - g : Nat) * 209714 ∧ 0 ≤ tl (fR s b) g ∧ tl (fR s b) g < ((16 ^ (10 - g) : Nat) : Int)) ?_ ?_ hg
  · rw [tl_10, tl_10, tl_10]; exact ⟨by decide, by decide, by decide, by decide, by decide⟩
  · intro g hg ⟨i1, i2, i3, i4, i5⟩
    rw [tl_s _ hg, tl_s _ hg, tl_s _ hg]
    have hps := pw_s (n := g) hg
    have h12 := hb.1 g hg
    have h9 : b g * 16 ^ (9 - g) ≤ 12 * 16 ^ (9 - g) := Nat.mul_le_mul_right _ h12
    rw [show 10 - (g + 1) = 9 - g by omega] at i3 i5
    have f1 : 0 ≤ fC b g := by unfold fC; split <;> decide
    have f2 : 0 ≤ fK s b g ∧ fK s b g ≤ 209714 := by
      unfold fK
      by_cases c : b g = 12
      · rw [if_pos c]; exact ⟨by decide, by decide⟩
      · obtain ⟨h1, h2, h3, h4, k, hk, e, e2⟩ := hb.fil hC hg c
        rw [if_neg c, e, nI_toInt (by omega)]
        exact ⟨by omega, by omega⟩
    have f3 : 0 ≤ fR s b g ∧ fR s b g ≤ ((12 * 16 ^ (9 - g) : Nat) : Int) := by
      unfold fR
      split
      · exact ⟨Int.natCast_nonneg _, by omega⟩
      · exact ⟨by decide, Int.natCast_nonneg _⟩
    exact ⟨by omega, by omega, by omega, by omega, by omega⟩
/-- the best of all is no less than any assignment's worth -/
theorem clA (hW : DW s) (hC : CW s) {b : Nat → Nat} (hb : VA (zW s) 10 b) {g : Nat} (hg10 : g ≤ 10) : ∀ j, g ≤ zG s → j < 2 ^ zT s → (∀ i, g ≤ i → i < 10 → b i ≠ 12 → j.testBit (b i) = false) → 10000000 * tl (fC b) g - tl (fK s b) g ≤ (bsG s g j).toInt := by
  refine down' (P := fun g => ∀ j, g ≤ zG s → j < 2 ^ zT s → (∀ i, g ≤ i → i < 10 → b i ≠ 12 → j.testBit (b i) = false) → 10000000 * tl (fC b) g - tl (fK s b) g ≤ (bsG s g j).toInt) ?_ ?_ hg10
  · intro j hg hj _
    rw [tl_10, tl_10]
    have := (bsG_nn hW hC hg hj).1
    omega
  · intro g hg ih j hgG hj hav
    rw [tl_s _ hg, tl_s _ hg]
    by_cases c : b g = 12
    · rw [show fC b g = 0 from if_pos c, show fK s b g = 0 from if_pos c]
      by_cases cG : g < zG s
      · have h1 := ih j (by omega) hj (fun i h1 h2 h3 => hav i (by omega) h2 h3)
        have h2 := (bs_T hW hC cG hj).1
        omega
      · have e0 : ∀ k, k ≤ 10 → zG s ≤ 10 - k → tl (fC b) (10 - k) = 0 ∧ tl (fK s b) (10 - k) = 0 := fun k => by
          induction k with
          | zero => intro _ _; exact ⟨rfl, rfl⟩
          | succ k ihk =>
            intro h1 h2
            have h3 := ihk (by omega) (by omega)
            have hb12 : b (10 - (k + 1)) = 12 := by
              by_cases z : b (10 - (k + 1)) = 12
              · exact z
              · have := (hb.fil hC (by omega) z).1
                omega
            rw [tl_s _ (by omega), tl_s _ (by omega), show 10 - (k + 1) + 1 = 10 - k by omega, h3.1, h3.2, show fC b (10 - (k + 1)) = 0 from if_pos hb12, show fK s b (10 - (k + 1)) = 0 from if_pos hb12]
            exact ⟨rfl, rfl⟩
        have h1 := e0 (10 - (g + 1)) (by omega) (by omega)
        rw [show 10 - (10 - (g + 1)) = g + 1 by omega] at h1
        rw [h1.1, h1.2]
        have := (bsG_nn hW hC hgG hj).1
        omega
    · obtain ⟨h1, h2, h3, h4, k, hk, e, e2⟩ := hb.fil hC hg c
      rw [show fC b g = 1 from if_neg c, show fK s b g = (zCs s (b g) g).toInt from if_neg c, e, nI_toInt (by omega)]
      have hbit := hav g (Nat.le_refl g) hg c
      have ho := or_lt hj h3
      have h5 := ih (j ||| 2 ^ b g) (by omega) ho (fun i q1 q2 q3 => by
        rw [Nat.testBit_or, hav i (by omega) q2 q3, Nat.testBit_two_pow, Bool.false_or]
        apply decide_eq_false
        intro z
        exact q3 ((hb.2.2.2 i g q2 hg (by omega) z.symm)))
      have h6 := (bs_T hW hC h1 hj).2.1 h2 (b g) h3 hbit h4
      have h7 := bsG_nn hW hC (show g + 1 ≤ zG s by omega) ho
      rw [wor_e hk e h7.1 h7.2] at h6
      omega
/-! the greedy -/
def bst (s : DS) (g : Nat) : Nat := if g < zG s then ((wkF s (zG s)).1 g).getD 12 else 12
theorem wkF_at {g : Nat} : ∀ n, g < n → (wkF s n).1 g = wkT s g (wkF s g).2.1
  | 0, h => absurd h (Nat.not_lt_zero g)
  | n + 1, h => by
    have e : ∀ v, (wkS s n (wkF s n)).1 g = va_up (wkF s n).1 n v g → (wkT s n (wkF s n).2.1 = v) → (wkS s n (wkF s n)).1 g = wkT s g (wkF s g).2.1 := fun v h1 h2 => by
      rw [h1]
      by_cases c : g = n
      · subst c; rw [va_up_s, h2]
      · rw [va_up_n _ _ c]; exact wkF_at n (by omega)
    show (wkS s n (wkF s n)).1 g = _
    cases hT : wkT s n (wkF s n).2.1 with
    | none => exact e none (by unfold wkS; rw [hT]) hT
    | some t => exact e (some t) (by unfold wkS; rw [hT]) hT
theorem wkF_gone (g : Nat) : (wkF s (g + 1)).2.1 = match wkT s g (wkF s g).2.1 with | none => (wkF s g).2.1 | some t => (wkF s g).2.1 ||| 2 ^ t := by
  show (wkS s g (wkF s g)).2.1 = _
  unfold wkS
  split <;> rename_i h <;> rw [h]
theorem gone_mono {t : Nat} : ∀ {g h : Nat}, g ≤ h → (wkF s g).2.1.testBit t = true → (wkF s h).2.1.testBit t = true
  | g, 0, hgh, ht => by
    have : g = 0 := by omega
    subst this
    exact ht
  | g, h + 1, hgh, ht => by
    by_cases c : g = h + 1
    · rw [← c]; exact ht
    · have ih := gone_mono (g := g) (h := h) (by omega) ht
      rw [wkF_gone]
      split
      · exact ih
      · rw [Nat.testBit_or, ih, Bool.true_or]
theorem bst_t {g : Nat} (hg : g < zG s) : bst s g = (wkT s g (wkF s g).2.1).getD 12 := by
  unfold bst
  rw [if_pos hg, wkF_at (zG s) hg]
theorem wkT_ok {g gone t : Nat} (h : wkT s g gone = some t) : zOp s g = true ∧ t < zT s ∧ gone.testBit t = false ∧ zGo s t g = true ∧ 10000000 - zCs s t g + bsG s (g + 1) (gone ||| 2 ^ t) = bsG s g gone := by
  unfold wkT at h
  split at h
  · rename_i ho
    obtain ⟨h1, h2⟩ := ff_lt _ _ _ _ h
    unfold wkB at h2
    simp only [Bool.and_eq_true, Bool.not_eq_true', decide_eq_true_iff] at h2
    exact ⟨ho, by omega, h2.1.1, h2.1.2, h2.2⟩
  · cases h
theorem bst_ne (htc : zT s ≤ 12) {g : Nat} (hg : g < zG s) : (wkT s g (wkF s g).2.1 = none ∧ bst s g = 12) ∨ ∃ t, wkT s g (wkF s g).2.1 = some t ∧ bst s g = t ∧ t < 12 := by
  rw [bst_t hg]
  cases h : wkT s g (wkF s g).2.1 with
  | none => exact Or.inl ⟨rfl, rfl⟩
  | some t =>
    have := (wkT_ok h).2.1
    exact Or.inr ⟨t, rfl, rfl, by omega⟩
theorem bst_VA (hW : DW s) (hC : CW s) : VA (zW s) 10 (bst s) := by
  have htc := hW.1
  have hgc := hW.2.1
  have hinj : ∀ g h, g < h → h < 10 → bst s g = bst s h → bst s g = 12 := fun g h hgh hh e => by
    by_cases c : h < zG s
    · rcases bst_ne htc (show g < zG s by omega) with ⟨_, h1⟩ | ⟨t, h1, h2, h3⟩
      · exact h1
      · rcases bst_ne htc c with ⟨_, h4⟩ | ⟨u, h4, h5, h6⟩
        · rw [e]; exact h4
        · exfalso
          have e2 : t = u := by rw [← h2, ← h5]; exact e
          subst e2
          have q1 := (wkT_ok h4).2.2.1
          have q2 : (wkF s (g + 1)).2.1.testBit t = true := by
            rw [wkF_gone, h1]
            show ((wkF s g).2.1 ||| 2 ^ t).testBit t = true
            rw [Nat.testBit_or, Nat.testBit_two_pow, decide_eq_true rfl, Bool.or_true]
          rw [gone_mono (show g + 1 ≤ h by omega) q2] at q1
          cases q1
    · rw [e]; unfold bst; rw [if_neg c]
  refine ⟨fun g hg => ?_, fun g h1 hg => ?_, fun g hg hne => ?_, fun g h hg hh hne e => ?_⟩
  · by_cases c : g < zG s
    · rcases bst_ne htc c with ⟨_, h1⟩ | ⟨t, _, h2, h3⟩ <;> omega
    · unfold bst; rw [if_neg c]; omega
  · omega
  · by_cases c : g < zG s
    · rcases bst_ne htc c with ⟨_, h1⟩ | ⟨t, h1, h2, h3⟩
      · exact absurd h1 hne
      · obtain ⟨q1, q2, q3, q4, q5⟩ := wkT_ok h1
        rw [h2]
        exact zW_go hC c hg q1 q2 h3 q4
    · exact absurd (show bst s g = 12 by unfold bst; rw [if_neg c]) hne
  · by_cases c : g < h
    · exact hinj g h c hh e
    · rw [e]; exact hinj h g (by omega) hg e.symm
theorem wkT_none {g gone : Nat} (h : wkT s g gone = none) (ho : zOp s g = true) {t : Nat} (ht : t < zT s) : wkB s g gone t = false := by
  unfold wkT at h
  rw [if_pos ho] at h
  have h9 : ∀ (p : Nat → Bool) (m g : Nat), ffst p g m = none → ∀ k, g ≤ k → k < g + m → p k = false := by
    intro p m
    induction m with
    | zero => intro g _ k h1 h2; omega
    | succ m ih =>
      intro g h k h1 h2
      unfold ffst at h
      split at h
      · cases h
      · rename_i hp
        by_cases e : k = g
        · rw [e]; exact Bool.eq_false_iff.mpr hp
        · exact ih (g + 1) h k (by omega) (by omega)
  exact h9 _ _ _ h t (by omega) (by omega)
theorem wkT_first {g gone u : Nat} (h : wkT s g gone = some u) {t : Nat} (ht : wkB s g gone t = true) : u ≤ t := by
  unfold wkT at h
  split at h
  · have h9 : ∀ (p : Nat → Bool) (m g u : Nat), ffst p g m = some u → ∀ k, g ≤ k → p k = true → u ≤ k := by
      intro p m
      induction m with
      | zero => intro g u h; cases h
      | succ m ih =>
        intro g u h k h1 h2
        unfold ffst at h
        split at h
        · cases h; exact h1
        · rename_i hp
          by_cases e : k = g
          · rw [e] at h2; exact absurd h2 hp
          · exact ih (g + 1) u h k (by omega) h2
    exact h9 _ _ _ _ h t (by omega) ht
  · cases h
/-- the greedy is worth the best -/
theorem clB (hW : DW s) (hC : CW s) {g : Nat} (hg10 : g ≤ 10) : g ≤ zG s → 10000000 * tl (fC (bst s)) g - tl (fK s (bst s)) g = (bsG s g (wkF s g).2.1).toInt := by
  have htc := hW.1
  have hgc := hW.2.1
  have hz : ∀ k, k ≤ 10 → zG s ≤ 10 - k → tl (fC (bst s)) (10 - k) = 0 ∧ tl (fK s (bst s)) (10 - k) = 0 := fun k => by
    induction k with
    | zero => intro _ _; exact ⟨rfl, rfl⟩
    | succ k ihk =>
      intro h1 h2
      have h3 := ihk (by omega) (by omega)
      have hb12 : bst s (10 - (k + 1)) = 12 := by unfold bst; rw [if_neg (by omega)]
      rw [tl_s _ (by omega), tl_s _ (by omega), show 10 - (k + 1) + 1 = 10 - k by omega, h3.1, h3.2, show fC (bst s) (10 - (k + 1)) = 0 from if_pos hb12, show fK s (bst s) (10 - (k + 1)) = 0 from if_pos hb12]
      exact ⟨rfl, rfl⟩
  refine down' (P := fun g => g ≤ zG s → 10000000 * tl (fC (bst s)) g - tl (fK s (bst s)) g = (bsG s g (wkF s g).2.1).toInt) ?_ ?_ hg10
  · intro h
    have e : zG s = 10 := by omega
    rw [tl_10, tl_10, ← e, bsG_e]
    decide
  · intro g hg ih hgG
    by_cases c : g < zG s
    · have ih := ih (by omega)
      have hgo := wkF_go (s := s) g
      rw [tl_s _ hg, tl_s _ hg]
      rw [wkF_gone] at ih
      rcases bst_ne htc c with ⟨h0, h1⟩ | ⟨t, h1, h2, h3⟩
      · rw [h0] at ih
        rw [show fC (bst s) g = 0 from if_pos h1, show fK s (bst s) g = 0 from if_pos h1]
        have e9 : bsG s g (wkF s g).2.1 = bsG s (g + 1) (wkF s g).2.1 := by
          rcases (bs_T hW hC c hgo).2.2 with q | ⟨q1, t, q2, q3, q4, q5⟩
          · exact q
          · have := wkT_none h0 q1 q2
            unfold wkB at this
            rw [q3, q4, decide_eq_true q5.symm] at this
            cases this
        rw [e9, ← ih]
        omega
      · rw [h1] at ih
        obtain ⟨q1, q2, q3, q4, q5⟩ := wkT_ok h1
        have hne : bst s g ≠ 12 := by omega
        obtain ⟨k, hk, ek⟩ := hC t q2 g c
        have h7 := bsG_nn hW hC (show g + 1 ≤ zG s by omega) (or_lt hgo q2)
        rw [show fC (bst s) g = 1 from if_neg hne, show fK s (bst s) g = (zCs s (bst s g) g).toInt from if_neg hne, h2, ek, nI_toInt (by omega), ← q5, wor_e hk ek h7.1 h7.2, ← ih]
        omega
    · have e : g = zG s := by omega
      have h1 := hz (10 - g) (by omega) (by omega)
      rw [show 10 - (10 - g) = g by omega] at h1
      rw [h1.1, h1.2, e, bsG_e]
      decide
/-- and of those worth the best its row is the least -/
theorem clC (hW : DW s) (hC : CW s) {b : Nat → Nat} (hb : VA (zW s) 10 b) {g : Nat} (hg10 : g ≤ 10) : (∀ i, g ≤ i → i < 10 → b i ≠ 12 → (wkF s g).2.1.testBit (b i) = false) → tl (fun i => vl (zW s) i (bst s i)) g ≤ tl (fun i => vl (zW s) i (b i)) g := by
  have htc := hW.1
  have hgc := hW.2.1
  have hB := bst_VA hW hC
  refine down' (P := fun g => (∀ i, g ≤ i → i < 10 → b i ≠ 12 → (wkF s g).2.1.testBit (b i) = false) → tl (fun i => vl (zW s) i (bst s i)) g ≤ tl (fun i => vl (zW s) i (b i)) g) ?_ ?_ hg10
  · intro _
    rw [tl_10, tl_10]
    exact Int.le_refl 0
  · intro g hg ih hav
    by_cases c : g < zG s
    · have hgo := wkF_go (s := s) g
      have vA := clA hW hC hb (show g ≤ 10 by omega) (wkF s g).2.1 (by omega) hgo hav
      have vB := clB hW hC (show g ≤ 10 by omega) (by omega)
      obtain ⟨b1, b2, b3, b4, b5⟩ := tl_bnd hC hb (show g ≤ 10 by omega)
      obtain ⟨c1, c2, c3, c4, c5⟩ := tl_bnd hC hB (show g ≤ 10 by omega)
      have p1 := tl_parts hC hb (show g ≤ 10 by omega)
      have p2 := tl_parts hC hB (show g ≤ 10 by omega)
      have hp : 16 ^ (10 - g) ≤ 1099511627776 := Nat.pow_le_pow_right (n := 16) (by decide) (show 10 - g ≤ 10 by omega)
      have hk10 : ((10 - g : Nat) : Int) * 209714 ≤ 2097140 := by omega
      by_cases cv : 10000000 * tl (fC b) g - tl (fK s b) g = (bsG s g (wkF s g).2.1).toInt
      · -- worth the same: the digits decide
        have eC : tl (fC b) g = tl (fC (bst s)) g := by omega
        have eK : tl (fK s b) g = tl (fK s (bst s)) g := by omega
        have hle : bst s g ≤ b g := by
          by_cases cb : b g = 12
          · rw [cb]; exact hB.1 g hg
          · obtain ⟨h1, h2, h3, h4, k, hk, e, e2⟩ := hb.fil hC hg cb
            have hbit := hav g (Nat.le_refl g) hg cb
            have ho := or_lt hgo h3
            have h5 := clA hW hC hb (show g + 1 ≤ 10 by omega) ((wkF s g).2.1 ||| 2 ^ b g) (by omega) ho (fun i q1 q2 q3 => by
              rw [Nat.testBit_or, hav i (by omega) q2 q3, Nat.testBit_two_pow, Bool.false_or]
              apply decide_eq_false
              intro z
              exact q3 ((hb.2.2.2 i g q2 hg (by omega) z.symm)))
            have h6 := (bs_T hW hC h1 hgo).2.1 h2 (b g) h3 hbit h4
            have h7 := bsG_nn hW hC (show g + 1 ≤ zG s by omega) ho
            have e7 := wor_e hk e h7.1 h7.2
            rw [e7] at h6
            rw [tl_s _ hg, tl_s _ hg, show fC b g = 1 from if_neg cb, show fK s b g = (zCs s (b g) g).toInt from if_neg cb, e, nI_toInt (by omega)] at cv
            have hwB : wkB s g (wkF s g).2.1 (b g) = true := by
              unfold wkB
              rw [hbit, h4, decide_eq_true (Int32.toInt_inj.mp (by rw [e7]; omega))]
              rfl
            rcases bst_ne htc c with ⟨h0, _⟩ | ⟨t, q1, q2, q3⟩
            · rw [wkT_none h0 h2 h3] at hwB
              cases hwB
            · rw [q2]; exact wkT_first q1 hwB
        by_cases ce : bst s g = b g
        · rw [tl_s _ hg, tl_s (fun i => vl (zW s) i (b i)) hg, ce]
          have h9 := ih (fun i q1 q2 q3 => by
            rw [wkF_gone]
            rcases bst_ne htc c with ⟨h0, _⟩ | ⟨t, r1, r2, r3⟩
            · rw [h0]; exact hav i (by omega) q2 q3
            · rw [r1]
              show ((wkF s g).2.1 ||| 2 ^ t).testBit (b i) = false
              rw [Nat.testBit_or, hav i (by omega) q2 q3, Nat.testBit_two_pow, Bool.false_or]
              apply decide_eq_false
              intro z
              exact q3 (hb.2.2.2 i g q2 hg (by omega) (by rw [← ce, r2, z])))
          omega
        · have hopen : g < zG s ∧ zOp s g = true := by
            by_cases cb : b g = 12
            · have hne : bst s g ≠ 12 := by omega
              have := hB.fil hC hg hne
              exact ⟨c, this.2.1⟩
            · exact ⟨c, (hb.fil hC hg cb).2.1⟩
          obtain ⟨_, _, _, d4, d5⟩ := tl_bnd hC hB (show g + 1 ≤ 10 by omega)
          obtain ⟨_, _, _, f4, _⟩ := tl_bnd hC hb (show g + 1 ≤ 10 by omega)
          rw [show 10 - (g + 1) = 9 - g by omega] at d5
          have r1 : tl (fR s (bst s)) g = ((bst s g * 16 ^ (9 - g) : Nat) : Int) + tl (fR s (bst s)) (g + 1) := by
            rw [tl_s _ hg, show fR s (bst s) g = _ from if_pos hopen]
          have r2 : tl (fR s b) g = ((b g * 16 ^ (9 - g) : Nat) : Int) + tl (fR s b) (g + 1) := by
            rw [tl_s _ hg, show fR s b g = _ from if_pos hopen]
          have r3 : (bst s g + 1) * 16 ^ (9 - g) ≤ b g * 16 ^ (9 - g) := Nat.mul_le_mul_right _ (by omega)
          rw [Nat.add_mul, Nat.one_mul] at r3
          rw [p1, p2, eC, eK]
          omega
      · rw [p1, p2]
        have cv2 : 10000000 * tl (fC b) g - tl (fK s b) g < 10000000 * tl (fC (bst s)) g - tl (fK s (bst s)) g := by omega
        have hc : tl (fC b) g ≤ tl (fC (bst s)) g := by omega
        by_cases e : tl (fC b) g = tl (fC (bst s)) g
        · omega
        · omega
    · rw [tl_s _ hg, tl_s (fun i => vl (zW s) i (b i)) hg]
      have hb12 : b g = 12 := by
        by_cases z : b g = 12
        · exact z
        · exact absurd (hb.fil hC hg z).1 c
      have hB12 : bst s g = 12 := by unfold bst; rw [if_neg c]
      have h9 := ih (fun i q1 q2 q3 => absurd (hb.fil hC q2 q3).1 (by omega))
      rw [hb12, hB12]
      omega
theorem Wt_tl (f : Nat → Int) : sF f 10 = tl f 0 := by
  show 0 + f 0 + f 1 + f 2 + f 3 + f 4 + f 5 + f 6 + f 7 + f 8 + f 9 = f 0 + (f 1 + (f 2 + (f 3 + (f 4 + (f 5 + (f 6 + (f 7 + (f 8 + (f 9 + 0)))))))))
  omega
/-- THE CLASS'S MATCH IS THE MODEL'S -/
theorem Mtd.bst {s : DS} (hW : DW s) (hC : CW s) {A : Nat → Nat} {o : oa_T} (h : Mtd s A o) : ∀ g, g < 10 → A g = bst s g := by
  have hU := Mtd.um hW hC h
  have h2 := (Mto.c hW h.o).2.1
  have hva : ∀ b, VA (zW s) 10 b → VA o.2.1 10 b := fun b hb => ⟨hb.1, hb.2.1, fun g hg hne => by rw [h2 g hg _ (hb.1 g hg)]; exact hb.2.2.1 g hg hne, hb.2.2.2⟩
  have hav : VA (zW s) 10 A := ⟨hU.1.1, hU.1.2.1, fun g hg hne => by rw [← h2 g hg _ (hU.1.1 g hg)]; exact hU.1.2.2.1 g hg hne, hU.1.2.2.2⟩
  have hvl : ∀ b, VA (zW s) 10 b → Wt (vl o.2.1) 10 b = tl (fun i => vl (zW s) i (b i)) 0 := fun b hb => by
    rw [← Wt_tl]
    unfold Wt
    exact sF_cg (fun i hi => by unfold vl; rw [h2 i hi _ (hb.1 i hi)])
  have hB := bst_VA hW hC
  have hle := clC hW hC hav (Nat.zero_le 10) (fun i _ _ _ => by
    show (0 : Nat).testBit (A i) = false
    exact Nat.zero_testBit _)
  intro g hg
  by_cases c : A g = bst s g
  · exact c
  · have := hU.2 (Jvm.Pilot.CMorningDeskLaw_law_r7026_168b03.bst s) (hva _ hB) ⟨g, hg, fun z => c z.symm⟩
    rw [hvl A hav, hvl _ hB] at this
    omega
end GR
