/-! what the greedy is worth -/
section GR
variable {s : DS}
theorem ar_k0 {X : Int} (h : 0 ≤ X) : 10000000 * (0 : Int) - 0 ≤ X := by omega
theorem ar_k1 {C K X Y : Int} (h : 10000000 * C - K ≤ X) (h2 : X ≤ Y) : 10000000 * (0 + C) - (0 + K) ≤ Y := by omega
theorem ar_k2 {X : Int} (h : 0 ≤ X) : 10000000 * ((0 : Int) + 0) - (0 + 0) ≤ X := by omega
theorem ar_k3 {C K X Y k : Int} (h : 10000000 * C - K ≤ X) (h2 : 10000000 - k + X ≤ Y) : 10000000 * (1 + C) - (k + K) ≤ Y := by omega
/-- beyond the gaps nothing is worth anything -/
theorem tl_z (hgc : zG s ≤ 10) {b : Nat → Nat} (hb : ∀ i, zG s ≤ i → i < 10 → b i = 12) : ∀ k, k ≤ 10 → zG s ≤ 10 - k → tl (fC b) (10 - k) = 0 ∧ tl (fK s b) (10 - k) = 0
  | 0, _, _ => ⟨rfl, rfl⟩
  | k + 1, h1, h2 => by
    have e1 : 10 - (k + 1) < 10 := by omega
    have e2 : 10 - (k + 1) + 1 = 10 - k := by omega
    have h3 := tl_z hgc hb k (by omega) (by omega)
    have hb12 := hb (10 - (k + 1)) h2 e1
    rw [tl_s _ e1, tl_s _ e1, e2, h3.1, h3.2, show fC b (10 - (k + 1)) = 0 from if_pos hb12, show fK s b (10 - (k + 1)) = 0 from if_pos hb12]
    exact ⟨rfl, rfl⟩
theorem tl_z0 (hgc : zG s ≤ 10) {b : Nat → Nat} (hb : ∀ i, zG s ≤ i → i < 10 → b i = 12) {g : Nat} (hg : g ≤ 10) (h : zG s ≤ g) : tl (fC b) g = 0 ∧ tl (fK s b) g = 0 := by
  have e1 : 10 - (10 - g) = g := by omega
  have := tl_z hgc hb (10 - g) (by omega) (by omega)
  rw [e1] at this
  exact this
theorem VA.hi (hC : CW s) {b : Nat → Nat} (hb : VA (zW s) 10 b) : ∀ i, zG s ≤ i → i < 10 → b i = 12 := fun i h1 h2 => by
  by_cases z : b i = 12
  · exact z
  · exact absurd (hb.fil hC h2 z).1 (Nat.not_lt.mpr h1)
/-- the best of all is no less than any assignment's worth -/
theorem clA (hW : DW s) (hC : CW s) {b : Nat → Nat} (hb : VA (zW s) 10 b) {g : Nat} (hg10 : g ≤ 10) : ∀ j, g ≤ zG s → j < 2 ^ zT s → (∀ i, g ≤ i → i < 10 → b i ≠ 12 → j.testBit (b i) = false) → 10000000 * tl (fC b) g - tl (fK s b) g ≤ (bsG s g j).toInt := by
  refine down' (P := fun g => ∀ j, g ≤ zG s → j < 2 ^ zT s → (∀ i, g ≤ i → i < 10 → b i ≠ 12 → j.testBit (b i) = false) → 10000000 * tl (fC b) g - tl (fK s b) g ≤ (bsG s g j).toInt) ?_ ?_ hg10
  · intro j hg hj _
    rw [tl_10, tl_10]
    exact ar_k0 (bsG_nn hW hC hg hj).1
  · intro g hg ih j hgG hj hav
    by_cases c : b g = 12
    · by_cases cG : g < zG s
      · rw [tl_s _ hg, tl_s _ hg, show fC b g = 0 from if_pos c, show fK s b g = 0 from if_pos c]
        exact ar_k1 (ih j cG hj (fun i h1 h2 h3 => hav i (Nat.le_of_succ_le h1) h2 h3)) (bs_T hW hC cG hj).1
      · obtain ⟨z1, z2⟩ := tl_z0 hW.2.1 (hb.hi hC) (Nat.le_of_lt hg) (Nat.not_lt.mp cG)
        rw [z1, z2]
        exact ar_k0 (bsG_nn hW hC hgG hj).1
    · obtain ⟨h1, h2, h3, h4, k, hk, e, e2⟩ := hb.fil hC hg c
      have hk31 : k < 2 ^ 31 := Nat.lt_trans hk (by decide)
      rw [tl_s _ hg, tl_s _ hg, show fC b g = 1 from if_neg c, show fK s b g = (zCs s (b g) g).toInt from if_neg c, e, nI_toInt hk31]
      have hbit := hav g (Nat.le_refl g) hg c
      have ho := or_lt hj h3
      have h5 := ih (j ||| 2 ^ b g) h1 ho (fun i q1 q2 q3 => by
        rw [Nat.testBit_or, hav i (Nat.le_of_succ_le q1) q2 q3, Nat.testBit_two_pow, Bool.false_or]
        apply decide_eq_false
        intro z
        exact q3 ((hb.2.2.2 i g q2 hg (Nat.ne_of_gt q1) z.symm)))
      have h6 := (bs_T hW hC h1 hj).2.1 h2 (b g) h3 hbit h4
      have h7 := bsG_nn hW hC h1 ho
      rw [wor_e hk e h7.1 h7.2] at h6
      exact ar_k3 h5 h6
/-! the greedy -/
def bst (s : DS) (g : Nat) : Nat := if g < zG s then ((wkF s (zG s)).1 g).getD 12 else 12
theorem wkF_at {g : Nat} : ∀ n, g < n → (wkF s n).1 g = wkT s g (wkF s g).2.1
  | 0, h => absurd h (Nat.not_lt_zero g)
  | n + 1, h => by
    have e : ∀ v, (wkS s n (wkF s n)).1 g = va_up (wkF s n).1 n v g → (wkT s n (wkF s n).2.1 = v) → (wkS s n (wkF s n)).1 g = wkT s g (wkF s g).2.1 := fun v h1 h2 => by
      rw [h1]
      by_cases c : g = n
      · subst c; rw [va_up_s, h2]
      · rw [va_up_n _ _ c]; exact wkF_at n (by omega)
    show (wkS s n (wkF s n)).1 g = _
    cases hT : wkT s n (wkF s n).2.1 with
    | none => exact e none (by unfold wkS; rw [hT]) hT
    | some t => exact e (some t) (by unfold wkS; rw [hT]) hT
theorem wkF_gone (g : Nat) : (wkF s (g + 1)).2.1 = match wkT s g (wkF s g).2.1 with | none => (wkF s g).2.1 | some t => (wkF s g).2.1 ||| 2 ^ t := by
  show (wkS s g (wkF s g)).2.1 = _
  unfold wkS
  split <;> rename_i h <;> rw [h]
theorem gone_mono {t : Nat} : ∀ {g h : Nat}, g ≤ h → (wkF s g).2.1.testBit t = true → (wkF s h).2.1.testBit t = true
  | g, 0, hgh, ht => by
    have : g = 0 := by omega
    subst this
    exact ht
  | g, h + 1, hgh, ht => by
    by_cases c : g = h + 1
    · rw [← c]; exact ht
    · have ih := gone_mono (g := g) (h := h) (by omega) ht
      rw [wkF_gone]
      split
      · exact ih
      · rw [Nat.testBit_or, ih, Bool.true_or]
theorem bst_t {g : Nat} (hg : g < zG s) : bst s g = (wkT s g (wkF s g).2.1).getD 12 := by
  unfold bst
  rw [if_pos hg, wkF_at (zG s) hg]
theorem wkT_ok {g gone t : Nat} (h : wkT s g gone = some t) : zOp s g = true ∧ t < zT s ∧ gone.testBit t = false ∧ zGo s t g = true ∧ 10000000 - zCs s t g + bsG s (g + 1) (gone ||| 2 ^ t) = bsG s g gone := by
  unfold wkT at h
  split at h
  · rename_i ho
    obtain ⟨h1, h2⟩ := ff_lt _ _ _ _ h
    unfold wkB at h2
    simp only [Bool.and_eq_true, Bool.not_eq_true', decide_eq_true_iff] at h2
    exact ⟨ho, by omega, h2.1.1, h2.1.2, h2.2⟩
  · cases h
theorem bst_ne (htc : zT s ≤ 12) {g : Nat} (hg : g < zG s) : (wkT s g (wkF s g).2.1 = none ∧ bst s g = 12) ∨ ∃ t, wkT s g (wkF s g).2.1 = some t ∧ bst s g = t ∧ t < 12 := by
  rw [bst_t hg]
  cases h : wkT s g (wkF s g).2.1 with
  | none => exact Or.inl ⟨rfl, rfl⟩
  | some t =>
    have := (wkT_ok h).2.1
    exact Or.inr ⟨t, rfl, rfl, by omega⟩
theorem bst_VA (hW : DW s) (hC : CW s) : VA (zW s) 10 (bst s) := by
  have htc := hW.1
  have hgc := hW.2.1
  have hinj : ∀ g h, g < h → h < 10 → bst s g = bst s h → bst s g = 12 := fun g h hgh hh e => by
    by_cases c : h < zG s
    · rcases bst_ne htc (show g < zG s by omega) with ⟨_, h1⟩ | ⟨t, h1, h2, h3⟩
      · exact h1
      · rcases bst_ne htc c with ⟨_, h4⟩ | ⟨u, h4, h5, h6⟩
        · rw [e]; exact h4
        · exfalso
          have e2 : t = u := by rw [← h2, ← h5]; exact e
          subst e2
          have q1 := (wkT_ok h4).2.2.1
          have q2 : (wkF s (g + 1)).2.1.testBit t = true := by
            rw [wkF_gone, h1]
            show ((wkF s g).2.1 ||| 2 ^ t).testBit t = true
            rw [Nat.testBit_or, Nat.testBit_two_pow, decide_eq_true rfl, Bool.or_true]
          rw [gone_mono (show g + 1 ≤ h by omega) q2] at q1
          cases q1
    · rw [e]; unfold bst; rw [if_neg c]
  refine ⟨fun g hg => ?_, fun g h1 hg => ?_, fun g hg hne => ?_, fun g h hg hh hne e => ?_⟩
  · by_cases c : g < zG s
    · rcases bst_ne htc c with ⟨_, h1⟩ | ⟨t, _, h2, h3⟩ <;> omega
    · unfold bst; rw [if_neg c]; omega
  · omega
  · by_cases c : g < zG s
    · rcases bst_ne htc c with ⟨_, h1⟩ | ⟨t, h1, h2, h3⟩
      · exact absurd h1 hne
      · obtain ⟨q1, q2, q3, q4, q5⟩ := wkT_ok h1
        rw [h2]
        exact zW_go hC c hg q1 q2 h3 q4
    · exact absurd (show bst s g = 12 by unfold bst; rw [if_neg c]) hne
  · by_cases c : g < h
    · exact hinj g h c hh e
    · rw [e]; exact hinj h g (by omega) hg e.symm
theorem wkT_none {g gone : Nat} (h : wkT s g gone = none) (ho : zOp s g = true) {t : Nat} (ht : t < zT s) : wkB s g gone t = false := by
  unfold wkT at h
  rw [if_pos ho] at h
  have h9 : ∀ (p : Nat → Bool) (m g : Nat), ffst p g m = none → ∀ k, g ≤ k → k < g + m → p k = false := by
    intro p m
    induction m with
    | zero => intro g _ k h1 h2; omega
    | succ m ih =>
      intro g h k h1 h2
      unfold ffst at h
      split at h
      · cases h
      · rename_i hp
        by_cases e : k = g
        · rw [e]; exact Bool.eq_false_iff.mpr hp
        · exact ih (g + 1) h k (by omega) (by omega)
  exact h9 _ _ _ h t (by omega) (by omega)
theorem wkT_first {g gone u : Nat} (h : wkT s g gone = some u) {t : Nat} (ht : wkB s g gone t = true) : u ≤ t := by
  unfold wkT at h
  split at h
  · have h9 : ∀ (p : Nat → Bool) (m g u : Nat), ffst p g m = some u → ∀ k, g ≤ k → p k = true → u ≤ k := by
      intro p m
      induction m with
      | zero => intro g u h; cases h
      | succ m ih =>
        intro g u h k h1 h2
        unfold ffst at h
        split at h
        · cases h; exact h1
        · rename_i hp
          by_cases e : k = g
          · rw [e] at h2; exact absurd h2 hp
          · exact ih (g + 1) u h k (by omega) h2
    exact h9 _ _ _ _ h t (by omega) ht
  · cases h
theorem ar_m0 : 10000000 * (0 : Int) - 0 = (0 : Int32).toInt := by decide
theorem ar_m1 {C K X : Int} (h : 10000000 * C - K = X) : 10000000 * (0 + C) - (0 + K) = X := by omega
theorem ar_m2 {C K X k : Int} (h : 10000000 * C - K = X) : 10000000 * (1 + C) - (k + K) = 10000000 - k + X := by omega
/-- the greedy is worth the best -/
theorem clB (hW : DW s) (hC : CW s) {g : Nat} (hg10 : g ≤ 10) : g ≤ zG s → 10000000 * tl (fC (bst s)) g - tl (fK s (bst s)) g = (bsG s g (wkF s g).2.1).toInt := by
  have htc := hW.1
  have hgc := hW.2.1
  have hhi : ∀ i, zG s ≤ i → i < 10 → bst s i = 12 := fun i h1 _ => by unfold bst; rw [if_neg (Nat.not_lt.mpr h1)]
  refine down' (P := fun g => g ≤ zG s → 10000000 * tl (fC (bst s)) g - tl (fK s (bst s)) g = (bsG s g (wkF s g).2.1).toInt) ?_ ?_ hg10
  · intro h
    have e : zG s = 10 := Nat.le_antisymm hgc h
    rw [tl_10, tl_10, ← e, bsG_e]
    exact ar_m0
  · intro g hg ih hgG
    by_cases c : g < zG s
    · have ih := ih c
      have hgo := wkF_go (s := s) g
      rw [tl_s _ hg, tl_s _ hg]
      rw [wkF_gone] at ih
      rcases bst_ne htc c with ⟨h0, h1⟩ | ⟨t, h1, h2, h3⟩
      · rw [h0] at ih
        rw [show fC (bst s) g = 0 from if_pos h1, show fK s (bst s) g = 0 from if_pos h1]
        have e9 : bsG s g (wkF s g).2.1 = bsG s (g + 1) (wkF s g).2.1 := by
          rcases (bs_T hW hC c hgo).2.2 with q | ⟨q1, t, q2, q3, q4, q5⟩
          · exact q
          · have := wkT_none h0 q1 q2
            unfold wkB at this
            rw [q3, q4, decide_eq_true q5.symm] at this
            cases this
        rw [e9]
        exact ar_m1 ih
      · rw [h1] at ih
        obtain ⟨q1, q2, q3, q4, q5⟩ := wkT_ok h1
        have hne : bst s g ≠ 12 := by rw [h2]; exact Nat.ne_of_lt h3
        obtain ⟨k, hk, ek⟩ := hC t q2 g c
        have hk31 : k < 2 ^ 31 := Nat.lt_trans hk (by decide)
        have h7 := bsG_nn hW hC (show g + 1 ≤ zG s from c) (or_lt hgo q2)
        rw [show fC (bst s) g = 1 from if_neg hne, show fK s (bst s) g = (zCs s (bst s g) g).toInt from if_neg hne, h2, ← q5, wor_e hk ek h7.1 h7.2, ek, nI_toInt hk31]
        exact ar_m2 ih
    · have e : g = zG s := Nat.le_antisymm hgG (Nat.not_lt.mp c)
      obtain ⟨z1, z2⟩ := tl_z0 hgc hhi (Nat.le_of_lt hg) (Nat.not_lt.mp c)
      rw [z1, z2, e, bsG_e]
      exact ar_m0
end GR
