/-! THE MATCH, as numbers: the class's match is the one of least weight -/
section LS
variable {n : Nat} {w : Nat → Nat → Int64} {a : Nat → Nat}
/-- digits tell assignments apart -/
def dgs (w : Nat → Nat → Int64) (a : Nat → Nat) : Nat → Nat
  | 0 => 0
  | n + 1 => dgs w a n + (if w n 12 = -1 then 0 else a n * 16 ^ (9 - n))
theorem WL.part (hL : WL w) {g t : Nat} (hg : g < 10) (ht : t ≤ 12) (h : w g t ≠ -1) : ∃ X : Int, vl w g t = 1099511627776 * X + ((t * 16 ^ (9 - g) : Nat) : Int) := by
  rw [vl_e h]
  obtain ⟨C, hC⟩ := hL
  rcases hC g hg with h1 | ⟨h2, h3⟩
  · exact absurd (h1 t ht) h
  · by_cases c : t = 12
    · subst c
      exact ⟨2097152, by rw [h2]; omega⟩
    · rcases h3 t (by omega) with h4 | h4
      · exact absurd h4 h
      · exact ⟨C g t, by rw [h4.2]; omega⟩
theorem WL.cl (hL : WL w) {g : Nat} (hg : g < 10) (h : w g 12 = -1) {t : Nat} (ht : t ≤ 12) : w g t = -1 := by
  by_cases c : w g t = -1
  · exact c
  · exact absurd h (hL.op hg ht c)
theorem VA.v12 {n : Nat} (hL : WL w) (hA : VA w n a) {g : Nat} (hg : g < 10) (h : w g 12 = -1) : a g = 12 := by
  by_cases c : a g = 12
  · exact c
  · exact absurd (hL.cl hg h (hA.1 g hg)) (hA.2.2.1 g hg c)
theorem VA.nm (hA : VA w n a) {g : Nat} (hg : g < 10) (h : w g 12 ≠ -1) : w g (a g) ≠ -1 := by
  by_cases c : a g = 12
  · rw [c]; exact h
  · exact hA.2.2.1 g hg c
theorem Wt_dgs (hL : WL w) {N : Nat} (hA : VA w N a) : ∀ n, n ≤ 10 → ∃ X : Int, Wt (vl w) n a = 1099511627776 * X + (dgs w a n : Int)
  | 0, _ => ⟨0, rfl⟩
  | n + 1, hn => by
    obtain ⟨X, hX⟩ := Wt_dgs hL hA n (by omega)
    show ∃ X : Int, Wt (vl w) n a + vl w n (a n) = 1099511627776 * X + ((dgs w a n + (if w n 12 = -1 then 0 else a n * 16 ^ (9 - n)) : Nat) : Int)
    rw [hX]
    by_cases c : w n 12 = -1
    · rw [if_pos c, hA.v12 hL (by omega) c, show vl w n 12 = 0 from if_pos c]
      exact ⟨X, by omega⟩
    · rw [if_neg c]
      obtain ⟨Y, hY⟩ := hL.part (by omega) (hA.1 n (by omega)) (hA.nm (by omega) c)
      rw [hY]
      exact ⟨X + Y, by omega⟩
theorem pw_s {n : Nat} (hn : n < 10) : 16 ^ (10 - n) = 16 * 16 ^ (9 - n) := by
  rw [show 10 - n = (9 - n) + 1 by omega, Nat.pow_succ, Nat.mul_comm]
theorem dgs_b {N : Nat} (hA : VA w N a) : ∀ n, n ≤ 10 → dgs w a n + 16 ^ (10 - n) ≤ 16 ^ 10 ∧ ∃ q, dgs w a n = 16 ^ (10 - n) * q
  | 0, _ => ⟨by show 0 + _ ≤ _; omega, 0, rfl⟩
  | n + 1, hn => by
    obtain ⟨h1, q, h2⟩ := dgs_b hA n (by omega)
    have h3 := pw_s (n := n) (by omega)
    have h4 := hA.1 n (by omega)
    have h5 : a n * 16 ^ (9 - n) ≤ 12 * 16 ^ (9 - n) := Nat.mul_le_mul_right _ h4
    rw [show 10 - (n + 1) = 9 - n by omega]
    show dgs w a n + (if w n 12 = -1 then 0 else a n * 16 ^ (9 - n)) + 16 ^ (9 - n) ≤ 16 ^ 10 ∧ ∃ q, dgs w a n + (if w n 12 = -1 then 0 else a n * 16 ^ (9 - n)) = 16 ^ (9 - n) * q
    split
    · refine ⟨by omega, 16 * q, ?_⟩
      rw [h2, h3, ← Nat.mul_assoc, Nat.mul_comm 16, Nat.add_zero]
    · refine ⟨by omega, 16 * q + a n, ?_⟩
      rw [h2, h3, Nat.mul_add, ← Nat.mul_assoc, Nat.mul_comm 16, Nat.mul_comm (a n)]
theorem dgs_e {N : Nat} {b : Nat → Nat} (hA : VA w N a) (hB : VA w N b) : ∀ n, n ≤ 10 → dgs w a n = dgs w b n → ∀ g, g < n → w g 12 ≠ -1 → a g = b g
  | 0, _, _, g, hg, _ => absurd hg (Nat.not_lt_zero g)
  | n + 1, hn, e, g, hg, ho => by
    obtain ⟨_, q1, h1⟩ := dgs_b hA n (by omega)
    obtain ⟨_, q2, h2⟩ := dgs_b hB n (by omega)
    have h3 := pw_s (n := n) (by omega)
    have e : dgs w a n + (if w n 12 = -1 then 0 else a n * 16 ^ (9 - n)) = dgs w b n + (if w n 12 = -1 then 0 else b n * 16 ^ (9 - n)) := e
    have hp : 0 < 16 ^ (9 - n) := Nat.pow_pos (by decide)
    by_cases c : w n 12 = -1
    · rw [if_pos c, if_pos c] at e
      have hgn : g ≠ n := fun z => ho (by rw [z]; exact c)
      exact dgs_e hA hB n (by omega) (by omega) g (by omega) ho
    · rw [if_neg c, if_neg c, h1, h2, h3] at e
      have e2 : 16 ^ (9 - n) * (16 * q1 + a n) = 16 ^ (9 - n) * (16 * q2 + b n) := by
        rw [Nat.mul_add, Nat.mul_add, ← Nat.mul_assoc, ← Nat.mul_assoc, Nat.mul_comm (16 ^ (9 - n)) 16, Nat.mul_comm (16 ^ (9 - n)) (a n), Nat.mul_comm (16 ^ (9 - n)) (b n)]
        exact e
      have e3 := Nat.eq_of_mul_eq_mul_left hp e2
      have h4 := hA.1 n (by omega)
      have h5 := hB.1 n (by omega)
      have e4 : a n = b n := by omega
      have e5 : q1 = q2 := by omega
      by_cases c2 : g = n
      · rw [c2]; exact e4
      · exact dgs_e hA hB n (by omega) (by rw [h1, h2, e5]) g (by omega) ho
theorem Wt_inj (hL : WL w) {b : Nat → Nat} (hn : n ≤ 10) (hA : VA w n a) (hB : VA w n b) (e : Wt (vl w) n a = Wt (vl w) n b) : ∀ g, g < 10 → a g = b g := by
  obtain ⟨X, hX⟩ := Wt_dgs hL hA n hn
  obtain ⟨Y, hY⟩ := Wt_dgs hL hB n hn
  have h1 := (dgs_b hA n hn).1
  have h2 := (dgs_b hB n hn).1
  have hp : 0 < 16 ^ (10 - n) := Nat.pow_pos (by decide)
  have h16 : 16 ^ 10 = 1099511627776 := by decide
  have e2 : dgs w a n = dgs w b n := by omega
  intro g hg
  by_cases c : n ≤ g
  · rw [hA.2.1 g c hg, hB.2.1 g c hg]
  · by_cases c2 : w g 12 = -1
    · rw [hA.v12 hL hg c2, hB.v12 hL hg c2]
    · exact dgs_e hA hB n hn e2 g (by omega) c2
theorem UM.le (hU : UM w n a) (hn : n ≤ 10) {c : Nat → Nat} (hc : VA w n c) : Wt (vl w) n a ≤ Wt (vl w) n c := by
  by_cases e : ∃ g, g < 10 ∧ c g ≠ a g
  · exact Int.le_of_lt (hU.2 c hc e)
  · refine Int.le_of_eq ?_
    unfold Wt
    refine sF_cg (fun i hi => ?_)
    by_cases e2 : c i = a i
    · rw [e2]
    · exact absurd ⟨i, by omega, e2⟩ e
theorem UM.mk (hL : WL w) (hn : n ≤ 10) (hA : VA w n a) (h : ∀ b, VA w n b → Wt (vl w) n a ≤ Wt (vl w) n b) : UM w n a := ⟨hA, fun b hb hne => by
  obtain ⟨g, hg, hne⟩ := hne
  rcases Int.lt_or_eq_of_le (h b hb) with h1 | h1
  · exact h1
  · exact absurd (Wt_inj hL hn hA hb h1 g hg).symm hne⟩
def TK (tk : Int32) (a : Nat → Nat) : Prop := ∀ t, t < 12 → (hb_ tk (nI t) = true ↔ ∃ h, h < 10 ∧ a h = t)
theorem ce_ok {tk : Int32} {g : Nat} (hop : w g 12 ≠ -1) : ∀ m, m ≤ 12 → (ceF w tk g m = 12 ∨ (ceF w tk g m < 12 ∧ w g (ceF w tk g m) ≠ -1 ∧ hb_ tk (nI (ceF w tk g m)) = false)) ∧ (w g (ceF w tk g m)).toInt ≤ (w g 12).toInt ∧ ∀ t, t < m → w g t ≠ -1 → hb_ tk (nI t) = false → (w g (ceF w tk g m)).toInt ≤ (w g t).toInt
  | 0, _ => ⟨Or.inl rfl, Int.le_refl _, fun t ht => absurd ht (Nat.not_lt_zero t)⟩
  | m + 1, hm => by
    obtain ⟨h1, h2, h3⟩ := ce_ok (tk := tk) hop m (by omega)
    have e : ceF w tk g (m + 1) = if w g m ≠ -1 ∧ hb_ tk (nI m) = false ∧ w g m < w g (ceF w tk g m) then m else ceF w tk g m := rfl
    rw [e]
    by_cases c : w g m ≠ -1 ∧ hb_ tk (nI m) = false ∧ w g m < w g (ceF w tk g m)
    · rw [if_pos c]
      have c3 := Int64.lt_iff_toInt_lt.mp c.2.2
      refine ⟨Or.inr ⟨by omega, c.1, c.2.1⟩, by omega, fun t ht q1 q2 => ?_⟩
      by_cases e2 : t = m
      · rw [e2]; exact Int.le_refl _
      · have := h3 t (by omega) q1 q2
        omega
    · rw [if_neg c]
      refine ⟨h1, h2, fun t ht q1 q2 => ?_⟩
      by_cases e2 : t = m
      · subst e2
        have : ¬ (w g t).toInt < (w g (ceF w tk g t)).toInt := fun z => c ⟨q1, q2, Int64.lt_iff_toInt_lt.mpr z⟩
        omega
      · exact h3 t (by omega) q1 q2
theorem JJ.opn (hL : WL w) (hU : UM w n a) (hn : n ≤ 9) (hop : w n 12 ≠ -1) {D : Nat → Int64} {par : Nat → Option Nat} (hJ : JJ w a n D par) {g : Nat} (hg : g ≤ n) (hr : D g ≠ mFAR) : w g 12 ≠ -1 := by
  by_cases e : g = n
  · rw [e]; exact hop
  · obtain ⟨_, _, _, _, _, q, _⟩ := hJ.2.1 g (by omega) hr
    exact hL.op (by omega) (hU.1.1 g (by omega)) (hU.1.2.2.1 g (by omega) q)
theorem ce_rng (hL : WL w) {tk : Int32} {g : Nat} (hg : g < 10) (hop : w g 12 ≠ -1) : w g (ceF w tk g 12) ≠ -1 ∧ ceF w tk g 12 ≤ 12 ∧ 0 ≤ (w g (ceF w tk g 12)).toInt ∧ (w g (ceF w tk g 12)).toInt < 2307000000000000000 := by
  obtain ⟨h1, h2, _⟩ := ce_ok (tk := tk) hop 12 (Nat.le_refl _)
  have hl := hL.l12 hg
  rw [vl_e hop] at hl
  have hne : w g (ceF w tk g 12) ≠ -1 := by
    rcases h1 with h1 | h1
    · rw [h1]; exact hop
    · exact h1.2.1
  have hle : ceF w tk g 12 ≤ 12 := by
    rcases h1 with h1 | h1 <;> omega
  have hnn := hL.nn hg hle
  rw [vl_e hne] at hnn
  exact ⟨hne, hle, hnn, by omega⟩
theorem bi_ok (hn : n ≤ 9) (hL : WL w) (hU : UM w n a) (hop : w n 12 ≠ -1) {tk : Int32} {D : Nat → Int64} {par : Nat → Option Nat} (hJ : JJ w a n D par) : ∀ m, m ≤ n + 1 →
    (biF w tk D m (n, 12, mFAR) = (n, 12, mFAR) ∧ ∀ g, g < m → D g = mFAR) ∨
    ((biF w tk D m (n, 12, mFAR)).1 ≤ n ∧ D (biF w tk D m (n, 12, mFAR)).1 ≠ mFAR ∧ (biF w tk D m (n, 12, mFAR)).2.1 = ceF w tk (biF w tk D m (n, 12, mFAR)).1 12 ∧ (biF w tk D m (n, 12, mFAR)).2.2.toInt = (D (biF w tk D m (n, 12, mFAR)).1).toInt + (w (biF w tk D m (n, 12, mFAR)).1 (biF w tk D m (n, 12, mFAR)).2.1).toInt ∧ ∀ g, g < m → D g ≠ mFAR → (biF w tk D m (n, 12, mFAR)).2.2.toInt ≤ (D g).toInt + (w g (ceF w tk g 12)).toInt)
  | 0, _ => Or.inl ⟨rfl, fun g hg => absurd hg (Nat.not_lt_zero g)⟩
  | m + 1, hm => by
    have ih := bi_ok hn hL hU hop (tk := tk) hJ m (by omega)
    have e : biF w tk D (m + 1) (n, 12, mFAR) = if D m = mFAR then biF w tk D m (n, 12, mFAR) else if D m + w m (ceF w tk m 12) < (biF w tk D m (n, 12, mFAR)).2.2 then (m, ceF w tk m 12, D m + w m (ceF w tk m 12)) else biF w tk D m (n, 12, mFAR) := rfl
    rw [e]
    by_cases c1 : D m = mFAR
    · rw [if_pos c1]
      rcases ih with ⟨i1, i2⟩ | ⟨i1, i2, i3, i4, i5⟩
      · refine Or.inl ⟨i1, fun g hg => ?_⟩
        by_cases e2 : g = m
        · rw [e2]; exact c1
        · exact i2 g (by omega)
      · refine Or.inr ⟨i1, i2, i3, i4, fun g hg hr => ?_⟩
        by_cases e2 : g = m
        · rw [e2] at hr; exact absurd c1 hr
        · exact i5 g (by omega) hr
    · rw [if_neg c1]
      have b1 := hJ.lb hn hL hU (show m ≤ n by omega) c1
      have b2 := hJ.ub hn (show m ≤ n by omega) c1
      obtain ⟨b3, _, b4, b5⟩ := ce_rng hL (tk := tk) (show m < 10 by omega) (hJ.opn hL hU hn hop (show m ≤ n by omega) c1)
      have eX : (D m + w m (ceF w tk m 12)).toInt = (D m).toInt + (w m (ceF w tk m 12)).toInt := i64_add (by omega) (by omega)
      by_cases c2 : D m + w m (ceF w tk m 12) < (biF w tk D m (n, 12, mFAR)).2.2
      · rw [if_pos c2]
        have c3 := Int64.lt_iff_toInt_lt.mp c2
        refine Or.inr ⟨by show m ≤ n; omega, c1, rfl, eX, fun g hg hr => ?_⟩
        show (D m + w m (ceF w tk m 12)).toInt ≤ _
        by_cases e2 : g = m
        · rw [e2, eX]; exact Int.le_refl _
        · rcases ih with ⟨i1, i2⟩ | ⟨i1, i2, i3, i4, i5⟩
          · exact absurd (i2 g (by omega)) hr
          · have := i5 g (by omega) hr
            omega
      · rw [if_neg c2]
        have c3 : ¬ (D m + w m (ceF w tk m 12)).toInt < (biF w tk D m (n, 12, mFAR)).2.2.toInt := fun z => c2 (Int64.lt_iff_toInt_lt.mpr z)
        rw [eX] at c3
        rcases ih with ⟨i1, i2⟩ | ⟨i1, i2, i3, i4, i5⟩
        · rw [i1] at c3
          have := far_I
          have c3 : ¬ (D m).toInt + (w m (ceF w tk m 12)).toInt < mFAR.toInt := c3
          omega
        · refine Or.inr ⟨i1, i2, i3, i4, fun g hg hr => ?_⟩
          by_cases e2 : g = m
          · rw [e2]; omega
          · exact i5 g (by omega) hr
/-- no assignment with the new gap weighs less than what the cheapest chain adds -/
theorem exch (hn : n ≤ 9) (hL : WL w) (hU : UM w n a) {D : Nat → Int64} (hD : ∀ k, k ≤ 10 → ∀ h d, Wk w a n k h d → D h ≠ mFAR ∧ (D h).toInt ≤ d) {tk : Int32} (hT : TK tk a) {L : Int} (hl : ∀ g, g ≤ n → D g ≠ mFAR → L ≤ (D g).toInt + (w g (ceF w tk g 12)).toInt) :
    ∀ (m k : Nat) (c : Nat → Nat) (g t : Nat) (d : Int), k + m ≤ 10 → cntN (fun h => !(c h == a h)) n ≤ m → VA w n c → Wk w a n k g d → w g 12 ≠ -1 → (t = 12 ∨ (t < 12 ∧ w g t ≠ -1 ∧ ∀ i, i < 10 → c i ≠ t)) → Wt (vl w) n a + L ≤ Wt (vl w) n c + vl w g t + d := by
  intro m
  induction m with
  | zero =>
    intro k c g t d hk hm hc hw hop ht
    have hgn := Wk_le hw
    obtain ⟨d1, d2⟩ := hD k (by omega) g d hw
    have h1 := hl g hgn d1
    have h2 := hU.le (by omega) hc
    obtain ⟨q1, q2, q3⟩ := ce_ok (tk := tk) hop 12 (Nat.le_refl _)
    have h3 : (w g (ceF w tk g 12)).toInt ≤ vl w g t := by
      rcases ht with ht | ⟨ht, ht2, ht3⟩
      · rw [ht, vl_e hop]; exact q2
      · rw [vl_e ht2]
        refine q3 t ht ht2 (Bool.eq_false_iff.mpr (fun z => ?_))
        obtain ⟨h, hh, e⟩ := (hT t ht).mp z
        by_cases hhn : h < n
        · have : cntN (fun h => !(c h == a h)) n ≠ 0 := fun z => by
            have h9 := cnt_flip (p := fun h => !(c h == a h)) (q := fun i => if i = h then false else !(c i == a i)) (h := h) hhn (by simp only [Bool.not_eq_true', beq_eq_false_iff_ne]; exact fun y => ht3 h hh (by rw [y, e])) (by simp) (fun i _ hne => if_neg hne)
            omega
          omega
        · have := hU.1.2.1 h (by omega) hh
          omega
    omega
  | succ m ih =>
    intro k c g t d hk hm hc hw hop ht
    have hgn := Wk_le hw
    obtain ⟨d1, d2⟩ := hD k (by omega) g d hw
    have h1 := hl g hgn d1
    have h2 := hU.le (by omega) hc
    obtain ⟨q1, q2, q3⟩ := ce_ok (tk := tk) hop 12 (Nat.le_refl _)
    rcases ht with ht | ⟨ht, ht2, ht3⟩
    · have h3 : (w g (ceF w tk g 12)).toInt ≤ vl w g t := by rw [ht, vl_e hop]; exact q2
      omega
    · by_cases cu : hb_ tk (nI t) = true
      · obtain ⟨h, hh, e⟩ := (hT t ht).mp cu
        have hhn : h < n := by
          by_cases z : h < n
          · exact z
          · have := hU.1.2.1 h (by omega) hh
            omega
        have hne : c h ≠ a h := fun z => ht3 h hh (by rw [z, e])
        have hah : a h ≠ 12 := by omega
        have hwh : w h (a h) ≠ -1 := hU.1.2.2.1 h hh hah
        have h9 := ih (k + 1) (va_up c h (a h)) h (c h) (d + vl w g (a h) - vl w h (a h)) (by omega) (by
            have := cnt_flip (p := fun i => !(c i == a i)) (q := fun i => !(va_up c h (a h) i == a i)) (h := h) hhn (by simp [hne]) (by simp [va_up_s]) (fun i _ hni => by show (!(va_up c h (a h) i == a i)) = (!(c i == a i)); rw [va_up_n _ _ hni])
            omega) (hc.up hhn (Or.inr ⟨by omega, hwh, fun i hi => by rw [e]; exact ht3 i hi⟩)) ⟨g, d, hw, hhn, hah, by rw [e]; exact ht2, rfl⟩ (hL.op hh (by omega) hwh) (by
            by_cases c12 : c h = 12
            · exact Or.inl c12
            · have hch := hc.1 h hh
              refine Or.inr ⟨by omega, hc.2.2.1 h hh c12, fun i hi z => ?_⟩
              by_cases e2 : i = h
              · subst e2
                rw [va_up_s] at z
                exact hne z.symm
              · rw [va_up_n _ _ e2] at z
                have := hc.2.2.2 i h hi hh e2 z
                rw [z] at this
                exact c12 this)
        rw [Wt_up (vl w) c (a h) hhn] at h9
        rw [e] at h9
        omega
      · have h3 := q3 t ht ht2 (Bool.eq_false_iff.mpr cu)
        rw [vl_e ht2]
        omega
theorem tkU_b {tk : Int32} {c t : Nat} (ht : t < 12) (hc : c ≤ 12) : hb_ (tkU tk c) (nI t) = true ↔ (hb_ tk (nI t) = true ∨ c = t) := by
  unfold tkU
  by_cases e : c = 12
  · rw [if_pos e]
    exact ⟨Or.inl, fun z => z.elim id (fun y => by omega)⟩
  · rw [if_neg e, hb_bt (by omega), b_or, nx_sl c (by omega), bt_n (by omega), Nat.testBit_two_pow, hb_bt (by omega), Bool.or_eq_true, decide_eq_true_iff]
/-- a gap comes in -/
theorem bring (hn : n ≤ 9) (hL : WL w) {s : sv_T} (hU : UM w n s.1) (hT : TK s.2.1 s.1) (hop : w n 12 ≠ -1) : UM w (n + 1) (biR w n s).1 ∧ TK (biR w n s).2.1 (biR w n s).1 := by
  have hJ0 : JJ w s.1 n (s0F s.2.2.1 s.2.2.2 n).1 (s0F s.2.2.1 s.2.2.2 n).2.1 := by
    have e1 : ∀ h, h ≤ n → (s0F s.2.2.1 s.2.2.2 n).1 h ≠ mFAR → h = n := fun h hh hr => by
      by_cases e : h = n
      · exact e
      · have : (s0F s.2.2.1 s.2.2.2 n).1 h = mFAR := by
          show vp_updL (fillN s.2.2.1 10 mFAR) n 0 h = mFAR
          rw [pk_uLn e]
          exact if_pos (by omega)
        exact absurd this hr
    refine ⟨updL_s _ _ _, fun h hh hr => absurd (e1 h (by omega) hr) (by omega), fun h hh hr => ?_⟩
    rw [e1 h hh hr, show (s0F s.2.2.1 s.2.2.2 n).1 n = 0 from updL_s _ _ _]
    have : (0 : Int64).toInt = 0 := by decide
    omega
  obtain ⟨j1, j2, _⟩ := rdF_J hn hL hU hJ0 rfl 10
  have hbi := bi_ok hn hL hU hop (tk := s.2.1) j1 (n + 1) (Nat.le_refl _)
  show UM w (n + 1) (shF n (rdF w s.1 n 10 (s0F s.2.2.1 s.2.2.2 n)).2.1 10 (s.1, some (biF w s.2.1 (rdF w s.1 n 10 (s0F s.2.2.1 s.2.2.2 n)).1 (n + 1) (n, 12, mFAR)).1, (biF w s.2.1 (rdF w s.1 n 10 (s0F s.2.2.1 s.2.2.2 n)).1 (n + 1) (n, 12, mFAR)).2.1)).1 ∧ TK (tkU s.2.1 (biF w s.2.1 (rdF w s.1 n 10 (s0F s.2.2.1 s.2.2.2 n)).1 (n + 1) (n, 12, mFAR)).2.1) (shF n (rdF w s.1 n 10 (s0F s.2.2.1 s.2.2.2 n)).2.1 10 (s.1, some (biF w s.2.1 (rdF w s.1 n 10 (s0F s.2.2.1 s.2.2.2 n)).1 (n + 1) (n, 12, mFAR)).1, (biF w s.2.1 (rdF w s.1 n 10 (s0F s.2.2.1 s.2.2.2 n)).1 (n + 1) (n, 12, mFAR)).2.1)).1
  revert j1 j2 hbi
  generalize (rdF w s.1 n 10 (s0F s.2.2.1 s.2.2.2 n)).1 = D
  generalize (rdF w s.1 n 10 (s0F s.2.2.1 s.2.2.2 n)).2.1 = par
  intro j1 j2 hbi
  rcases hbi with ⟨_, hbi⟩ | ⟨i1, i2, i3, i4, i5⟩
  · have h9 := hbi n (by omega)
    rw [j1.1] at h9
    exact absurd h9 (by decide)
  revert i1 i2 i3 i4 i5
  generalize biF w s.2.1 D (n + 1) (n, 12, mFAR) = b
  intro i1 i2 i3 i4 i5
  obtain ⟨e, c, l⟩ := b
  have i1 : e ≤ n := i1
  have i2 : D e ≠ mFAR := i2
  have i3 : c = ceF w s.2.1 e 12 := i3
  have i4 : l.toInt = (D e).toInt + (w e c).toInt := i4
  have i5 : ∀ g, g < n + 1 → D g ≠ mFAR → l.toInt ≤ (D g).toInt + (w g (ceF w s.2.1 g 12)).toInt := i5
  show UM w (n + 1) (shF n par 10 (s.1, some e, c)).1 ∧ TK (tkU s.2.1 c) (shF n par 10 (s.1, some e, c)).1
  have hope := j1.opn hL hU hn hop i1 i2
  obtain ⟨r1, r2, r3, r4⟩ := ce_rng hL (tk := s.2.1) (show e < 10 by omega) hope
  obtain ⟨q1, _, _⟩ := ce_ok (tk := s.2.1) hope 12 (Nat.le_refl _)
  rw [← i3] at r1 r2 r3 r4 q1
  have hc : c = 12 ∨ (c < 12 ∧ w e c ≠ -1 ∧ ∀ i, i < 10 → s.1 i ≠ c) := by
    rcases q1 with q1 | ⟨q1, q2, q3⟩
    · exact Or.inl q1
    · refine Or.inr ⟨q1, q2, fun i hi z => ?_⟩
      rw [(hT c q1).mpr ⟨i, hi, z⟩] at q3
      cases q3
  have h1 := shift hn hU (par := par) (R := fun g => g ≤ n ∧ D g ≠ mFAR) (D := fun g => (D g).toInt) (by show (D n).toInt = 0; rw [j1.1]; decide)
    (fun h hh hR => by
      obtain ⟨g, q1, q2, q3, q4, q5⟩ := j1.2.1 h hh hR.2
      exact ⟨g, q1, q2, q3, ⟨q2, q4⟩, q5⟩)
    (u := vl w) (fun _ _ _ => rfl) (B := Wt (vl w) n s.1 + l.toInt) 10 s.1 e c
    (by have := cnt_le (fun h => s.1 h == s.1 h) n; omega) i1 ⟨i1, i2⟩ hU.1 hc (by rw [vl_e r1]; omega) (fun _ => rfl) (fun v _ hv => absurd rfl hv)
  refine ⟨UM.mk hL (by omega) h1.1 (fun b hb => Int.le_trans h1.2.1 ?_), fun t ht => (tkU_b ht r2).trans ?_⟩
  · have hbn : VA w n (va_up b n 12) := by
      have h2 := hb.up (h := n) (c := 12) (by omega) (Or.inl rfl)
      refine ⟨h2.1, fun g hg hg2 => ?_, h2.2.2.1, h2.2.2.2⟩
      by_cases e2 : g = n
      · rw [e2, va_up_s]
      · exact h2.2.1 g (by omega) hg2
    have h3 := exch hn hL hU j2 hT (L := l.toInt) (fun g hg hr => i5 g (by omega) hr) n 0 (va_up b n 12) n (b n) 0 (by omega) (cnt_le _ n) hbn ⟨rfl, rfl⟩ hop (by
      by_cases c12 : b n = 12
      · exact Or.inl c12
      · have := hb.1 n (by omega)
        refine Or.inr ⟨by omega, hb.2.2.1 n (by omega) c12, fun i hi z => ?_⟩
        by_cases e2 : i = n
        · rw [e2, va_up_s] at z; exact c12 z.symm
        · rw [va_up_n _ _ e2] at z
          have h4 := hb.2.2.2 i n hi (by omega) e2 z
          rw [z] at h4
          exact c12 h4)
    rw [Wt_out (vl w) b 12 (Nat.le_refl n)] at h3
    show _ ≤ Wt (vl w) n b + vl w n (b n)
    omega
  · rw [h1.2.2 t (by omega), hT t ht]
theorem UM.shut (hL : WL w) (hn : n ≤ 9) (hU : UM w n a) (hop : w n 12 = -1) : UM w (n + 1) a := by
  have e : ∀ b, VA w (n + 1) b → VA w n b := fun b hb => ⟨hb.1, fun g hg hg2 => by
    by_cases e2 : g = n
    · rw [e2]; exact hb.v12 hL (by omega) hop
    · exact hb.2.1 g (by omega) hg2, hb.2.2⟩
  have e2 : ∀ b, VA w (n + 1) b → Wt (vl w) (n + 1) b = Wt (vl w) n b := fun b hb => by
    show Wt (vl w) n b + vl w n (b n) = _
    rw [hb.v12 hL (by omega) hop, show vl w n 12 = 0 from if_pos hop]
    omega
  refine ⟨hU.1.mono, fun b hb hne => ?_⟩
  rw [e2 b hb, e2 a hU.1.mono]
  exact hU.2 b (e b hb) hne
theorem solve_ok (hL : WL w) {og : Int32} (ho : ∀ g, g < 10 → (hb_ og (nI g) = true ↔ w g 12 ≠ -1)) {s : sv_T} (hs : ∀ g, g < 10 → s.1 g = 12) (hz : s.2.1 = 0) : ∀ m, m ≤ 10 → UM w m (slF w og m s).1 ∧ TK (slF w og m s).2.1 (slF w og m s).1
  | 0, _ => by
    refine ⟨⟨⟨fun g hg => Nat.le_of_eq (hs g hg), fun g _ hg => hs g hg, fun g hg h => absurd (hs g hg) h, fun g h hg _ _ _ => hs g hg⟩, fun b hb hne => ?_⟩, fun t ht => ?_⟩
    · obtain ⟨g, hg, hne⟩ := hne
      exact absurd ((hb.2.1 g (Nat.zero_le g) hg).trans (hs g hg).symm) hne
    · show hb_ s.2.1 (nI t) = true ↔ ∃ h, h < 10 ∧ s.1 h = t
      rw [hz, hb_bt (by omega), b_0]
      exact ⟨fun z => (by cases z), fun ⟨h, hh, e⟩ => by rw [hs h hh] at e; omega⟩
  | m + 1, hm => by
    obtain ⟨h1, h2⟩ := solve_ok hL ho hs hz m (by omega)
    show UM w (m + 1) (slS w og m (slF w og m s)).1 ∧ TK (slS w og m (slF w og m s)).2.1 (slS w og m (slF w og m s)).1
    unfold slS
    by_cases c : hb_ og (nI m) = true
    · rw [if_pos c]
      exact bring (by omega) hL h1 h2 ((ho m (by omega)).mp c)
    · rw [if_neg c]
      refine ⟨h1.shut hL (by omega) ?_, h2⟩
      by_cases c2 : w m 12 = -1
      · exact c2
      · exact absurd ((ho m (by omega)).mpr c2) c
end LS
