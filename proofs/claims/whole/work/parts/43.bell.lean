/-! THE MATCH, as numbers: weights, the chains' search -/
theorem i64_add {x y : Int64} (h1 : -9223372036854775808 ≤ x.toInt + y.toInt) (h2 : x.toInt + y.toInt < 9223372036854775808) : (x + y).toInt = x.toInt + y.toInt := by
  rw [Int64.toInt_add, Int.bmod_def]
  omega
theorem i64_sub {x y : Int64} (h1 : -9223372036854775808 ≤ x.toInt - y.toInt) (h2 : x.toInt - y.toInt < 9223372036854775808) : (x - y).toInt = x.toInt - y.toInt := by
  rw [Int64.toInt_sub, Int.bmod_def]
  omega
theorem far_I : mFAR.toInt = 9223372036854775807 := by decide
theorem m1_I : (-1 : Int64).toInt = -1 := by decide
/-- what the weights are: a cost above a digit -/
def WL (w : Nat → Nat → Int64) : Prop := ∃ C : Nat → Nat → Nat, ∀ g, g < 10 → (∀ t, t ≤ 12 → w g t = -1) ∨ ((w g 12).toInt = ((2305843009213693952 + 12 * 16 ^ (9 - g) : Nat) : Int) ∧ ∀ t, t < 12 → w g t = -1 ∨ (C g t < 262144 ∧ (w g t).toInt = ((C g t * 1099511627776 + t * 16 ^ (9 - g) : Nat) : Int)))
theorem p16 {g : Nat} : 16 ^ (9 - g) ≤ 68719476736 := Nat.pow_le_pow_right (n := 16) (by decide) (show 9 - g ≤ 9 by omega)
theorem WL.nn {w : Nat → Nat → Int64} (h : WL w) {g t : Nat} (hg : g < 10) (ht : t ≤ 12) : 0 ≤ vl w g t := by
  obtain ⟨C, h⟩ := h
  unfold vl
  split
  · exact Int.le_refl 0
  · rename_i h1
    rcases h g hg with h | ⟨h2, h3⟩
    · exact absurd (h t ht) h1
    · by_cases c : t = 12
      · subst c; rw [h2]; exact Int.natCast_nonneg _
      · rcases h3 t (by omega) with h | h
        · exact absurd h h1
        · rw [h.2]; exact Int.natCast_nonneg _
theorem WL.lt {w : Nat → Nat → Int64} (h : WL w) {g t : Nat} (hg : g < 10) (ht : t < 12) : vl w g t < 288230376151711744 := by
  obtain ⟨C, h⟩ := h
  unfold vl
  split
  · decide
  · rename_i h1
    rcases h g hg with h | ⟨h2, h3⟩
    · exact absurd (h t (by omega)) h1
    · rcases h3 t ht with h | h
      · exact absurd h h1
      · rw [h.2]
        have hp := p16 (g := g)
        have h4 : t * 16 ^ (9 - g) ≤ 11 * 16 ^ (9 - g) := Nat.mul_le_mul_right _ (by omega)
        omega
theorem WL.l12 {w : Nat → Nat → Int64} (h : WL w) {g : Nat} (hg : g < 10) : vl w g 12 < 2307000000000000000 := by
  obtain ⟨C, h⟩ := h
  unfold vl
  split
  · decide
  · rename_i h1
    rcases h g hg with h | ⟨h2, h3⟩
    · exact absurd (h 12 (by omega)) h1
    · rw [h2]
      have hp := p16 (g := g)
      omega
theorem WL.op {w : Nat → Nat → Int64} (h : WL w) {g t : Nat} (hg : g < 10) (ht : t ≤ 12) (h1 : w g t ≠ -1) : w g 12 ≠ -1 := by
  obtain ⟨C, h⟩ := h
  rcases h g hg with h | ⟨h2, h3⟩
  · exact absurd (h t ht) h1
  · intro z
    rw [z, m1_I] at h2
    omega
theorem vl_e {w : Nat → Nat → Int64} {g t : Nat} (h : w g t ≠ -1) : vl w g t = (w g t).toInt := if_neg h
def JJ (w : Nat → Nat → Int64) (a : Nat → Nat) (n : Nat) (D : Nat → Int64) (par : Nat → Option Nat) : Prop :=
  D n = 0 ∧ (∀ h, h < n → D h ≠ mFAR → ∃ g, par h = some g ∧ g ≤ n ∧ g ≠ h ∧ D g ≠ mFAR ∧ a h ≠ 12 ∧ w g (a h) ≠ -1 ∧ (D g).toInt + vl w g (a h) - vl w h (a h) ≤ (D h).toInt) ∧
  ∀ h, h ≤ n → D h ≠ mFAR → (D h).toInt ≤ cntN (fun i => !(D i == mFAR)) (n + 1) * 288230376151711744
section BF
variable {n : Nat} {w : Nat → Nat → Int64} {a : Nat → Nat}
theorem JJ.lb (hn : n ≤ 9) (hL : WL w) (hU : UM w n a) {D : Nat → Int64} {par : Nat → Option Nat} (hJ : JJ w a n D par) {h : Nat} (hh : h ≤ n) (hr : D h ≠ mFAR) : -2594073385365405696 ≤ (D h).toInt := by
  have h1 := shift hn hU (par := par) (R := fun g => g ≤ n ∧ D g ≠ mFAR) (D := fun g => (D g).toInt) (by show (D n).toInt = 0; rw [hJ.1]; decide)
    (fun h hh hR => by
      obtain ⟨g, q1, q2, q3, q4, q5⟩ := hJ.2.1 h hh hR.2
      exact ⟨g, q1, q2, q3, ⟨q2, q4⟩, q5⟩)
    (u := fun g t => if t = 12 then 0 else vl w g t) (fun g t ht => if_neg ht) (B := Wt (fun g t => if t = 12 then 0 else vl w g t) n a + (D h).toInt) 10 a h 12
    (by have := cnt_le (fun h => a h == a h) n; omega) hh ⟨hh, hr⟩ hU.1 (Or.inl rfl) (by rw [if_pos rfl]; omega) (fun _ => rfl) (fun v _ hv => absurd rfl hv)
  have h2 : 0 ≤ Wt (fun g t => if t = 12 then 0 else vl w g t) (n + 1) (shF n par 10 (a, some h, 12)).1 := by
    unfold Wt
    refine sF_nn (fun i hi => ?_)
    dsimp only
    split
    · exact Int.le_refl 0
    · exact hL.nn (by omega) (h1.1.1 i (by omega))
  have h3 : Wt (fun g t => if t = 12 then 0 else vl w g t) n a ≤ n * 288230376151711744 := by
    unfold Wt
    refine sF_le (fun i hi => ?_)
    dsimp only
    split
    · decide
    · have := hU.1.1 i (by omega)
      exact Int.le_of_lt (hL.lt (by omega) (by omega))
  have h4 := h1.2.1
  omega
theorem JJ.ub (hn : n ≤ 9) {D : Nat → Int64} {par : Nat → Option Nat} (hJ : JJ w a n D par) {h : Nat} (hh : h ≤ n) (hr : D h ≠ mFAR) : (D h).toInt ≤ 2882303761517117440 := by
  have h1 := hJ.2.2 h hh hr
  have h2 := cnt_le (fun i => !(D i == mFAR)) (n + 1)
  omega
theorem updL_s (f : Nat → Int64) (i : Nat) (v : Int64) : vp_updL f i v i = v := pk_uLs ..
theorem lcS_J (hn : n ≤ 9) (hL : WL w) (hU : UM w n a) {g h : Nat} (hg : g ≤ n) (hh : h < n) {s : lc_T} (hJ : JJ w a n s.1 s.2.1) (hr : s.1 g ≠ mFAR) :
    JJ w a n (lcS w a g h s).1 (lcS w a g h s).2.1 ∧ (∀ i, ((lcS w a g h s).1 i).toInt ≤ (s.1 i).toInt) ∧ (∀ i, s.1 i ≠ mFAR → (lcS w a g h s).1 i ≠ mFAR) ∧ (lcS w a g h s).1 g = s.1 g ∧
    (a h ≠ 12 → w g (a h) ≠ -1 → (lcS w a g h s).1 h ≠ mFAR ∧ ((lcS w a g h s).1 h).toInt ≤ (s.1 g).toInt + vl w g (a h) - vl w h (a h)) ∧ ((lcS w a g h s).2.2 = false → (lcS w a g h s).1 = s.1 ∧ s.2.2 = false) := by
  obtain ⟨D, par, ch⟩ := s
  have hJ : JJ w a n D par := hJ
  have hr : D g ≠ mFAR := hr
  unfold lcS
  by_cases c1 : a h = 12 ∨ w g (a h) = -1
  · rw [if_pos c1]
    exact ⟨hJ, fun _ => Int.le_refl _, fun _ z => z, rfl, fun z1 z2 => absurd c1 (fun z => z.elim z1 z2), fun z => ⟨rfl, z⟩⟩
  rw [if_neg c1]
  have hah : a h ≠ 12 := fun z => c1 (Or.inl z)
  have hwg : w g (a h) ≠ -1 := fun z => c1 (Or.inr z)
  have hah2 : a h < 12 := by
    have := hU.1.1 h (by omega)
    omega
  have hwh : w h (a h) ≠ -1 := hU.1.2.2.1 h (by omega) hah
  have b1 := hJ.lb hn hL hU hg hr
  have b2 := hJ.ub hn hg hr
  have b3 := hL.lt (g := g) (t := a h) (by omega) hah2
  have b4 := hL.lt (g := h) (t := a h) (by omega) hah2
  have b5 := hL.nn (g := g) (t := a h) (by omega) (by omega)
  have b6 := hL.nn (g := h) (t := a h) (by omega) (by omega)
  have eX : (D g + w g (a h) - w h (a h)).toInt = (D g).toInt + vl w g (a h) - vl w h (a h) := by
    rw [vl_e hwg] at b3 b5 ⊢
    rw [vl_e hwh] at b4 b6 ⊢
    rw [i64_sub (by rw [i64_add (by omega) (by omega)]; omega) (by rw [i64_add (by omega) (by omega)]; omega), i64_add (by omega) (by omega)]
  have hXf : D g + w g (a h) - w h (a h) ≠ mFAR := fun z => by
    have := far_I
    rw [← z, eX] at this
    omega
  by_cases c2 : D g + w g (a h) - w h (a h) < D h
  · rw [if_pos (show (D, par, ch).1 g + w g (a h) - w h (a h) < (D, par, ch).1 h from c2)]
    have c3 := Int64.lt_iff_toInt_lt.mp c2
    have hgh : g ≠ h := fun z => by
      subst z
      rw [eX] at c3
      omega
    have hgD : vp_updL D h (D g + w g (a h) - w h (a h)) g = D g := pk_uLn hgh
    refine ⟨⟨?_, fun i hi hri => ?_, fun i hi hri => ?_⟩, fun i => ?_, fun i hi => ?_, hgD, fun _ _ => ?_, fun z => by cases z⟩
    · show vp_updL D h _ n = 0
      rw [pk_uLn (by omega)]; exact hJ.1
    · have hri : vp_updL D h (D g + w g (a h) - w h (a h)) i ≠ mFAR := hri
      by_cases e : i = h
      · subst e
        refine ⟨g, va_up_s _ _ _, hg, hgh, ?_, hah, hwg, ?_⟩
        · show vp_updL D i _ g ≠ mFAR
          rw [hgD]; exact hr
        · show (vp_updL D i _ g).toInt + vl w g (a i) - vl w i (a i) ≤ (vp_updL D i _ i).toInt
          rw [hgD, updL_s, eX]
          exact Int.le_refl _
      · rw [pk_uLn e] at hri
        obtain ⟨g0, q1, q2, q3, q4, q5, q6, q7⟩ := hJ.2.1 i hi hri
        refine ⟨g0, (va_up_n _ _ e).trans q1, q2, q3, ?_, q5, q6, ?_⟩
        · show vp_updL D h _ g0 ≠ mFAR
          by_cases e2 : g0 = h
          · rw [e2, updL_s]; exact hXf
          · rw [pk_uLn e2]; exact q4
        · show (vp_updL D h (D g + w g (a h) - w h (a h)) g0).toInt + vl w g0 (a i) - vl w i (a i) ≤ (vp_updL D h (D g + w g (a h) - w h (a h)) i).toInt
          rw [pk_uLn e]
          by_cases e2 : g0 = h
          · rw [e2, updL_s]; rw [e2] at q7; omega
          · rw [pk_uLn e2]; exact q7
    · show (vp_updL D h (D g + w g (a h) - w h (a h)) i).toInt ≤ cntN (fun i => !(vp_updL D h (D g + w g (a h) - w h (a h)) i == mFAR)) (n + 1) * 288230376151711744
      have hri : vp_updL D h (D g + w g (a h) - w h (a h)) i ≠ mFAR := hri
      have hcn : cntN (fun i => !(vp_updL D h (D g + w g (a h) - w h (a h)) i == mFAR)) (n + 1) = cntN (fun i => !(D i == mFAR)) (n + 1) + (if D h = mFAR then 1 else 0) := by
        by_cases e : D h = mFAR
        · rw [if_pos e]
          exact (cnt_flip (p := fun i => !(vp_updL D h (D g + w g (a h) - w h (a h)) i == mFAR)) (q := fun i => !(D i == mFAR)) (h := h) (by omega) (by simp [updL_s, hXf]) (by simp [e]) (fun j _ hne => by show (!(D j == mFAR)) = (!(vp_updL D h (D g + w g (a h) - w h (a h)) j == mFAR)); rw [pk_uLn hne])).symm
        · rw [if_neg e]
          exact cnt_cg (fun j _ => by
            show (!(vp_updL D h (D g + w g (a h) - w h (a h)) j == mFAR)) = (!(D j == mFAR))
            by_cases e2 : j = h
            · rw [e2, updL_s, beq_eq_false_iff_ne.mpr hXf, beq_eq_false_iff_ne.mpr e]
            · rw [pk_uLn e2])
      rw [hcn]
      by_cases e2 : i = h
      · subst e2
        rw [updL_s, eX]
        have h9 := hJ.2.2 g hg hr
        by_cases e : D i = mFAR
        · rw [if_pos e]; omega
        · rw [if_neg e]
          have h8 := hJ.2.2 i hi e
          rw [eX] at c3
          omega
      · rw [pk_uLn e2] at hri ⊢
        have h8 := hJ.2.2 i hi hri
        split <;> omega
    · show (vp_updL D h (D g + w g (a h) - w h (a h)) i).toInt ≤ (D i).toInt
      by_cases e2 : i = h
      · subst e2; rw [updL_s]; omega
      · rw [pk_uLn e2]; exact Int.le_refl _
    · show vp_updL D h _ i ≠ mFAR
      by_cases e2 : i = h
      · subst e2; rw [updL_s]; exact hXf
      · rw [pk_uLn e2]; exact hi
    · show vp_updL D h _ h ≠ mFAR ∧ (vp_updL D h _ h).toInt ≤ (D g).toInt + vl w g (a h) - vl w h (a h)
      rw [updL_s, eX]
      exact ⟨hXf, Int.le_refl _⟩
  · rw [if_neg (show ¬ (D, par, ch).1 g + w g (a h) - w h (a h) < (D, par, ch).1 h from c2)]
    have c3 : ¬ (D g + w g (a h) - w h (a h)).toInt < (D h).toInt := fun z => c2 (Int64.lt_iff_toInt_lt.mpr z)
    rw [eX] at c3
    refine ⟨hJ, fun _ => Int.le_refl _, fun _ z => z, rfl, fun z1 z2 => ⟨fun z => ?_, ?_⟩, fun z => ⟨rfl, z⟩⟩
    · have := far_I
      have z : D h = mFAR := z
      rw [← z] at this
      omega
    · show (D h).toInt ≤ (D g).toInt + vl w g (a h) - vl w h (a h)
      omega
theorem lcF_J (hn : n ≤ 9) (hL : WL w) (hU : UM w n a) {g : Nat} (hg : g ≤ n) {s : lc_T} (hJ : JJ w a n s.1 s.2.1) (hr : s.1 g ≠ mFAR) : ∀ m, m ≤ n →
    JJ w a n (lcF w a g m s).1 (lcF w a g m s).2.1 ∧ (∀ i, ((lcF w a g m s).1 i).toInt ≤ (s.1 i).toInt) ∧ (∀ i, s.1 i ≠ mFAR → (lcF w a g m s).1 i ≠ mFAR) ∧ (lcF w a g m s).1 g = s.1 g ∧
    (∀ h, h < m → a h ≠ 12 → w g (a h) ≠ -1 → (lcF w a g m s).1 h ≠ mFAR ∧ ((lcF w a g m s).1 h).toInt ≤ (s.1 g).toInt + vl w g (a h) - vl w h (a h)) ∧ ((lcF w a g m s).2.2 = false → (lcF w a g m s).1 = s.1 ∧ s.2.2 = false)
  | 0, _ => ⟨hJ, fun _ => Int.le_refl _, fun _ z => z, rfl, fun h hh => absurd hh (Nat.not_lt_zero h), fun z => ⟨rfl, z⟩⟩
  | m + 1, hm => by
    obtain ⟨i1, i2, i3, i4, i5, i6⟩ := lcF_J hn hL hU hg hJ hr m (by omega)
    obtain ⟨j1, j2, j3, j4, j5, j6⟩ := lcS_J hn hL hU hg (show m < n by omega) (s := lcF w a g m s) i1 (i3 g hr)
    show JJ w a n (lcS w a g m (lcF w a g m s)).1 (lcS w a g m (lcF w a g m s)).2.1 ∧ _
    refine ⟨j1, fun i => Int.le_trans (j2 i) (i2 i), fun i hi => j3 i (i3 i hi), j4.trans i4, fun h hh z1 z2 => ?_, fun z => ?_⟩
    · by_cases e : h = m
      · subst e
        have := j5 z1 z2
        rw [i4] at this
        exact this
      · have := i5 h (by omega) z1 z2
        exact ⟨j3 h this.1, Int.le_trans (j2 h) this.2⟩
    · have h1 := j6 z
      have h2 := i6 h1.2
      exact ⟨h1.1.trans h2.1, h2.2⟩
theorem frF_J (hn : n ≤ 9) (hL : WL w) (hU : UM w n a) {s : lc_T} (hJ : JJ w a n s.1 s.2.1) : ∀ m, m ≤ n + 1 →
    JJ w a n (frF w a n m s).1 (frF w a n m s).2.1 ∧ (∀ i, ((frF w a n m s).1 i).toInt ≤ (s.1 i).toInt) ∧ (∀ i, s.1 i ≠ mFAR → (frF w a n m s).1 i ≠ mFAR) ∧
    (∀ g, g < m → s.1 g ≠ mFAR → ∀ h, h < n → a h ≠ 12 → w g (a h) ≠ -1 → (frF w a n m s).1 h ≠ mFAR ∧ ((frF w a n m s).1 h).toInt ≤ (s.1 g).toInt + vl w g (a h) - vl w h (a h)) ∧ ((frF w a n m s).2.2 = false → (frF w a n m s).1 = s.1 ∧ s.2.2 = false)
  | 0, _ => ⟨hJ, fun _ => Int.le_refl _, fun _ z => z, fun h hh => absurd hh (Nat.not_lt_zero h), fun z => ⟨rfl, z⟩⟩
  | m + 1, hm => by
    obtain ⟨i1, i2, i3, i5, i6⟩ := frF_J hn hL hU hJ m (by omega)
    show JJ w a n (frS w a n m (frF w a n m s)).1 (frS w a n m (frF w a n m s)).2.1 ∧ (∀ i, ((frS w a n m (frF w a n m s)).1 i).toInt ≤ _) ∧ (∀ i, _ → (frS w a n m (frF w a n m s)).1 i ≠ mFAR) ∧ (∀ g, g < m + 1 → _ → ∀ h, h < n → a h ≠ 12 → w g (a h) ≠ -1 → (frS w a n m (frF w a n m s)).1 h ≠ mFAR ∧ ((frS w a n m (frF w a n m s)).1 h).toInt ≤ _) ∧ ((frS w a n m (frF w a n m s)).2.2 = false → (frS w a n m (frF w a n m s)).1 = _ ∧ _)
    unfold frS
    by_cases c : (frF w a n m s).1 m = mFAR
    · rw [if_pos c]
      refine ⟨i1, i2, i3, fun g hg hr => ?_, i6⟩
      by_cases e : g = m
      · subst e; exact absurd c (i3 g hr)
      · exact i5 g (by omega) hr
    · rw [if_neg c]
      obtain ⟨j1, j2, j3, j4, j5, j6⟩ := lcF_J hn hL hU (show m ≤ n by omega) (s := ((frF w a n m s).1, (frF w a n m s).2.1, false)) i1 c n (Nat.le_refl n)
      refine ⟨j1, fun i => Int.le_trans (j2 i) (i2 i), fun i hi => j3 i (i3 i hi), fun g hg hr h hh z1 z2 => ?_, fun z => ?_⟩
      · by_cases e : g = m
        · subst e
          have h1 := j5 h hh z1 z2
          have h2 := i2 g
          refine ⟨h1.1, Int.le_trans h1.2 ?_⟩
          show ((frF w a n g s).1 g).toInt + vl w g (a h) - vl w h (a h) ≤ _
          omega
        · have h1 := i5 g (by omega) hr h hh z1 z2
          exact ⟨j3 h h1.1, Int.le_trans (j2 h) h1.2⟩
      · have z2 := Bool.or_eq_false_iff.mp z
        have h2 := i6 z2.2
        exact ⟨(j6 z2.1).1.trans h2.1, h2.2⟩
/-- walks from the new gap, by the number of their steps -/
def Wk (w : Nat → Nat → Int64) (a : Nat → Nat) (n : Nat) : Nat → Nat → Int → Prop
  | 0, g, d => g = n ∧ d = 0
  | k + 1, h, d => ∃ g d0, Wk w a n k g d0 ∧ h < n ∧ a h ≠ 12 ∧ w g (a h) ≠ -1 ∧ d = d0 + vl w g (a h) - vl w h (a h)
theorem Wk_le : ∀ {k g : Nat} {d : Int}, Wk w a n k g d → g ≤ n
  | 0, _, _, h => Nat.le_of_eq h.1
  | _ + 1, _, _, h => by
    obtain ⟨_, _, _, h1, _⟩ := h
    omega
theorem rdF_J (hn : n ≤ 9) (hL : WL w) (hU : UM w n a) {s : lc_T} (hJ : JJ w a n s.1 s.2.1) (hf : s.2.2 = true) : ∀ r,
    JJ w a n (rdF w a n r s).1 (rdF w a n r s).2.1 ∧ (∀ k, k ≤ r → ∀ h d, Wk w a n k h d → (rdF w a n r s).1 h ≠ mFAR ∧ ((rdF w a n r s).1 h).toInt ≤ d) ∧
    ((rdF w a n r s).2.2 = false → ∀ g, g ≤ n → (rdF w a n r s).1 g ≠ mFAR → ∀ h, h < n → a h ≠ 12 → w g (a h) ≠ -1 → (rdF w a n r s).1 h ≠ mFAR ∧ ((rdF w a n r s).1 h).toInt ≤ ((rdF w a n r s).1 g).toInt + vl w g (a h) - vl w h (a h))
  | 0 => by
    refine ⟨hJ, fun k hk h d hw => ?_, fun z => ?_⟩
    · have hk : k = 0 := by omega
      subst hk
      obtain ⟨rfl, rfl⟩ := hw
      show s.1 h ≠ mFAR ∧ (s.1 h).toInt ≤ 0
      rw [hJ.1]
      exact ⟨by decide, by decide⟩
    · have z : s.2.2 = false := z
      rw [hf] at z
      cases z
  | r + 1 => by
    obtain ⟨i1, i2, i3⟩ := rdF_J hn hL hU hJ hf r
    show JJ w a n (rdS w a n (rdF w a n r s)).1 (rdS w a n (rdF w a n r s)).2.1 ∧ (∀ k, k ≤ r + 1 → ∀ h d, Wk w a n k h d → (rdS w a n (rdF w a n r s)).1 h ≠ mFAR ∧ ((rdS w a n (rdF w a n r s)).1 h).toInt ≤ d) ∧ ((rdS w a n (rdF w a n r s)).2.2 = false → ∀ g, g ≤ n → (rdS w a n (rdF w a n r s)).1 g ≠ mFAR → ∀ h, h < n → a h ≠ 12 → w g (a h) ≠ -1 → (rdS w a n (rdF w a n r s)).1 h ≠ mFAR ∧ ((rdS w a n (rdF w a n r s)).1 h).toInt ≤ ((rdS w a n (rdF w a n r s)).1 g).toInt + vl w g (a h) - vl w h (a h))
    unfold rdS
    by_cases c : (rdF w a n r s).2.2 = true
    · rw [if_pos c]
      obtain ⟨j1, j2, j3, j5, j6⟩ := frF_J hn hL hU (s := ((rdF w a n r s).1, (rdF w a n r s).2.1, false)) i1 (n + 1) (Nat.le_refl _)
      refine ⟨j1, fun k hk h d hw => ?_, fun z g hg hr h hh z1 z2 => ?_⟩
      · cases k with
        | zero =>
          obtain ⟨rfl, rfl⟩ := hw
          rw [j1.1]
          exact ⟨by decide, by decide⟩
        | succ k =>
          obtain ⟨g, d0, w1, w2, w3, w4, rfl⟩ := hw
          have h1 := i2 k (by omega) g d0 w1
          have hgn := Wk_le w1
          have h2 := j5 g (by omega) h1.1 h w2 w3 w4
          refine ⟨h2.1, Int.le_trans h2.2 ?_⟩
          show ((rdF w a n r s).1 g).toInt + vl w g (a h) - vl w h (a h) ≤ d0 + vl w g (a h) - vl w h (a h)
          omega
      · have h1 := (j6 z).1
        have hr2 : (rdF w a n r s).1 g ≠ mFAR := by
          rw [h1] at hr
          exact hr
        have h2 := j5 g (by omega) hr2 h hh z1 z2
        rw [h1] at h2 ⊢
        exact h2
    · rw [if_neg c]
      have c2 := Bool.eq_false_iff.mpr c
      refine ⟨i1, fun k hk h d hw => ?_, i3⟩
      cases k with
      | zero =>
        obtain ⟨rfl, rfl⟩ := hw
        rw [i1.1]
        exact ⟨by decide, by decide⟩
      | succ k =>
        obtain ⟨g, d0, w1, w2, w3, w4, rfl⟩ := hw
        have h1 := i2 k (by omega) g d0 w1
        have h2 := i3 c2 g (Wk_le w1) h1.1 h w2 w3 w4
        exact ⟨h2.1, by omega⟩
end BF
