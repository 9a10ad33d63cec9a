/-! WHAT THE MATCH ANSWERS, told of the model's greedy -/
theorem cq_cg {p q : Nat → Bool} : ∀ n, (∀ i, i < n → p i = q i) → cntN p n = cntN q n
  | 0, _ => rfl
  | n + 1, h => by
    have ih := cq_cg n (fun i hi => h i (by omega))
    have e : cntN p (n + 1) = if p n then cntN p n + 1 else cntN p n := rfl
    have e2 : cntN q (n + 1) = if q n then cntN q n + 1 else cntN q n := rfl
    rw [e, e2, ih, h n (by omega)]
theorem cq_ext {p : Nat → Bool} {n : Nat} (h : ∀ i, n ≤ i → p i = false) : ∀ k, cntN p (n + k) = cntN p n
  | 0 => rfl
  | k + 1 => by
    have ih := cq_ext h k
    have e : cntN p (n + k + 1) = if p (n + k) then cntN p (n + k) + 1 else cntN p (n + k) := rfl
    rw [show n + (k + 1) = n + k + 1 by omega, e, h (n + k) (by omega), ih]
    rfl
theorem cq_ex {p : Nat → Bool} {n m : Nat} (h : ∀ i, n ≤ i → p i = false) (hm : n ≤ m) : cntN p m = cntN p n := by
  have := cq_ext h (m - n)
  rw [show n + (m - n) = m by omega] at this
  exact this
theorem cq_s (p : Nat → Bool) (n : Nat) : cntN p (n + 1) = if p n then cntN p n + 1 else cntN p n := rfl
theorem cq_le {p q : Nat → Bool} : ∀ n, (∀ i, i < n → p i = true → q i = true) → cntN p n ≤ cntN q n
  | 0, _ => Nat.le_refl 0
  | n + 1, h => by
    have ih := cq_le n (fun i hi => h i (by omega))
    rw [cq_s, cq_s]
    by_cases c : p n = true
    · rw [if_pos c, if_pos (h n (by omega) c)]; omega
    · rw [if_neg c]; split <;> omega
theorem cq_all {p q : Nat → Bool} : ∀ n, (∀ i, i < n → p i = true → q i = true) → cntN p n = cntN q n → ∀ i, i < n → q i = true → p i = true
  | 0, _, _, i, hi, _ => absurd hi (Nat.not_lt_zero i)
  | n + 1, h, e, i, hi, hq => by
    have hl := cq_le n (fun i hi => h i (by omega))
    rw [cq_s, cq_s] at e
    by_cases c : p n = true
    · rw [if_pos c, if_pos (h n (by omega) c)] at e
      by_cases z : i = n
      · rw [z]; exact c
      · exact cq_all n (fun i hi => h i (by omega)) (by omega) i (by omega) hq
    · rw [if_neg c] at e
      by_cases c2 : q n = true
      · rw [if_pos c2] at e; omega
      · rw [if_neg c2] at e
        by_cases z : i = n
        · rw [z] at hq; exact absurd hq c2
        · exact cq_all n (fun i hi => h i (by omega)) e i (by omega) hq
/-- one less -/
theorem cq_rm {q : Nat → Bool} {j : Nat} (hq : q j = true) : ∀ m, j < m → cntN (fun i => q i && !(i == j)) m + 1 = cntN q m
  | 0, h => absurd h (Nat.not_lt_zero j)
  | m + 1, h => by
    rw [cq_s, cq_s]
    by_cases z : j = m
    · subst z
      have e : cntN (fun i => q i && !(i == j)) j = cntN q j := cq_cg j (fun i hi => by
        have : (i == j) = false := beq_eq_false_iff_ne.mpr (by omega)
        show (q i && !(i == j)) = q i
        rw [this]; simp)
      rw [if_pos hq, if_neg (by simp), e]
    · have ih := cq_rm hq m (by omega)
      have : (m == j) = false := beq_eq_false_iff_ne.mpr (by omega)
      rw [this]
      by_cases c : q m = true
      · rw [if_pos c, if_pos (by rw [c]; rfl)]; omega
      · rw [if_neg c, if_neg (fun y => c (by rw [Bool.and_eq_true] at y; exact y.1))]; exact ih
/-- what goes into it one to one is no more -/
theorem cq_inj {f : Nat → Nat} {m : Nat} : ∀ n (p q : Nat → Bool), (∀ i, i < n → p i = true → f i < m ∧ q (f i) = true) → (∀ i k, i < n → k < n → p i = true → p k = true → f i = f k → i = k) → cntN p n ≤ cntN q m
  | 0, _, _, _, _ => Nat.zero_le _
  | n + 1, p, q, h, hi => by
    rw [cq_s]
    by_cases c : p n = true
    · rw [if_pos c]
      obtain ⟨h1, h2⟩ := h n (by omega) c
      have e := cq_rm h2 m h1
      have ih := cq_inj (f := f) (m := m) n p (fun i => q i && !(i == f n)) (fun i hin hp => by
        obtain ⟨a1, a2⟩ := h i (by omega) hp
        refine ⟨a1, ?_⟩
        have : (f i == f n) = false := beq_eq_false_iff_ne.mpr (fun z => by
          have := hi i n (by omega) (by omega) hp c z
          omega)
        show (q (f i) && !(f i == f n)) = true
        rw [a2, this]; rfl) (fun i k h3 h4 => hi i k (by omega) (by omega))
      omega
    · rw [if_neg c]
      exact cq_inj n p q (fun i hin => h i (by omega)) (fun i k h3 h4 => hi i k (by omega) (by omega))
theorem ff_none {p : Nat → Bool} : ∀ m g, ffst p g m = none → ∀ k, g ≤ k → k < g + m → p k = false
  | 0, g, _, k, h1, h2 => by omega
  | m + 1, g, h, k, h1, h2 => by
    unfold ffst at h
    split at h
    · cases h
    · rename_i hp
      by_cases e : k = g
      · rw [e]; exact Bool.eq_false_iff.mpr hp
      · exact ff_none m (g + 1) h k (by omega) (by omega)
section SM
variable {s : DS}
theorem bst_hi {g : Nat} (hg : zG s ≤ g) : bst s g = 12 := by unfold bst; rw [if_neg (by omega)]
theorem wk_cnt (hW : DW s) : ∀ n, n ≤ zG s → (wkF s n).2.2.1 = cntN (fun i => !(bst s i == 12)) n
  | 0, _ => rfl
  | n + 1, hn => by
    have ih := wk_cnt hW n (by omega)
    rw [cq_s]
    show (wkS s n (wkF s n)).2.2.1 = _
    rcases bst_ne hW.1 (show n < zG s by omega) with ⟨h1, h2⟩ | ⟨t, h1, h2, h3⟩
    · rw [if_neg (by rw [h2]; decide)]
      unfold wkS
      rw [h1]
      exact ih
    · have : (bst s n == 12) = false := beq_eq_false_iff_ne.mpr (by omega)
      rw [this, if_pos (by rfl)]
      unfold wkS
      rw [h1]
      exact congrArg (· + 1) ih
theorem Mtd.cnt (hW : DW s) (hC : CW s) {A : Nat → Nat} {o : oa_T} (h : Mtd s A o) : cntN (fun i => !(A i == 12)) 10 = (wkF s (zG s)).2.2.1 := by
  rw [wk_cnt hW (zG s) (Nat.le_refl _), cq_cg (q := fun i => !(bst s i == 12)) 10 (fun i hi => by rw [h.isb hW hC i hi])]
  exact cq_ex (fun i hi => by rw [bst_hi hi]; decide) hW.2.1
theorem ag_b (hW : DW s) {A : Nat → Nat} (hb : ∀ g, g < 10 → A g = bst s g) : Agr s A := fun g hg => by
  have hgc := hW.2.1
  have e := hb g (by omega)
  unfold tfO
  rw [e, wkF_at (zG s) hg]
  rcases bst_ne hW.1 hg with ⟨h1, h2⟩ | ⟨t, h1, h2, h3⟩
  · rw [h1, if_pos h2]
  · rw [h1, if_neg (by omega), h2]
theorem Mtd.agr (hW : DW s) (hC : CW s) {A : Nat → Nat} {o : oa_T} (h : Mtd s A o) : Agr s A := ag_b hW (h.isb hW hC)
theorem Mtd.at (hW : DW s) (hC : CW s) {A : Nat → Nat} {o : oa_T} (h : Mtd s A o) : ∀ g, g < zG s → A g ≠ 12 → A g < zT s := fun g hg hne => by
  have hgc := hW.2.1
  have e := h.isb hW hC g (by omega)
  rw [e] at hne ⊢
  rcases bst_ne hW.1 hg with ⟨h1, h2⟩ | ⟨t, h1, h2, h3⟩
  · exact absurd h2 hne
  · rw [h2]; exact (wkT_ok h1).2.1
theorem gpL_none {m : Nat → Option Nat} {t : Nat} : ∀ n, gpL m t n = none → ∀ g, g < n → m g ≠ some t
  | 0, _, g, h => absurd h (Nat.not_lt_zero g)
  | n + 1, h, g, hg => by
    unfold gpL at h
    split at h
    · cases h
    · rename_i hn
      by_cases e : g = n
      · rw [e]; exact hn
      · exact gpL_none n h g (by omega)
theorem gp_b (hW : DW s) (hC : CW s) {A : Nat → Nat} (hb : ∀ g, g < 10 → A g = bst s g) : ∀ t, t < zT s → gpL (wkF s (zG s)).1 t (zG s) = gpA A t := fun t ht => by
  have hgc := hW.2.1
  have htc := hW.1
  have hA := ag_b hW hb
  have hB := bst_VA hW hC
  unfold gpA
  cases h1 : gpL (wkF s (zG s)).1 t (zG s) with
  | some g =>
    obtain ⟨h2, h3⟩ := gpL_lt _ _ h1
    rw [hA g h2] at h3
    obtain ⟨h4, h5⟩ := tf_s h3
    cases h6 : ffst (fun i => !(A i == 12) && A i == t) 0 10 with
    | none =>
      have := ff_none 10 0 h6 g (by omega) (by omega)
      rw [h4] at this
      simp [h5] at this
    | some k =>
      obtain ⟨h7, h8⟩ := ff_lt _ _ _ _ h6
      simp at h8
      by_cases z : g = k
      · rw [z]
      · exfalso
        have h9 := hB.2.2.2 g k (by omega) (by omega) z (by rw [← hb g (by omega), ← hb k (by omega), h4, h8.2])
        rw [← hb g (by omega), h4] at h9
        exact h5 h9
  | none =>
    cases h6 : ffst (fun i => !(A i == 12) && A i == t) 0 10 with
    | none => rfl
    | some k =>
      exfalso
      obtain ⟨h7, h8⟩ := ff_lt _ _ _ _ h6
      simp at h8
      have hk : k < zG s := by
        by_cases z : k < zG s
        · exact z
        · exact absurd (by rw [hb k (by omega)]; exact bst_hi (by omega)) h8.1
      exact gpL_none _ h1 k hk (by rw [hA k hk, tf_y h8.1, h8.2])
theorem Mtd.gp (hW : DW s) (hC : CW s) {A : Nat → Nat} {o : oa_T} (h : Mtd s A o) : ∀ t, t < zT s → gpL (wkF s (zG s)).1 t (zG s) = gpA A t := gp_b hW hC (h.isb hW hC)
theorem wh_b {A B : Nat → Nat} (hW : DW s) (hb : ∀ g, g < 10 → A g = B g) (g9 : Int32) : whA s A g9 = whA s B g9 := by
  unfold whA
  have hgc := hW.2.1
  rcases tix_cases (n := zG s) (by omega) g9 with ⟨e, _⟩ | ⟨j, hj, _, e⟩
  · rw [e]
  · rw [e]
    dsimp only
    unfold tfO
    rw [hb j (by omega)]
theorem gpA_b {A B : Nat → Nat} (hb : ∀ g, g < 10 → A g = B g) (t : Nat) : gpA A t = gpA B t := by
  unfold gpA
  have : ∀ m g, g + m = 10 → ffst (fun i => !(A i == 12) && A i == t) g m = ffst (fun i => !(B i == 12) && B i == t) g m := fun m => by
    induction m with
    | zero => intro g _; rfl
    | succ m ih =>
      intro g hg
      unfold ffst
      rw [hb g (by omega), ih (g + 1) (by omega)]
  exact this 10 0 rfl
theorem sh40 : (((40 : Int32).toInt64 &&& 63).toBitVec.smod 64).toNat = 40 := by decide +kernel
theorem lN_32 {k : Nat} (hk : k < 2 ^ 31) : (lN k).toInt32 = nI k := by
  rw [← nI_l hk]
  exact Int32.toInt32_toInt64 _
theorem p16m {g : Nat} : 12 * 16 ^ (9 - g) < 1099511627776 := by
  have := p16 (g := g)
  have h : 16 ^ (9 - g) ≤ 16 ^ 9 := Nat.pow_le_pow_right (by decide) (by omega)
  have h2 : (16 : Nat) ^ 9 = 68719476736 := by decide
  omega
theorem wk_cost (hW : DW s) (hC : CW s) {A : Nat → Nat} {o : oa_T} (h : Mtd s A o) : ∀ n, n ≤ zG s → ciF o.2.1 A n = (wkF s n).2.2.2
  | 0, _ => rfl
  | n + 1, hn => by
    have hgc := hW.2.1
    have ih := wk_cost hW hC h n (by omega)
    have hb := h.isb hW hC n (by omega)
    have h2 := (Mto.c hW h.o).2.1
    show (if A n = 12 then ciF o.2.1 A n else ciF o.2.1 A n + (o.2.1 n (A n) >>> ((40 : Int32).toInt64 &&& 63)).toInt32) = (wkS s n (wkF s n)).2.2.2
    unfold wkS
    rcases bst_ne hW.1 (show n < zG s by omega) with ⟨h1, h3⟩ | ⟨t, h1, h3, h4⟩
    · rw [h1, hb, if_pos h3]
      exact ih
    · obtain ⟨q1, q2, q3, q4, q5⟩ := wkT_ok h1
      rw [h1, hb, if_neg (by omega), h3, h2 n (by omega) t (by omega)]
      rcases zW_t hC (show n < 10 by omega) h4 with z | ⟨_, _, _, _, k, hk, e, e2⟩
      · exact absurd z (zW_go hC (by omega) (by omega) q1 q2 h4 q4)
      · have hp := p16m (g := n)
        have h9 : t * 16 ^ (9 - n) ≤ 12 * 16 ^ (9 - n) := Nat.mul_le_mul_right _ (by omega)
        show _ = (wkF s n).2.2.2 + zCs s t n
        rw [e2, pf_shr sh40 (by omega), show (k * 1099511627776 + t * 16 ^ (9 - n)) / 2 ^ 40 = k by omega, lN_32 (by omega), ih, e]
theorem Mtd.cost (hW : DW s) (hC : CW s) {A : Nat → Nat} {o : oa_T} (h : Mtd s A o) : ciF o.2.1 A 10 = (wkF s (zG s)).2.2.2 := by
  rw [← wk_cost hW hC h (zG s) (Nat.le_refl _)]
  have hgc := hW.2.1
  have : ∀ k, zG s + k ≤ 10 → ciF o.2.1 A (zG s + k) = ciF o.2.1 A (zG s) := fun k => by
    induction k with
    | zero => intro _; rfl
    | succ k ih =>
      intro hk
      show (if A (zG s + k) = 12 then ciF o.2.1 A (zG s + k) else _) = _
      rw [if_pos (by rw [h.isb hW hC _ (by omega)]; exact bst_hi (by omega))]
      exact ih (by omega)
  have h9 := this (10 - zG s) (by omega)
  rw [show zG s + (10 - zG s) = 10 by omega] at h9
  exact h9
/-! the hall -/
def tkM (s : DS) (set : Nat) : Nat → Nat
  | 0 => 0
  | g + 1 => if set.testBit g ∧ g < zG s ∧ zOp s g = true then tkM s set g ||| mkM s g (zT s) else tkM s set g
theorem tkM_lt (htc : zT s ≤ 12) (set : Nat) : ∀ g, tkM s set g < 2 ^ 12
  | 0 => by show 0 < 2 ^ 12; decide
  | g + 1 => by
    have ih := tkM_lt htc set g
    unfold tkM
    split
    · exact Nat.or_lt_two_pow ih (Nat.lt_of_lt_of_le (mkM_lt s g (zT s)) (Nat.pow_le_pow_right (by decide) htc))
    · exact ih
theorem tkF_M {tks : Nat → Int32} (hk : ∀ i, i < 10 → tks i = if i < zG s ∧ zOp s i = true then nI (mkM s i (zT s)) else 0) (set : Nat) : ∀ g, g ≤ 10 → tkF tks (nI set) g = nI (tkM s set g)
  | 0, _ => rfl
  | g + 1, hg => by
    have ih := tkF_M hk set g (by omega)
    show (if hb_ (nI set) (nI g) then tkF tks (nI set) g ||| tks g else tkF tks (nI set) g) = nI (tkM s set (g + 1))
    unfold tkM
    rw [hb_n (by omega), ih, hk g (by omega)]
    by_cases c : set.testBit g = true
    · rw [if_pos c]
      by_cases c2 : g < zG s ∧ zOp s g = true
      · rw [if_pos c2, if_pos ⟨c, c2⟩, nx_or]
      · rw [if_neg c2, if_neg (fun z => c2 z.2), Int32.or_zero]
    · rw [if_neg c, if_neg (fun z => c z.1)]
theorem and_b {set op : Nat} (h : set &&& op = set) {g : Nat} (hg : set.testBit g = true) : op.testBit g = true := by
  have e : (set &&& op).testBit g = set.testBit g := by rw [h]
  rw [Nat.testBit_and, hg, Bool.true_and] at e
  exact e
theorem hlI_iff {set t : Nat} : ∀ n, hlI s set t n = true ↔ ∃ g, g < n ∧ set.testBit g = true ∧ zGo s t g = true
  | 0 => ⟨fun h => (by cases h), fun ⟨g, h, _⟩ => absurd h (Nat.not_lt_zero g)⟩
  | n + 1 => by
    have ih := hlI_iff (set := set) (t := t) n
    show (hlI s set t n || (set.testBit n && zGo s t n)) = true ↔ _
    rw [Bool.or_eq_true, ih, Bool.and_eq_true]
    constructor
    · rintro (⟨g, h1, h2⟩ | h)
      · exact ⟨g, by omega, h2⟩
      · exact ⟨n, by omega, h⟩
    · rintro ⟨g, h1, h2⟩
      by_cases e : g = n
      · rw [e] at h2; exact Or.inr h2
      · exact Or.inl ⟨g, by omega, h2⟩
theorem tkM_iff {set t : Nat} (hs : set &&& opM s (zG s) = set) : ∀ n, (tkM s set n).testBit t = true ↔ t < zT s ∧ ∃ g, g < n ∧ set.testBit g = true ∧ zGo s t g = true
  | 0 => by
    show (0 : Nat).testBit t = true ↔ _
    rw [Nat.zero_testBit]
    exact ⟨fun h => (by cases h), fun ⟨_, g, h, _⟩ => absurd h (Nat.not_lt_zero g)⟩
  | n + 1 => by
    have ih := tkM_iff (t := t) hs n
    unfold tkM
    by_cases c : set.testBit n = true
    · have h0 := and_b hs c
      rw [opM_b, Bool.and_eq_true, decide_eq_true_iff] at h0
      rw [if_pos ⟨c, h0⟩, Nat.testBit_or, Bool.or_eq_true, ih, mkM_b, Bool.and_eq_true, decide_eq_true_iff]
      constructor
      · rintro (⟨h1, g, h2, h3⟩ | ⟨h1, h2⟩)
        · exact ⟨h1, g, by omega, h3⟩
        · exact ⟨h1, n, by omega, c, h2⟩
      · rintro ⟨h1, g, h2, h3⟩
        by_cases e : g = n
        · rw [e] at h3; exact Or.inr ⟨h1, h3.2⟩
        · exact Or.inl ⟨h1, g, by omega, h3⟩
    · rw [if_neg (fun z => c z.1), ih]
      constructor
      · rintro ⟨h1, g, h2, h3⟩
        exact ⟨h1, g, by omega, h3⟩
      · rintro ⟨h1, g, h2, h3⟩
        by_cases e : g = n
        · rw [e] at h3; exact absurd h3.1 c
        · exact ⟨h1, g, by omega, h3⟩
theorem hlW_c (set : Nat) : ∀ n, hlW s set n = cntN (fun t => hlI s set t (zG s)) n
  | 0 => rfl
  | n + 1 => by
    have ih := hlW_c set n
    show (if hlI s set n (zG s) then hlW s set n + 1 else hlW s set n) = _
    rw [ih]
    rfl
theorem tk_hl (hW : DW s) {set : Nat} (hs : set &&& opM s (zG s) = set) : pcN (tkM s set 10) = hlW s set (zT s) := by
  have htc := hW.1
  have hgc := hW.2.1
  unfold pcN
  rw [hlW_c]
  have e : ∀ t, (tkM s set 10).testBit t = (decide (t < zT s) && hlI s set t (zG s)) := fun t => by
    rw [Bool.eq_iff_iff, tkM_iff hs, Bool.and_eq_true, decide_eq_true_iff, hlI_iff]
    constructor
    · rintro ⟨h1, g, h2, h3⟩
      have h0 := and_b hs h3.1
      rw [opM_b, Bool.and_eq_true, decide_eq_true_iff] at h0
      exact ⟨h1, g, h0.1, h3⟩
    · rintro ⟨h1, g, h2, h3⟩
      exact ⟨h1, g, by omega, h3⟩
  rw [cq_ex (n := zT s) (m := 12) (fun i hi => by rw [e, decide_eq_false (by omega)]; rfl) htc]
  exact cq_cg _ (fun i hi => by rw [e, decide_eq_true hi]; rfl)
theorem and_le {a b : Nat} (h : a &&& b = a) : a ≤ b := by
  rw [← h]
  exact Nat.and_le_right
theorem pc10 {v : Nat} (h : v < 1024) : pcN v ≤ 10 := by
  unfold pcN
  rw [cq_ex (n := 10) (m := 12) (fun i hi => by
    apply Nat.testBit_lt_two_pow
    exact Nat.lt_of_lt_of_le h (show 2 ^ 10 ≤ 2 ^ i from Nat.pow_le_pow_right (by decide) hi)) (by decide)]
  exact cntN_le _ _
theorem fu_hl (hW : DW s) {tks : Nat → Int32} (hk : ∀ i, i < 10 → tks i = if i < zG s ∧ zOp s i = true then nI (mkM s i (zT s)) else 0) : ∀ n, n < 1024 →
    (fuF tks (nI (opM s (zG s))) n).1 = hlF s (opM s (zG s)) n ∧ (fuF tks (nI (opM s (zG s))) n).2 = (if hlF s (opM s (zG s)) n = 0 then 11 else nI (pcN (hlF s (opM s (zG s)) n)))
  | 0, _ => ⟨rfl, rfl⟩
  | n + 1, hn => by
    have htc := hW.1
    have hgc := hW.2.1
    have ho : opM s (zG s) < 2 ^ 10 := Nat.lt_of_lt_of_le (opM_lt s _) (Nat.pow_le_pow_right (by decide) hgc)
    obtain ⟨h1, h2⟩ := fu_hl hW hk n (by omega)
    have hfl := hlF_le s (opM s (zG s)) n
    have hT := tkM_lt (s := s) htc (n + 1) 10
    have hp1 := pc10 hn
    have hp2 := pc10 (show hlF s (opM s (zG s)) n < 1024 by omega)
    have hp3 := pc_le (tkM s (n + 1) 10)
    have e1 : (nI (n + 1) &&& nI (opM s (zG s)) = nI (n + 1)) ↔ (n + 1) &&& opM s (zG s) = n + 1 := by
      rw [nx_and, nI_eq (Nat.lt_of_le_of_lt Nat.and_le_left (by omega)) (by omega)]
    have e2 : (bcv (nI (n + 1)) < (fuF tks (nI (opM s (zG s))) n).2) ↔ (hlF s (opM s (zG s)) n = 0 ∨ pcN (n + 1) < pcN (hlF s (opM s (zG s)) n)) := by
      rw [sz_1 (by omega), h2]
      by_cases c : hlF s (opM s (zG s)) n = 0
      · rw [if_pos c, show (11 : Int32) = nI 11 from rfl, nI_ltI (by omega) (by omega)]
        exact ⟨fun _ => Or.inl c, fun _ => by omega⟩
      · rw [if_neg c, nI_ltI (by omega) (by omega)]
        exact ⟨Or.inr, fun z => z.resolve_left c⟩
    have e3 : (n + 1) &&& opM s (zG s) = n + 1 → ((bcv (tkF tks (nI (n + 1)) 10) < bcv (nI (n + 1))) ↔ hlW s (n + 1) (zT s) < pcN (n + 1)) := fun hs => by
      rw [tkF_M hk (n + 1) 10 (by omega), sz_1 (by omega), sz_1 (by omega), nI_ltI (by omega) (by omega), tk_hl hW hs]
    show (fuS tks (nI (opM s (zG s))) (n + 1) (fuF tks (nI (opM s (zG s))) n)).1 = hlS s (opM s (zG s)) (n + 1) (hlF s (opM s (zG s)) n) ∧ (fuS tks (nI (opM s (zG s))) (n + 1) (fuF tks (nI (opM s (zG s))) n)).2 = (if hlS s (opM s (zG s)) (n + 1) (hlF s (opM s (zG s)) n) = 0 then 11 else nI (pcN (hlS s (opM s (zG s)) (n + 1) (hlF s (opM s (zG s)) n))))
    unfold fuS hlS
    by_cases c : (n + 1) &&& opM s (zG s) = n + 1 ∧ (hlF s (opM s (zG s)) n = 0 ∨ pcN (n + 1) < pcN (hlF s (opM s (zG s)) n)) ∧ hlW s (n + 1) (zT s) < pcN (n + 1)
    · rw [if_pos c, if_pos ⟨e1.mpr c.1, e2.mpr c.2.1, (e3 c.1).mpr c.2.2⟩]
      refine ⟨rfl, ?_⟩
      rw [if_neg (by omega)]
      exact sz_1 (by omega)
    · rw [if_neg c, if_neg (fun z => c ⟨e1.mp z.1, e2.mp z.2.1, (e3 (e1.mp z.1)).mp z.2.2⟩)]
      exact ⟨h1, h2⟩
theorem hlF_hi {op : Nat} : ∀ k, hlF s op (op + k) = hlF s op op
  | 0 => rfl
  | k + 1 => by
    show hlS s op (op + k + 1) (hlF s op (op + k)) = _
    unfold hlS
    rw [if_neg (fun z => by have := and_le z.1; omega)]
    exact hlF_hi k
/-- where all can be filled, no set has fewer takers than gaps -/
theorem hl_ok (hW : DW s) (hC : CW s) (hm : pcN (opM s (zG s)) = (wkF s (zG s)).2.2.1) {set : Nat} (hs : set &&& opM s (zG s) = set) : pcN set ≤ hlW s set (zT s) := by
  have htc := hW.1
  have hgc := hW.2.1
  have hB := bst_VA hW hC
  have hall : ∀ g, g < 12 → (opM s (zG s)).testBit g = true → (!(bst s g == 12)) = true := by
    rw [wk_cnt hW _ (Nat.le_refl _), ← cq_ex (p := fun i => !(bst s i == 12)) (n := zG s) (m := 12) (fun i hi => by rw [bst_hi hi]; decide) (by omega)] at hm
    unfold pcN at hm
    refine cq_all 12 (fun i hi hp => ?_) hm.symm
    have hne : bst s i ≠ 12 := fun z => by rw [z] at hp; exact absurd hp (by decide)
    have hi2 : i < zG s := by
      by_cases z : i < zG s
      · exact z
      · exact absurd (bst_hi (by omega)) hne
    rw [opM_b, decide_eq_true hi2]
    exact (hB.fil hC (by omega) hne).2.1
  rw [hlW_c]
  unfold pcN
  have hne : ∀ g, g < 12 → set.testBit g = true → bst s g ≠ 12 ∧ g < zG s := fun g hg hp => by
    have h1 := hall g hg (and_b hs hp)
    have h0 := and_b hs hp
    rw [opM_b, Bool.and_eq_true, decide_eq_true_iff] at h0
    exact ⟨fun z => by rw [z] at h1; exact absurd h1 (by decide), h0.1⟩
  refine cq_inj (f := bst s) 12 _ _ (fun g hg hp => ?_) (fun g k hg hk hp hq e => ?_)
  · obtain ⟨h1, h2⟩ := hne g hg hp
    obtain ⟨q1, q2, q3, q4, _⟩ := hB.fil hC (by omega) h1
    exact ⟨q3, (hlI_iff _).mpr ⟨g, h2, hp, q4⟩⟩
  · obtain ⟨h1, h2⟩ := hne g hg hp
    obtain ⟨h3, h4⟩ := hne k hk hq
    by_cases z : g = k
    · exact z
    · exact absurd (hB.2.2.2 g k (by omega) (by omega) z e) h1
theorem Mto.hall (hW : DW s) (hC : CW s) {o : oa_T} (h : Mto s o) {o9 : Nat} (h9 : o9 < 1024) (e9 : o.1 = nI o9) : (fuF o.2.2 (nI o9) o9).1 = hlA s := by
  obtain ⟨h1, h2, h3⟩ := Mto.c hW h
  have hgc := hW.2.1
  have hlt := opM_lt s (zG s)
  have ho : opM s (zG s) < 1024 := Nat.lt_of_lt_of_le hlt (show 2 ^ zG s ≤ 2 ^ 10 from Nat.pow_le_pow_right (by decide) hgc)
  rw [h1] at e9
  have e : opM s (zG s) = o9 := n_eq e9
  subst e
  rw [(fu_hl hW h3 _ ho).1]
  unfold hlA
  by_cases c : pcN (opM s (zG s)) = (wkF s (zG s)).2.2.1
  · rw [if_pos c]
    have : ∀ n, hlF s (opM s (zG s)) n = 0 := fun n => by
      induction n with
      | zero => rfl
      | succ n ih =>
        show hlS s (opM s (zG s)) (n + 1) (hlF s (opM s (zG s)) n) = 0
        unfold hlS
        rw [if_neg (fun z => by have := hl_ok hW hC c z.1; omega)]
        exact ih
    exact this _
  · rw [if_neg c, show 2 ^ zG s - 1 = opM s (zG s) + (2 ^ zG s - 1 - opM s (zG s)) by omega, hlF_hi]
end SM
