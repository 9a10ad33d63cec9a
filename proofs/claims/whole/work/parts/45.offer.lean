/-! WHAT THE CLASS OFFERS THE MATCH; the first rows are the kit's, pasted -/
theorem wb_tb (n : Nat) : (lN n).toBitVec = BitVec.ofNat 64 n := rfl
theorem wb_inj {a b : Int64} (h : a.toBitVec = b.toBitVec) : a = b := Int64.toBitVec_inj.mp h
theorem wb_c : ∀ k, k < 64 → ((nI k).toInt64 &&& 63) = lN k := by decide +kernel
theorem wb_sm : ∀ k, k < 64 → (BitVec.ofNat 64 k).smod 64 = BitVec.ofNat 64 k := by decide +kernel
theorem wb_shl (n : Nat) {k : Nat} (hk : k < 64) : lN n <<< ((nI k).toInt64 &&& 63) = lN (n * 2 ^ k) := by
  rw [wb_c k hk]
  apply wb_inj
  rw [Int64.toBitVec_shiftLeft, wb_tb, wb_tb, wb_tb, wb_sm k hk]
  apply BitVec.eq_of_toNat_eq
  rw [BitVec.shiftLeft_eq', BitVec.toNat_shiftLeft, BitVec.toNat_ofNat, BitVec.toNat_ofNat, BitVec.toNat_ofNat, Nat.mod_eq_of_lt (show k < 2 ^ 64 by omega), Nat.shiftLeft_eq, Nat.mul_mod, Nat.mod_mod, ← Nat.mul_mod]
theorem pf_lI {a : Nat} (h : a < 2 ^ 63) : (lN a).toInt = (a : Int) := lg_ofNat_toInt h
theorem pf_shr {a d : Nat} {D : Int64} (hD : (D.toBitVec.smod 64).toNat = d) (h : a < 2 ^ 62) : lN a >>> D = lN (a / 2 ^ d) := by
  have hd : a / 2 ^ d ≤ a := Nat.div_le_self _ _
  apply Int64.toInt_inj.mp
  have e : (lN a >>> D).toInt = (lN a).toInt >>> d := by
    rw [← hD]
    exact BitVec.toInt_sshiftRight ..
  rw [e, Int.shiftRight_eq_div_pow, pf_lI (by omega), pf_lI (by omega)]
  rfl
theorem dgE_e : ∀ g, g < 10 → ∀ t, t < 13 → dgE (nI g) (nI t) = lN (t * 16 ^ (9 - g)) := by decide +kernel
theorem unf_e : ∀ g, g < 10 → mUNF + dgE (nI g) 12 = lN (2305843009213693952 + 12 * 16 ^ (9 - g)) := by decide +kernel
theorem wtE_e {g t k : Nat} (hg : g < 10) (ht : t < 13) (hk : k < 262144) : wtE g t (nI k) = lN (k * 1099511627776 + t * 16 ^ (9 - g)) := by
  unfold wtE
  rw [nI_l (by omega), dgE_e g hg t ht, show (40 : Int32) = nI 40 from rfl, wb_shl k (by decide), lN_add]
def zW (s : DS) (i t : Nat) : Int64 := if i < zG s ∧ zOp s i = true then (if t = 12 then mUNF + dgE (nI i) 12 else if t < zT s ∧ zGo s t i = true then wtE i t (zCs s t i) else -1) else -1
def mkM (s : DS) (g : Nat) : Nat → Nat
  | 0 => 0
  | t + 1 => if zGo s t g then mkM s g t ||| 2 ^ t else mkM s g t
theorem mkM_lt (s : DS) (g : Nat) : ∀ t, mkM s g t < 2 ^ t
  | 0 => by show 0 < 1; decide
  | t + 1 => by
    unfold mkM
    have h := mkM_lt s g t
    have h2 : 2 ^ t < 2 ^ (t + 1) := Nat.pow_lt_pow_right (by decide) (by omega)
    split
    · exact Nat.or_lt_two_pow (by omega) h2
    · omega
theorem mkM_b (s : DS) (g : Nat) : ∀ n t, (mkM s g n).testBit t = (decide (t < n) && zGo s t g)
  | 0, t => by
    show (0 : Nat).testBit t = _
    rw [Nat.zero_testBit]
    simp
  | n + 1, t => by
    unfold mkM
    have ih := mkM_b s g n t
    by_cases c : zGo s n g = true
    · rw [if_pos c, Nat.testBit_or, ih, Nat.testBit_two_pow]
      by_cases e : n = t
      · subst e; simp [c]
      · have : decide (t < n + 1) = decide (t < n) := by
          by_cases h : t < n
          · rw [decide_eq_true h, decide_eq_true (by omega)]
          · rw [decide_eq_false h, decide_eq_false (by omega)]
        rw [this, decide_eq_false e, Bool.or_false]
    · rw [if_neg c, ih]
      by_cases e : n = t
      · subst e; simp [c]
      · have : decide (t < n + 1) = decide (t < n) := by
          by_cases h : t < n
          · rw [decide_eq_true h, decide_eq_true (by omega)]
          · rw [decide_eq_false h, decide_eq_false (by omega)]
        rw [this]
theorem opM_b (s : DS) : ∀ n g, (opM s n).testBit g = (decide (g < n) && zOp s g)
  | 0, g => by
    show (0 : Nat).testBit g = _
    rw [Nat.zero_testBit]
    simp
  | n + 1, t => by
    unfold opM
    have ih := opM_b s n t
    by_cases c : zOp s n = true
    · rw [if_pos c, Nat.testBit_or, ih, Nat.testBit_two_pow]
      by_cases e : n = t
      · subst e; simp [c]
      · have : decide (t < n + 1) = decide (t < n) := by
          by_cases h : t < n
          · rw [decide_eq_true h, decide_eq_true (by omega)]
          · rw [decide_eq_false h, decide_eq_false (by omega)]
        rw [this, decide_eq_false e, Bool.or_false]
    · rw [if_neg c, ih]
      by_cases e : n = t
      · subst e; simp [c]
      · have : decide (t < n + 1) = decide (t < n) := by
          by_cases h : t < n
          · rw [decide_eq_true h, decide_eq_true (by omega)]
          · rw [decide_eq_false h, decide_eq_false (by omega)]
        rw [this]
section OFF
variable {s : DS} {num : Nat → Int32}
theorem go_e (hnum : ∀ j, j < 7 → num j = zr s j) (g t : Nat) : goB (zf s) (zm s) (fun k => nI (zg s g k)) num (zg s g 0) (zD s) t = zGo s t g := by
  unfold goB zGo zFl
  rw [flB_cong hnum]
theorem otF_c (hnum : ∀ j, j < 7 → num j = zr s j) (g : Nat) (W : Nat → Nat → Int64) (K : Nat → Int32) : ∀ m, m ≤ 12 →
    (∀ i, i ≠ g → (otF (zf s) (zm s) (fun k => nI (zg s g k)) num (zg s g 0) (zD s) g m (W, K)).1 i = W i) ∧ (∀ t, (otF (zf s) (zm s) (fun k => nI (zg s g k)) num (zg s g 0) (zD s) g m (W, K)).1 g t = if t < m ∧ zGo s t g = true then wtE g t (zCs s t g) else W g t) ∧
    (∀ i, i ≠ g → (otF (zf s) (zm s) (fun k => nI (zg s g k)) num (zg s g 0) (zD s) g m (W, K)).2 i = K i) ∧ (otF (zf s) (zm s) (fun k => nI (zg s g k)) num (zg s g 0) (zD s) g m (W, K)).2 g = K g ||| nI (mkM s g m)
  | 0, _ => ⟨fun _ _ => rfl, fun t => (if_neg (fun z => absurd z.1 (Nat.not_lt_zero t))).symm, fun _ _ => rfl, by show K g = K g ||| 0; rw [Int32.or_zero]⟩
  | m + 1, hm => by
    obtain ⟨h1, h2, h3, h4⟩ := otF_c hnum g W K m (by omega)
    show (∀ i, i ≠ g → (otS (zf s) (zm s) (fun k => nI (zg s g k)) num (zg s g 0) (zD s) g m (otF (zf s) (zm s) (fun k => nI (zg s g k)) num (zg s g 0) (zD s) g m (W, K))).1 i = W i) ∧ (∀ t, (otS (zf s) (zm s) (fun k => nI (zg s g k)) num (zg s g 0) (zD s) g m (otF (zf s) (zm s) (fun k => nI (zg s g k)) num (zg s g 0) (zD s) g m (W, K))).1 g t = _) ∧ (∀ i, i ≠ g → (otS (zf s) (zm s) (fun k => nI (zg s g k)) num (zg s g 0) (zD s) g m (otF (zf s) (zm s) (fun k => nI (zg s g k)) num (zg s g 0) (zD s) g m (W, K))).2 i = K i) ∧ (otS (zf s) (zm s) (fun k => nI (zg s g k)) num (zg s g 0) (zD s) g m (otF (zf s) (zm s) (fun k => nI (zg s g k)) num (zg s g 0) (zD s) g m (W, K))).2 g = K g ||| nI (if zGo s m g then mkM s g m ||| 2 ^ m else mkM s g m)
    revert h1 h2 h3 h4
    generalize otF (zf s) (zm s) (fun k => nI (zg s g k)) num (zg s g 0) (zD s) g m (W, K) = r
    intro h1 h2 h3 h4
    unfold otS
    rw [go_e hnum]
    by_cases c : zGo s m g = true
    · rw [if_pos c, if_pos c]
      refine ⟨fun i hi => ?_, fun t => ?_, fun i hi => ?_, ?_⟩
      · show va_up r.1 g _ i = W i
        rw [va_up_n _ _ hi]; exact h1 i hi
      · show va_up r.1 g (vp_updL (r.1 g) m (wtE g m (csI (zf s m) (zm s m) (fun k => nI (zg s g k)) num (zg s g 0)))) g t = _
        rw [va_up_s]
        by_cases e : t = m
        · subst e
          rw [updL_s, if_pos ⟨by omega, c⟩]
          unfold zCs
          rw [csI_cong hnum]
        · rw [pk_uLn e, h2 t]
          by_cases c2 : t < m ∧ zGo s t g = true
          · rw [if_pos c2, if_pos ⟨by omega, c2.2⟩]
          · rw [if_neg c2, if_neg (fun z => c2 ⟨by omega, z.2⟩)]
      · show upd r.2 g _ i = K i
        rw [pk_un hi]; exact h3 i hi
      · show upd r.2 g (r.2 g ||| ((1 : Int32) <<< (nI m &&& 31))) g = _
        rw [pk_us, h4, Int32.or_assoc, or_sl (by omega)]
    · rw [if_neg c, if_neg c]
      refine ⟨h1, fun t => ?_, h3, h4⟩
      rw [h2 t]
      by_cases c2 : t < m ∧ zGo s t g = true
      · rw [if_pos c2, if_pos ⟨by omega, c2.2⟩]
      · rw [if_neg c2, if_neg (fun z => c2 ⟨by
          by_cases e : t = m
          · subst e; exact absurd z.2 c
          · omega, z.2⟩)]
theorem oaF_c (hnum : ∀ j, j < 7 → num j = zr s j) (htc : zT s ≤ 12) (hgc : zG s ≤ 10) (w0 : Nat → Nat → Int64) (k0 : Nat → Int32) : ∀ n, n ≤ zG s →
    (oaF (zT s) (zD s) (zf s) (zm s) (zg s) num n (0, clW w0 10, fillN k0 10 0)).1 = nI (opM s n) ∧ (∀ i, i < 10 → ∀ t, t ≤ 12 → (oaF (zT s) (zD s) (zf s) (zm s) (zg s) num n (0, clW w0 10, fillN k0 10 0)).2.1 i t = if i < n then zW s i t else -1) ∧
    (∀ i, i < 10 → (oaF (zT s) (zD s) (zf s) (zm s) (zg s) num n (0, clW w0 10, fillN k0 10 0)).2.2 i = if i < n ∧ zOp s i = true then nI (mkM s i (zT s)) else 0)
  | 0, _ => ⟨rfl, fun i hi t ht => by
      rw [if_neg (Nat.not_lt_zero i)]
      show clW w0 10 i t = -1
      unfold clW
      rw [if_pos hi]
      exact if_pos (by omega), fun i hi => by
      rw [if_neg (fun z => Nat.not_lt_zero i z.1)]
      exact if_pos hi⟩
  | n + 1, hn => by
    obtain ⟨h1, h2, h3⟩ := oaF_c hnum htc hgc w0 k0 n (by omega)
    show (oaS (zT s) (zD s) (zf s) (zm s) (zg s) num n (oaF (zT s) (zD s) (zf s) (zm s) (zg s) num n (0, clW w0 10, fillN k0 10 0))).1 = nI (if zOp s n then opM s n ||| 2 ^ n else opM s n) ∧ (∀ i, i < 10 → ∀ t, t ≤ 12 → (oaS (zT s) (zD s) (zf s) (zm s) (zg s) num n (oaF (zT s) (zD s) (zf s) (zm s) (zg s) num n (0, clW w0 10, fillN k0 10 0))).2.1 i t = _) ∧ (∀ i, i < 10 → (oaS (zT s) (zD s) (zf s) (zm s) (zg s) num n (oaF (zT s) (zD s) (zf s) (zm s) (zg s) num n (0, clW w0 10, fillN k0 10 0))).2.2 i = _)
    revert h1 h2 h3
    generalize oaF (zT s) (zD s) (zf s) (zm s) (zg s) num n (0, clW w0 10, fillN k0 10 0) = r
    intro h1 h2 h3
    unfold oaS
    cases ho : opB (zf s) (zT s) n with
    | some t0 =>
      have hz : ¬ zOp s n = true := by unfold zOp; rw [ho]; simp
      dsimp only
      rw [if_neg hz]
      refine ⟨h1, fun i hi t ht => ?_, fun i hi => ?_⟩
      · rw [h2 i hi t ht]
        by_cases c : i < n
        · rw [if_pos c, if_pos (by omega)]
        · rw [if_neg c]
          by_cases e : i = n
          · subst e
            rw [if_pos (by omega)]
            unfold zW
            rw [if_neg (fun z => hz z.2)]
          · rw [if_neg (by omega)]
      · rw [h3 i hi]
        by_cases c : i < n ∧ zOp s i = true
        · rw [if_pos c, if_pos ⟨by omega, c.2⟩]
        · rw [if_neg c, if_neg (fun z => c ⟨by
            by_cases e : i = n
            · subst e; exact absurd z.2 hz
            · omega, z.2⟩)]
    | none =>
      have hz : zOp s n = true := by unfold zOp; rw [ho]; rfl
      dsimp only
      rw [if_pos hz]
      obtain ⟨q1, q2, q3, q4⟩ := otF_c hnum n (va_up r.2.1 n (vp_updL (r.2.1 n) 12 (mUNF + dgE (nI n) 12))) r.2.2 (zT s) htc
      refine ⟨by rw [h1, or_sl (by omega)], fun i hi t ht => ?_, fun i hi => ?_⟩
      · by_cases e : i = n
        · subst e
          have e9 : zW s i t = if t = 12 then mUNF + dgE (nI i) 12 else if t < zT s ∧ zGo s t i = true then wtE i t (zCs s t i) else -1 := if_pos ⟨by omega, hz⟩
          rw [q2 t, if_pos (show i < i + 1 by omega), va_up_s, e9]
          by_cases e2 : t = 12
          · subst e2
            rw [if_neg (show ¬ (12 < zT s ∧ zGo s 12 i = true) from fun z => by have := z.1; omega), updL_s, if_pos rfl]
          · rw [if_neg e2, pk_uLn e2, h2 i hi t ht, if_neg (Nat.lt_irrefl i)]
        · rw [q1 i e, va_up_n _ _ e, h2 i hi t ht]
          by_cases c : i < n
          · rw [if_pos c, if_pos (by omega)]
          · rw [if_neg c, if_neg (by omega)]
      · by_cases e : i = n
        · subst e
          rw [q4, h3 i hi, if_neg (fun z => Nat.lt_irrefl i z.1), if_pos ⟨by omega, hz⟩, Int32.zero_or]
        · rw [q3 i e, h3 i hi]
          by_cases c : i < n ∧ zOp s i = true
          · rw [if_pos c, if_pos ⟨by omega, c.2⟩]
          · rw [if_neg c, if_neg (fun z => c ⟨by omega, z.2⟩)]
end OFF
/-- what a cost can be -/
def CW (s : DS) : Prop := ∀ t, t < zT s → ∀ g, g < zG s → ∃ k, k < 209715 ∧ zCs s t g = nI k
theorem Mto.c {s : DS} (hW : DW s) {o : oa_T} (h : Mto s o) : o.1 = nI (opM s (zG s)) ∧ (∀ i, i < 10 → ∀ t, t ≤ 12 → o.2.1 i t = zW s i t) ∧ ∀ i, i < 10 → o.2.2 i = if i < zG s ∧ zOp s i = true then nI (mkM s i (zT s)) else 0 := by
  obtain ⟨num, w, tks, hnum, rfl⟩ := h
  obtain ⟨h1, h2, h3⟩ := oaF_c hnum hW.1 hW.2.1 w tks (zG s) (Nat.le_refl _)
  refine ⟨h1, fun i hi t ht => ?_, h3⟩
  rw [show mtO (zT s) (zG s) (zD s) (zf s) (zm s) (zg s) num w tks = oaF (zT s) (zD s) (zf s) (zm s) (zg s) num (zG s) (0, clW w 10, fillN tks 10 0) from rfl, h2 i hi t ht]
  by_cases c : i < zG s
  · rw [if_pos c]
  · rw [if_neg c]
    unfold zW
    rw [if_neg (fun z => c z.1)]
theorem Mtd.o {s : DS} {A : Nat → Nat} {o : oa_T} (h : Mtd s A o) : Mto s o := by
  obtain ⟨num, w, tks, a, tl, par, h1, h2, h3, h4, h5⟩ := h
  exact ⟨num, w, tks, h1, h4⟩
theorem hO_ok {s : DS} (hW : DW s) : ∀ o, Mto s o → ∃ o9, o9 < 1024 ∧ o.1 = nI o9 := fun o h => ⟨opM s (zG s), Nat.lt_of_lt_of_le (opM_lt s _) (show 2 ^ zG s ≤ 2 ^ 10 from Nat.pow_le_pow_right (by decide) hW.2.1), (Mto.c hW h).1⟩
theorem lN_m1 {n : Nat} (h : n < 2 ^ 63) : lN n ≠ -1 := fun z => by
  have := pf_lI h
  rw [z, m1_I] at this
  omega
theorem zW_12 {s : DS} {g : Nat} (hg : g < 10) : zW s g 12 ≠ -1 ↔ (g < zG s ∧ zOp s g = true) := by
  unfold zW
  have hp := p16 (g := g)
  by_cases c : g < zG s ∧ zOp s g = true
  · rw [if_pos c, if_pos rfl, unf_e g hg]
    exact ⟨fun _ => c, fun _ => lN_m1 (by omega)⟩
  · rw [if_neg c]
    exact ⟨fun z => absurd rfl z, fun z => absurd z c⟩
theorem zW_t {s : DS} (hC : CW s) {g t : Nat} (hg : g < 10) (ht : t < 12) : zW s g t = -1 ∨ (g < zG s ∧ zOp s g = true ∧ t < zT s ∧ zGo s t g = true ∧ ∃ k, k < 209715 ∧ zCs s t g = nI k ∧ zW s g t = lN (k * 1099511627776 + t * 16 ^ (9 - g))) := by
  unfold zW
  by_cases c : g < zG s ∧ zOp s g = true
  · rw [if_pos c, if_neg (by omega)]
    by_cases c2 : t < zT s ∧ zGo s t g = true
    · rw [if_pos c2]
      obtain ⟨k, hk, e⟩ := hC t c2.1 g c.1
      exact Or.inr ⟨c.1, c.2, c2.1, c2.2, k, hk, e, by rw [e]; exact wtE_e hg (by omega) (by omega)⟩
    · rw [if_neg c2]
      exact Or.inl rfl
  · rw [if_neg c]
    exact Or.inl rfl
theorem zW_go {s : DS} (hC : CW s) {g t : Nat} (hg : g < zG s) (hg10 : g < 10) (ho : zOp s g = true) (ht : t < zT s) (ht12 : t < 12) (hgo : zGo s t g = true) : zW s g t ≠ -1 := by
  unfold zW
  rw [if_pos ⟨hg, ho⟩, if_neg (by omega), if_pos ⟨ht, hgo⟩]
  obtain ⟨k, hk, e⟩ := hC t ht g hg
  have hp := p16 (g := g)
  have h4 : t * 16 ^ (9 - g) ≤ 12 * 16 ^ (9 - g) := Nat.mul_le_mul_right _ (by omega)
  rw [e, wtE_e hg10 (by omega) (by omega)]
  exact lN_m1 (by omega)
theorem WL_zW {s : DS} (hC : CW s) {w : Nat → Nat → Int64} (hw : ∀ i, i < 10 → ∀ t, t ≤ 12 → w i t = zW s i t) : WL w := by
  refine ⟨fun g t => (zCs s t g).toInt.toNat, fun g hg => ?_⟩
  have hp := p16 (g := g)
  by_cases c : g < zG s ∧ zOp s g = true
  · refine Or.inr ⟨?_, fun t ht => ?_⟩
    · rw [hw g hg 12 (Nat.le_refl _)]
      unfold zW
      rw [if_pos c, if_pos rfl, unf_e g hg, pf_lI (by omega)]
    · rw [hw g hg t (by omega)]
      rcases zW_t hC hg ht with h | ⟨h1, h2, h3, h4, k, hk, e, e2⟩
      · exact Or.inl h
      · right
        have h9 : t * 16 ^ (9 - g) ≤ 12 * 16 ^ (9 - g) := Nat.mul_le_mul_right _ (by omega)
        show (zCs s t g).toInt.toNat < 262144 ∧ (zW s g t).toInt = (((zCs s t g).toInt.toNat * 1099511627776 + t * 16 ^ (9 - g) : Nat) : Int)
        rw [e2, e, nI_toInt (by omega)]
        exact ⟨by show ((k : Int)).toNat < _; rw [Int.toNat_natCast]; omega, by rw [pf_lI (by omega), Int.toNat_natCast]⟩
  · refine Or.inl (fun t ht => ?_)
    rw [hw g hg t ht]
    unfold zW
    rw [if_neg c]
/-- THE CLASS'S MATCH is the assignment of least weight -/
theorem Mtd.um {s : DS} (hW : DW s) (hC : CW s) {A : Nat → Nat} {o : oa_T} (h : Mtd s A o) : UM o.2.1 10 A := by
  obtain ⟨h1, h2, h3⟩ := Mto.c hW h.o
  have hL := WL_zW hC h2
  obtain ⟨num, w, tks, a, tl, par, _, _, _, _, rfl⟩ := h
  refine (solve_ok hL (og := o.1) (fun g hg => ?_) (s := (fillN a 10 12, 0, tl, par)) (fun g hg => if_pos hg) rfl 10 (Nat.le_refl _)).1
  rw [h1, hb_n (by omega), opM_b, h2 g hg 12 (Nat.le_refl _), zW_12 hg, Bool.and_eq_true, decide_eq_true_iff]
