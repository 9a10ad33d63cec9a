/-! THE MATCH, as numbers: sums, counts, the shift along a chain -/
def sF (f : Nat → Int) : Nat → Int
  | 0 => 0
  | n + 1 => sF f n + f n
theorem sF_cg {f g : Nat → Int} : ∀ {n : Nat}, (∀ i, i < n → g i = f i) → sF g n = sF f n
  | 0, _ => rfl
  | n + 1, h => by
    show sF g n + g n = sF f n + f n
    rw [sF_cg (fun i hi => h i (by omega)), h n (by omega)]
theorem sF_up {f g : Nat → Int} {h : Nat} : ∀ {n : Nat}, h < n → (∀ i, i < n → i ≠ h → g i = f i) → sF g n = sF f n - f h + g h
  | 0, hh, _ => absurd hh (Nat.not_lt_zero h)
  | n + 1, hh, e => by
    show sF g n + g n = sF f n + f n - f h + g h
    by_cases c : h = n
    · subst c
      rw [sF_cg (f := f) (fun i hi => e i (by omega) (by omega))]
      omega
    · rw [sF_up (f := f) (h := h) (by omega) (fun i hi hne => e i (by omega) hne), e n (by omega) (fun z => c z.symm)]
      omega
theorem sF_le {f : Nat → Int} {M : Int} : ∀ {n : Nat}, (∀ i, i < n → f i ≤ M) → sF f n ≤ n * M
  | 0, _ => by show (0 : Int) ≤ _; rw [show ((0 : Nat) : Int) = 0 from rfl, Int.zero_mul]; omega
  | n + 1, h => by
    have h1 := sF_le (n := n) (fun i hi => h i (by omega))
    have h2 := h n (by omega)
    show sF f n + f n ≤ ((n + 1 : Nat) : Int) * M
    rw [Int.natCast_add, Int.add_mul, Int.natCast_one, Int.one_mul]
    omega
theorem sF_nn {f : Nat → Int} : ∀ {n : Nat}, (∀ i, i < n → 0 ≤ f i) → 0 ≤ sF f n
  | 0, _ => Int.le_refl 0
  | n + 1, h => by
    have h1 := sF_nn (n := n) (fun i hi => h i (by omega))
    have h2 := h n (by omega)
    show 0 ≤ sF f n + f n
    omega
theorem cnt_cg {p q : Nat → Bool} : ∀ {n : Nat}, (∀ i, i < n → q i = p i) → cntN q n = cntN p n
  | 0, _ => rfl
  | n + 1, h => by
    unfold cntN
    rw [cnt_cg (p := p) (fun i hi => h i (by omega)), h n (by omega)]
theorem cnt_flip {p q : Nat → Bool} {h : Nat} : ∀ {n : Nat}, h < n → p h = true → q h = false → (∀ i, i < n → i ≠ h → q i = p i) → cntN q n + 1 = cntN p n
  | 0, hh, _, _, _ => absurd hh (Nat.not_lt_zero h)
  | n + 1, hh, hp, hq, e => by
    unfold cntN
    by_cases c : h = n
    · subst c
      rw [cnt_cg (p := p) (fun i hi => e i (by omega) (by omega)), hp, hq]
      rfl
    · have h1 := cnt_flip (p := p) (q := q) (n := n) (by omega) hp hq (fun i hi hne => e i (by omega) hne)
      rw [e n (by omega) (fun z => c z.symm)]
      split <;> omega
theorem cnt_le (p : Nat → Bool) : ∀ n, cntN p n ≤ n
  | 0 => Nat.le_refl 0
  | n + 1 => by
    have := cnt_le p n
    unfold cntN
    split <;> omega
def vl (w : Nat → Nat → Int64) (g t : Nat) : Int := if w g t = -1 then 0 else (w g t).toInt
def VA (w : Nat → Nat → Int64) (n : Nat) (a : Nat → Nat) : Prop := (∀ g, g < 10 → a g ≤ 12) ∧ (∀ g, n ≤ g → g < 10 → a g = 12) ∧ (∀ g, g < 10 → a g ≠ 12 → w g (a g) ≠ -1) ∧ ∀ g h, g < 10 → h < 10 → g ≠ h → a g = a h → a g = 12
def Wt (u : Nat → Nat → Int) (n : Nat) (a : Nat → Nat) : Int := sF (fun g => u g (a g)) n
/-- a is the one assignment of least weight -/
def UM (w : Nat → Nat → Int64) (n : Nat) (a : Nat → Nat) : Prop := VA w n a ∧ ∀ b, VA w n b → (∃ g, g < 10 ∧ b g ≠ a g) → Wt (vl w) n a < Wt (vl w) n b
theorem Wt_up (u : Nat → Nat → Int) {n : Nat} (a : Nat → Nat) {h : Nat} (t : Nat) (hh : h < n) : Wt u n (va_up a h t) = Wt u n a - u h (a h) + u h t := by
  unfold Wt
  rw [sF_up (f := fun g => u g (a g)) (h := h) hh (fun i _ hne => by rw [va_up_n _ _ hne]), va_up_s]
theorem Wt_out (u : Nat → Nat → Int) {n : Nat} (a : Nat → Nat) {h : Nat} (t : Nat) (hh : n ≤ h) : Wt u n (va_up a h t) = Wt u n a := by
  unfold Wt
  exact sF_cg (fun i hi => by rw [va_up_n _ _ (by omega)])
/-- one gap is given another teacher -/
theorem VA.up {w : Nat → Nat → Int64} {n : Nat} {a : Nat → Nat} (hA : VA w n a) {h c : Nat} (hh : h < n) (hc : c = 12 ∨ (c < 12 ∧ w h c ≠ -1 ∧ ∀ i, i < 10 → a i ≠ c)) : VA w n (va_up a h c) := by
  refine ⟨fun g hg => ?_, fun g h1 hg => ?_, fun g hg hne => ?_, fun g g2 hg hg2 hne e => ?_⟩
  · by_cases e : g = h
    · rw [e, va_up_s]; omega
    · rw [va_up_n _ _ e]; exact hA.1 g hg
  · rw [va_up_n _ _ (by omega)]; exact hA.2.1 g h1 hg
  · by_cases e : g = h
    · subst e
      rw [va_up_s] at hne ⊢
      rcases hc with hc | hc
      · exact absurd hc hne
      · exact hc.2.1
    · rw [va_up_n _ _ e] at hne ⊢
      exact hA.2.2.1 g hg hne
  · by_cases e1 : g = h
    · subst e1
      rw [va_up_s, va_up_n _ _ (fun z => hne z.symm)] at e
      rw [va_up_s]
      rcases hc with hc | hc
      · exact hc
      · exact absurd e.symm (hc.2.2 g2 hg2)
    · by_cases e2 : g2 = h
      · subst e2
        rw [va_up_s, va_up_n _ _ e1] at e
        rw [va_up_n _ _ e1, e]
        rcases hc with hc | hc
        · exact hc
        · exact absurd e (hc.2.2 g hg)
      · rw [va_up_n _ _ e1, va_up_n _ _ e2] at e
        rw [va_up_n _ _ e1]
        exact hA.2.2.2 g g2 hg hg2 hne e
theorem VA.mono {w : Nat → Nat → Int64} {n : Nat} {a : Nat → Nat} (hA : VA w n a) : VA w (n + 1) a := ⟨hA.1, fun g h1 hg => hA.2.1 g (by omega) hg, hA.2.2.1, hA.2.2.2⟩
theorem shF_h (n : Nat) (par : Nat → Option Nat) : ∀ (m : Nat) (s : sh_T), shF n par (m + 1) s = shF n par m (shS n par s)
  | 0, s => rfl
  | m + 1, s => by
    show shS n par (shF n par (m + 1) s) = shS n par (shF n par m (shS n par s))
    rw [shF_h n par m s]
theorem shF_0 (n : Nat) (par : Nat → Option Nat) (y : Nat → Nat) (c : Nat) : ∀ (m : Nat), shF n par m (y, none, c) = (y, none, c)
  | 0 => rfl
  | m + 1 => by
    show shS n par (shF n par m (y, none, c)) = _
    rw [shF_0 n par y c m]
    rfl
theorem shift {n : Nat} (hn : n ≤ 9) {w : Nat → Nat → Int64} {a : Nat → Nat} (hU : UM w n a) {par : Nat → Option Nat} {R : Nat → Prop} {D : Nat → Int} (hD0 : D n = 0)
    (hP : ∀ h, h < n → R h → ∃ g, par h = some g ∧ g ≤ n ∧ g ≠ h ∧ R g ∧ a h ≠ 12 ∧ w g (a h) ≠ -1 ∧ D g + vl w g (a h) - vl w h (a h) ≤ D h)
    {u : Nat → Nat → Int} (hu : ∀ g t, t ≠ 12 → u g t = vl w g t) {B : Int} :
    ∀ (m : Nat) (y : Nat → Nat) (g c : Nat), cntN (fun h => y h == a h) n < m → g ≤ n → R g → VA w n y → (c = 12 ∨ (c < 12 ∧ w g c ≠ -1 ∧ ∀ i, i < 10 → y i ≠ c)) → Wt u n y + u g c + D g ≤ B → (g < n → y g = a g) →
    (∀ v, v < n → y v ≠ a v → ∃ x, VA w n x ∧ x v = 12 ∧ (∀ h, h < 10 → x h ≠ c) ∧ (∀ h, h < n → h ≠ v → x h = y h ∨ x h = a h) ∧ Wt (vl w) n x - vl w v 12 + vl w g c + D g ≤ Wt (vl w) n a + D v) →
    VA w (n + 1) (shF n par m (y, some g, c)).1 ∧ Wt u (n + 1) (shF n par m (y, some g, c)).1 ≤ B ∧ ∀ t, t ≠ 12 → ((∃ h, h < 10 ∧ (shF n par m (y, some g, c)).1 h = t) ↔ (∃ h, h < 10 ∧ y h = t) ∨ c = t) := by
  intro m
  induction m with
  | zero => intro y g c h1; exact absurd h1 (Nat.not_lt_zero _)
  | succ m ih =>
    intro y g c hm hg hR hy hc hB hyg hX
    rw [shF_h]
    by_cases e : g = n
    · subst e
      rw [show shS g par (y, some g, c) = (va_up y g c, none, y g) by unfold shS; simp, shF_0]
      have hyn : y g = 12 := hy.2.1 g (Nat.le_refl g) (by omega)
      show VA w (g + 1) (va_up y g c) ∧ Wt u (g + 1) (va_up y g c) ≤ B ∧ ∀ t, t ≠ 12 → ((∃ h, h < 10 ∧ va_up y g c h = t) ↔ (∃ h, h < 10 ∧ y h = t) ∨ c = t)
      refine ⟨hy.mono.up (by omega) hc, ?_, fun t ht => ?_⟩
      · show sF (fun i => u i (va_up y g c i)) g + u g (va_up y g c g) ≤ B
        have h1 := Wt_out u y (h := g) c (Nat.le_refl g)
        unfold Wt at h1
        rw [h1, va_up_s]
        have hB2 : sF (fun i => u i (y i)) g + u g c + D g ≤ B := hB
        omega
      · constructor
        · rintro ⟨h, hh, e2⟩
          by_cases e3 : h = g
          · subst e3; rw [va_up_s] at e2; exact Or.inr e2
          · rw [va_up_n _ _ e3] at e2; exact Or.inl ⟨h, hh, e2⟩
        · rintro (⟨h, hh, e2⟩ | e2)
          · refine ⟨h, hh, ?_⟩
            rw [va_up_n _ _ (show h ≠ g from fun z => by rw [z, hyn] at e2; exact ht e2.symm)]
            exact e2
          · exact ⟨g, by omega, by rw [va_up_s]; exact e2⟩
    · have hgn : g < n := by omega
      obtain ⟨g2, hp1, hp2, hp3, hp4, hp5, hp6, hp7⟩ := hP g hgn hR
      have hya := hyg hgn
      have hca : c ≠ a g := fun z => by
        rcases hc with hc | hc
        · exact hp5 (by rw [← z, hc])
        · exact hc.2.2 g (by omega) (by rw [hya, z])
      have hag : a g < 12 := by
        have := hU.1.1 g (by omega)
        omega
      rw [show shS n par (y, some g, c) = (va_up y g c, some g2, a g) by unfold shS; simp [e, hp1, hya]]
      have huse : ∀ i, i < 10 → va_up y g c i ≠ a g := fun i hi z => by
        by_cases e3 : i = g
        · subst e3; rw [va_up_s] at z; exact hca z
        · rw [va_up_n _ _ e3] at z
          have := hy.2.2.2 i g hi (by omega) e3 (by rw [z, hya])
          rw [z] at this
          exact hp5 this
      have hrev : g2 < n → va_up y g c g2 = a g2 := fun h2n => by
        rw [va_up_n _ _ hp3]
        by_cases c9 : y g2 = a g2
        · exact c9
        exfalso
        obtain ⟨x, x1, x2, x3, x4, x5⟩ := hX g2 h2n c9
        have c12 : c ≠ 12 := fun z => x3 g2 (by omega) (by rw [x2, z])
        have hcv : c < 12 ∧ w g c ≠ -1 ∧ ∀ i, i < 10 → y i ≠ c := hc.resolve_left c12
        have hxg : x g = a g := (x4 g hgn (Ne.symm hp3)).elim (fun z => z.trans hya) id
        -- x with c at g, then the hole g2 filled with a g
        have hv1 : VA w n (va_up x g c) := x1.up hgn (Or.inr ⟨hcv.1, hcv.2.1, x3⟩)
        have hun : ∀ i, i < 10 → va_up x g c i ≠ a g := fun i hi z => by
          by_cases e3 : i = g
          · subst e3; rw [va_up_s] at z; exact hca z
          · rw [va_up_n _ _ e3] at z
            have := x1.2.2.2 i g hi (by omega) e3 (by rw [z, hxg])
            rw [z] at this
            exact hp5 this
        have hv2 : VA w n (va_up (va_up x g c) g2 (a g)) := hv1.up h2n (Or.inr ⟨hag, hp6, hun⟩)
        have hs1 := Wt_up (vl w) x c hgn
        have hs2 := Wt_up (vl w) (va_up x g c) (a g) h2n
        rw [va_up_n _ _ hp3, x2] at hs2
        rw [hxg] at hs1
        have hne : ∃ i, i < 10 ∧ va_up (va_up x g c) g2 (a g) i ≠ a i := ⟨g2, by omega, fun z => by
          rw [va_up_s] at z
          exact hp5 (hU.1.2.2.2 g g2 (by omega) (by omega) (Ne.symm hp3) z)⟩
        have := hU.2 _ hv2 hne
        omega
      have h9 := ih (va_up y g c) g2 (a g) (by
          have := cnt_flip (p := fun h => y h == a h) (q := fun h => va_up y g c h == a h) hgn (by simp [hya]) (by simp [va_up_s, hca]) (fun i hi hne => by show (va_up y g c i == a i) = (y i == a i); rw [va_up_n _ _ hne])
          omega) hp2 hp4 (hy.up hgn hc) (Or.inr ⟨hag, hp6, huse⟩) (by
          rw [Wt_up u y c hgn, hya, hu g (a g) hp5, hu g2 (a g) hp5]
          omega) hrev (fun v hv hvne => by
          by_cases e3 : v = g
          · subst e3
            refine ⟨va_up a v 12, hU.1.up hv (Or.inl rfl), va_up_s _ _ _, fun h hh z => ?_, fun h hh hne => Or.inr (va_up_n _ _ hne), ?_⟩
            · by_cases e4 : h = v
              · subst e4; rw [va_up_s] at z; exact hp5 z.symm
              · rw [va_up_n _ _ e4] at z
                have := hU.1.2.2.2 h v hh (by omega) e4 z
                rw [z] at this
                exact hp5 this
            · rw [Wt_up (vl w) a 12 hv]
              omega
          · rw [va_up_n _ _ e3] at hvne
            obtain ⟨x, x1, x2, x3, x4, x5⟩ := hX v hv hvne
            have c12 : c ≠ 12 := fun z => x3 v (by omega) (by rw [x2, z])
            have hcv : c < 12 ∧ w g c ≠ -1 ∧ ∀ i, i < 10 → y i ≠ c := hc.resolve_left c12
            have hxg : x g = a g := (x4 g hgn (Ne.symm e3)).elim (fun z => z.trans hya) id
            refine ⟨va_up x g c, x1.up hgn (Or.inr ⟨hcv.1, hcv.2.1, x3⟩), by rw [va_up_n _ _ e3]; exact x2, fun h hh z => ?_, fun h hh hne => ?_, ?_⟩
            · by_cases e4 : h = g
              · subst e4; rw [va_up_s] at z; exact hca z
              · rw [va_up_n _ _ e4] at z
                have := x1.2.2.2 h g hh (by omega) e4 (by rw [z, hxg])
                rw [z] at this
                exact hp5 this
            · by_cases e4 : h = g
              · subst e4; exact Or.inl (by rw [va_up_s, va_up_s])
              · rw [va_up_n _ _ e4, va_up_n _ _ e4]; exact x4 h hh hne
            · rw [Wt_up (vl w) x c hgn, hxg]
              omega)
      refine ⟨h9.1, h9.2.1, fun t ht => (h9.2.2 t ht).trans ⟨?_, ?_⟩⟩
      · rintro (⟨h, hh, e2⟩ | e2)
        · by_cases e3 : h = g
          · subst e3; rw [va_up_s] at e2; exact Or.inr e2
          · rw [va_up_n _ _ e3] at e2; exact Or.inl ⟨h, hh, e2⟩
        · exact Or.inl ⟨g, by omega, by rw [hya]; exact e2⟩
      · rintro (⟨h, hh, e2⟩ | e2)
        · by_cases e3 : h = g
          · subst e3; exact Or.inr (by rw [← hya]; exact e2)
          · exact Or.inl ⟨h, hh, by rw [va_up_n _ _ e3]; exact e2⟩
        · exact Or.inl ⟨g, by omega, by rw [va_up_s]; exact e2⟩
