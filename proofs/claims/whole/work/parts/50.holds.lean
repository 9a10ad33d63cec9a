/-! WHAT ALWAYS HOLDS of the state after n calls -/
def moN (j : Nat) : Nat := if j = 0 then 120 else if j = 1 then 999 else if j = 2 then 99 else if j = 3 then 99 else if j = 4 then 9999 else if j = 5 then 9999 else 9
theorem mo_e : ∀ j, j < 7 → gl_MO j = nI (moN j) ∧ moN j ≤ 9999 := by decide +kernel
theorem le_e : ∀ j, j < 7 → (gl_LE j = 0 ∨ gl_LE j = 1) := by decide +kernel
theorem at_e : ∀ j, j < 7 → (60 ≤ moN 0 ∧ ∃ m, m < 2001 ∧ m ≤ moN j ∧ gl_AT j = nI m) := by decide +kernel
def RQ (r : Nat → Int32) : Prop := ∀ j, j < 7 → ∃ m, m ≤ moN j ∧ r j = nI m
def TQ (T D : Nat) (f m : Nat → Nat → Int32) : Prop := ∀ t, t < T → (∀ k, k < 6 → ∃ a, a ≤ 200 ∧ m t k = nI a) ∧ ∃ w, w ≤ D ∧ f t 8 = nI w
def SQ (T G : Nat) (f : Nat → Nat → Int32) : Prop := ∀ t, t < T → f t 5 = 1 → ∃ g, g < G ∧ f t 6 = nI g
def VQ (v : (Nat → Int32) × (Nat → Int32) × (Nat → Int32) × Nat) (n : Nat) : Prop := v.2.2.2 ≤ n ∧ ∀ i, i < vK v.2.2.2 → (∃ t, t < 12 ∧ v.1 i = nI t) ∧ ∃ d, d ≤ 2000 ∧ v.2.2.1 i = nI d
def IV (s : DS) (n : Nat) : Prop := DW s ∧ RQ (zr s) ∧ TQ (zT s) (zD s) (zf s) (zm s) ∧ SQ (zT s) (zG s) (zf s) ∧ VQ (zv s) (12 * n) ∧ zN s ≤ n
theorem IV.rw {s : DS} {n : Nat} (h : IV s n) : RW s := fun j hj => by
  obtain ⟨m, h1, h2⟩ := h.2.1 j hj
  exact ⟨m, Nat.le_trans h1 (mo_e j hj).2, h2⟩
theorem IV.sw {s : DS} {n : Nat} (h : IV s n) : SW s := h.2.2.2.1
theorem IV.vw {s : DS} {n : Nat} (h : IV s n) (hn : n ≤ 1000) : VW s := ⟨by have := h.2.2.2.2.1.1; omega, h.2.2.2.2.1.2⟩
/-- a cost -/
theorem cs_e {a w d x l : Nat} (ha : a ≤ 200) (hw : w ≤ 2000) (hd : d ≤ 99) (hx : x ≤ 999) (hl : l ≤ 99) (b c : Bool) : ∃ k, k < 209715 ∧ (fun z : Int32 => if z < 0 then 0 else z) ((fun y : Int32 => if b then y - nI l else y) ((fun x9 : Int32 => if c then x9 else x9 + nI x) (nI a + nI w * nI d))) = nI k := by
  have h1 : w * d ≤ 2000 * 99 := Nat.mul_le_mul hw hd
  rw [pk_mul, nI_add]
  have h2 : ∃ y, y ≤ 199199 ∧ (if c = true then nI (a + w * d) else nI (a + w * d) + nI x) = nI y := by
    cases c with
    | true => exact ⟨a + w * d, by omega, if_pos rfl⟩
    | false => exact ⟨a + w * d + x, by omega, by rw [if_neg (by decide), nI_add]⟩
  obtain ⟨y, hy, e⟩ := h2
  dsimp only
  rw [e]
  cases b with
  | false => exact ⟨y, by omega, by rw [if_neg (show ¬ (false = true) by decide), if_neg (nI_pos (by omega))]⟩
  | true =>
    rw [if_pos rfl]
    by_cases c2 : l ≤ y
    · exact ⟨y - l, by omega, by rw [pk_sub c2, if_neg (nI_pos (by omega))]⟩
    · refine ⟨0, by omega, if_pos ?_⟩
      rw [Int32.lt_iff_toInt_lt, pk_sub_toInt (by omega) (by omega)]
      show (y : Int) - l < (0 : Int32).toInt
      rw [show (0 : Int32).toInt = 0 by decide]
      omega
theorem IV.cw {s : DS} {n : Nat} (h : IV s n) : CW s := fun t ht g hg => by
  obtain ⟨hW, hR, hT, _⟩ := h
  obtain ⟨hm, w, hw, ew⟩ := hT t ht
  obtain ⟨a, ha, ea⟩ := hm (zg s g 0) (hW.2.2.2.1 g hg).1
  obtain ⟨x, hx, ex⟩ := hR 1 (by decide)
  obtain ⟨d, hd, ed⟩ := hR 2 (by decide)
  obtain ⟨l, hl, el⟩ := hR 3 (by decide)
  have hD := hW.2.2.1
  unfold zCs csI
  rw [ea, ew, ex, ed, el]
  exact cs_e ha (by omega) hd hx hl _ _
theorem IV.up {s : DS} {n : Nat} (h : IV s n) : IV s (n + 1) := by
  obtain ⟨h1, h2, h3, h4, h5, h6⟩ := h
  exact ⟨h1, h2, h3, h4, ⟨by have := h5.1; omega, h5.2⟩, by omega⟩
theorem IV.fe {s : DS} {n : Nat} (h : IV s n) (a b c d e : Int32) : IV (feN s a b c d e) n := by
  unfold feN
  split
  · obtain ⟨h1, h2⟩ := h
    exact ⟨⟨h1.1, h1.2.1, h1.2.2.1, h1.2.2.2.1, by show zn s + 20 ≤ 60; omega⟩, h2⟩
  · exact h
/-- rules that are read -/
theorem cl_rq {b : Nat → Int32} {n p : Nat} {dr : Nat → Int32} (h : RQ dr) : RQ (clR b n p dr).2.2 := by
  unfold clR
  cases hk : kdO (ccV b n p) with
  | none => exact h
  | some k =>
    dsimp only
    have hk7 : k < 7 := by have := (ff_lt _ _ _ _ hk).1; omega
    unfold clQ
    have hu : ∀ v : Int32, ¬ (v < gl_LE k ∨ gl_MO k < v) → RQ (upd dr k v) := fun v hv j hj => by
      by_cases e : j = k
      · subst e
        rw [pk_us]
        have h1 : ¬ v < 0 := fun z => hv (Or.inl (by
          rcases le_e j hj with q | q <;> rw [q]
          · exact z
          · rw [Int32.lt_iff_toInt_lt] at z ⊢
            rw [show (0 : Int32).toInt = 0 by decide] at z
            rw [show (1 : Int32).toInt = 1 by decide]
            omega))
        obtain ⟨i, hi, rfl⟩ := nI_of h1
        refine ⟨i, ?_, rfl⟩
        have h2 : ¬ nI (moN j) < nI i := fun z => hv (Or.inr (by rw [(mo_e j hj).1]; exact z))
        have := (mo_e j hj).2
        exact n_nlt h2
      · rw [pk_un e]; exact h j hj
    split
    · exact h
    · split
      · exact h
      · split
        · exact h
        · rename_i hv
          split
          · exact hu _ hv
          · exact hu _ hv
theorem rd_rq {b : Nat → Int32} {n : Nat} : ∀ (f p : Nat) {dr u : Nat → Int32}, RQ dr → RQ u → RQ ((rdL b n f p dr).2.getD u)
  | 0, _, _, _, _, hu => hu
  | f + 1, p, dr, u, h, hu => by
    have hc := cl_rq (b := b) (n := n) (p := p) h
    unfold rdL
    split
    · exact hu
    · split
      · exact hc
      · exact rd_rq f _ hc hu
theorem RQ_at : RQ gl_AT := fun j hj => by
  obtain ⟨_, m, _, h1, h2⟩ := at_e j hj
  exact ⟨m, h1, h2⟩
theorem IV.ru {s : DS} {n : Nat} (h : IV s n) (k : Int32) : IV (ruN s k) n := by
  unfold ruN
  cases tix (zn s + 1) k with
  | none => exact h
  | some j =>
    obtain ⟨h1, h2, h3⟩ := h
    exact ⟨⟨h1.1, h1.2.1, h1.2.2.1, h1.2.2.2.1, by show 0 ≤ 60; omega⟩, rd_rq _ _ RQ_at h2, h3⟩
theorem IV.wa {s : DS} {n : Nat} (h : IV s n) (t k m : Int32) : IV ((waN s t k m).getD s) n := by
  unfold waN
  cases ht : tix (zT s) t with
  | none => exact h
  | some i =>
    cases hk : tix 6 k with
    | none => exact h
    | some j =>
      dsimp only
      split
      · rename_i hm
        obtain ⟨h1, h2, h3, h4⟩ := h
        refine ⟨h1, h2, fun u hu => ⟨fun q hq => ?_, (h3 u hu).2⟩, h4⟩
        show ∃ a, a ≤ 200 ∧ up2 (zm s) i (upd (zm s i) j m) u q = nI a
        by_cases e : u = i
        · subst e
          rw [up2_s]
          by_cases e2 : q = j
          · subst e2
            rw [pk_us]
            obtain ⟨a, ha, rfl⟩ := nI_of (Int32.not_lt.mpr hm.1)
            exact ⟨a, n_le (b := 200) hm.2, rfl⟩
          · rw [pk_un e2]; exact (h3 u hu).1 q hq
        · rw [up2_n _ _ e]; exact (h3 u hu).1 q hq
      · exact h
theorem IV.li {s : DS} {n : Nat} (h : IV s n) (t a b : Int32) : IV ((liN s t a b).getD s) n := by
  unfold liN
  cases ht : tix (zT s) t with
  | none => exact h
  | some i =>
    dsimp only
    split
    · obtain ⟨h1, h2, h3, h4, h5⟩ := h
      have e : ∀ u q, q ≠ 3 → q ≠ 4 → up2 (zf s) i (upd (upd (zf s i) 3 a) 4 b) u q = zf s u q := fun u q q3 q4 => by
        by_cases e : u = i
        · subst e
          rw [up2_s, pk_un q4, pk_un q3]
        · rw [up2_n _ _ e]
      refine ⟨h1, h2, fun u hu => ⟨(h3 u hu).1, ?_⟩, fun u hu h9 => ?_, h5⟩
      · show ∃ w, w ≤ zD s ∧ up2 (zf s) i (upd (upd (zf s i) 3 a) 4 b) u 8 = nI w
        rw [e u 8 (by decide) (by decide)]
        exact (h3 u hu).2
      · have h9 : up2 (zf s) i (upd (upd (zf s i) 3 a) 4 b) u 5 = 1 := h9
        show ∃ g, g < zG s ∧ up2 (zf s) i (upd (upd (zf s i) 3 a) 4 b) u 6 = nI g
        rw [e u 5 (by decide) (by decide)] at h9
        rw [e u 6 (by decide) (by decide)]
        exact h4 u hu h9
    · exact h
theorem nw_f (a b c : Int32) : nwF a b c 5 = 0 ∧ nwF a b c 8 = 0 := by
  unfold nwF sdF
  refine ⟨?_, ?_⟩
  · rw [pk_un (by decide), pk_un (by decide), pk_us]
  · rw [pk_un (by decide), pk_un (by decide), pk_un (by decide)]
    rfl
theorem IV.te {s : DS} {n : Nat} (h : IV s n) (a b c : Int32) : IV ((teN s a b c).getD s) n := by
  unfold teN
  split
  · rename_i hc
    obtain ⟨h1, h2, h3, h4, h5⟩ := h
    refine ⟨⟨by show zT s + 1 ≤ 12; omega, h1.2⟩, h2, fun u hu => ?_, fun u hu h9 => ?_, h5⟩
    · have hu : u < zT s + 1 := hu
      show (∀ k, k < 6 → ∃ a, a ≤ 200 ∧ up2 (zm s) (zT s) mn30 u k = nI a) ∧ ∃ w, w ≤ zD s ∧ up2 (zf s) (zT s) (nwF a b c) u 8 = nI w
      by_cases e : u = zT s
      · rw [e, up2_s, up2_s, (nw_f a b c).2]
        exact ⟨fun k hk => ⟨30, by decide, if_pos hk⟩, 0, Nat.zero_le _, rfl⟩
      · rw [up2_n _ _ e, up2_n _ _ e]
        exact h3 u (by omega)
    · have hu : u < zT s + 1 := hu
      have h9 : up2 (zf s) (zT s) (nwF a b c) u 5 = 1 := h9
      show ∃ g, g < zG s ∧ up2 (zf s) (zT s) (nwF a b c) u 6 = nI g
      by_cases e : u = zT s
      · rw [e, up2_s, (nw_f a b c).1] at h9
        exact absurd h9 (by decide)
      · rw [up2_n _ _ e] at h9 ⊢
        exact h4 u (by omega) h9
  · exact h
theorem tix_lt {n j : Nat} {t : Int32} (hn : n < 1000) (h : tix n t = some j) : j < n := by
  rcases tix_cases hn t with ⟨e, _⟩ | ⟨i, hi, _, e⟩
  · rw [e] at h; cases h
  · rw [e] at h; cases h; exact hi
theorem hix_in {j : Nat} {t : Int32} (h : hix t = some j) : 1 ≤ j ∧ j ≤ 8 := by
  rcases hix_cases t with ⟨e, _⟩ | ⟨i, h1, h2, _, e, _⟩
  · rw [e] at h; cases h
  · rw [e] at h; cases h; exact ⟨h1, h2⟩
theorem IV.ga {s : DS} {n : Nat} (h : IV s n) (a b c d e : Int32) : IV ((gaN s a b c d e).getD s) (n + 1) := by
  unfold gaN
  by_cases c9 : zG s < 10
  · rw [if_pos c9]
    cases ha : tix 6 a with
    | none => exact h.up
    | some a1 =>
    cases hb : tix 16 b with
    | none => exact h.up
    | some b1 =>
    cases hc : tix 8 c with
    | none => exact h.up
    | some c1 =>
    cases hd : tix 4 d with
    | none => exact h.up
    | some d1 =>
    cases he : hix e with
    | none => exact h.up
    | some e1 =>
      obtain ⟨h1, h2, h3, h4, h5, h6⟩ := h
      refine ⟨⟨h1.1, by show zG s + 1 ≤ 10; omega, h1.2.2.1, fun g hg => ?_, h1.2.2.2.2⟩, h2, h3, fun u hu h9 => ?_, ⟨by have := h5.1; show (zv s).2.2.2 ≤ 12 * (n + 1); omega, h5.2⟩, by show zN s + 1 ≤ n + 1; omega⟩
      · have hg : g < zG s + 1 := hg
        show up2 (zg s) (zG s) (gaF a1 b1 c1 d1 e1) g 0 < 6 ∧ up2 (zg s) (zG s) (gaF a1 b1 c1 d1 e1) g 1 < 16 ∧ up2 (zg s) (zG s) (gaF a1 b1 c1 d1 e1) g 2 < 8 ∧ up2 (zg s) (zG s) (gaF a1 b1 c1 d1 e1) g 3 < 4 ∧ 1 ≤ up2 (zg s) (zG s) (gaF a1 b1 c1 d1 e1) g 4 ∧ up2 (zg s) (zG s) (gaF a1 b1 c1 d1 e1) g 4 ≤ 8
        by_cases e9 : g = zG s
        · rw [e9, up2_s]
          exact ⟨tix_lt (by decide) ha, tix_lt (by decide) hb, tix_lt (by decide) hc, tix_lt (by decide) hd, hix_in he⟩
        · rw [up2_n _ _ e9]
          exact h1.2.2.2.1 g (by omega)
      · obtain ⟨g, hg, eg⟩ := h4 u hu h9
        exact ⟨g, Nat.lt_succ_of_lt hg, eg⟩
  · rw [if_neg c9]; exact h.up
theorem ta_f (f : Nat → Int32) (a : Nat) (g tr : Int32) : taF f a g tr 8 = f 8 ∧ (taF f a g tr 5 = 1 → taF f a g tr 6 = g ∨ (f 5 = 1 ∧ taF f a g tr 6 = f 6)) := by
  unfold taF
  split
  · rw [pk_un (by decide), pk_un (by decide), pk_us]
    exact ⟨rfl, fun _ => Or.inl rfl⟩
  · split
    · rw [pk_un (by decide), pk_us]
      exact ⟨rfl, fun z => absurd z (by decide)⟩
    · split
      · rw [pk_un (by decide), pk_un (by decide), pk_un (by decide)]
        exact ⟨rfl, fun z => Or.inr ⟨z, rfl⟩⟩
      · rw [pk_un (by decide), pk_un (by decide), pk_us]
        exact ⟨rfl, fun z => absurd z (by decide)⟩
theorem IV.an {s : DS} {n : Nat} (h : IV s n) {A : Nat → Nat} (hA : ∀ t g, gpA A t = some g → g < zG s) (t a : Int32) : IV ((anN s A t a).getD s) n := by
  unfold anN
  cases ht : tix (zT s) t with
  | none => exact h
  | some i =>
    cases hk : tix 3 a with
    | none => exact h
    | some k =>
      dsimp only
      cases hg : gpA A i with
      | none => exact h
      | some g =>
        obtain ⟨h1, h2, h3, h4, h5⟩ := h
        have hf := ta_f (zf s i) k (nI g) (zr s 6)
        refine ⟨h1, h2, fun u hu => ⟨(h3 u hu).1, ?_⟩, fun u hu h9 => ?_, h5⟩
        · show ∃ w, w ≤ zD s ∧ up2 (zf s) i (taF (zf s i) k (nI g) (zr s 6)) u 8 = nI w
          by_cases e : u = i
          · rw [e, up2_s, hf.1, ← e]; exact (h3 u hu).2
          · rw [up2_n _ _ e]; exact (h3 u hu).2
        · have h9 : up2 (zf s) i (taF (zf s i) k (nI g) (zr s 6)) u 5 = 1 := h9
          show ∃ g9, g9 < zG s ∧ up2 (zf s) i (taF (zf s i) k (nI g) (zr s 6)) u 6 = nI g9
          by_cases e : u = i
          · rw [e, up2_s] at h9 ⊢
            rcases hf.2 h9 with q | ⟨q1, q2⟩
            · exact ⟨g, hA i g hg, q⟩
            · rw [q2]
              exact h4 i (by rw [← e]; exact hu) q1
          · rw [up2_n _ _ e] at h9 ⊢
            exact h4 u hu h9
/-! a day -/
def EJ (s e : DS) (n t : Nat) : Prop := e.1 = s.1 ∧ zg e = zg s ∧ zn e = zn s ∧ zr e = zr s ∧ (∀ u, u < zT s → (∀ k, k < 6 → ∃ a, a ≤ 200 ∧ zm e u k = nI a) ∧ ∃ w, w ≤ (if u < t then zD s + 1 else zD s) ∧ zf e u 8 = nI w) ∧ (∀ u, u < t → zf e u 5 = 0) ∧ VQ (zv e) (12 * n + t)
theorem sd_f (f : Nat → Int32) : sdF f 5 = 0 ∧ sdF f 8 = f 8 := by
  unfold sdF
  refine ⟨?_, ?_⟩
  · rw [pk_un (by decide), pk_un (by decide), pk_us]
  · rw [pk_un (by decide), pk_un (by decide), pk_un (by decide)]
theorem EJ.s {s e : DS} {n t : Nat} (hD : zD s ≤ 2000) (ht : t < 12) (htT : t < zT s) (h : EJ s e n t) : EJ s (edN e t) n (t + 1) := by
  obtain ⟨h1, h2, h3, h4, h5, h6, h7⟩ := h
  have hD2 : zD e = zD s := by unfold zD; rw [h1]
  obtain ⟨q1, q2, q3⟩ := edN_1 e t
  refine ⟨q1.trans h1, q2.trans h2, q3.trans h3, (edN_r e t).trans h4, ?_⟩
  unfold edN
  cases hg : edG e t with
  | none =>
    refine ⟨fun u hu => ⟨(h5 u hu).1, ?_⟩, fun u hu => ?_, ⟨by have := h7.1; show (zv e).2.2.2 ≤ 12 * n + (t + 1); omega, h7.2⟩⟩
    · show ∃ w, w ≤ (if u < t + 1 then zD s + 1 else zD s) ∧ up2 (zf e) t (sdF (zf e t)) u 8 = nI w
      obtain ⟨w, hw, ew⟩ := (h5 u hu).2
      refine ⟨w, ?_, ?_⟩
      · split at hw <;> split <;> omega
      · by_cases e9 : u = t
        · rw [e9, up2_s, (sd_f _).2, ← e9]; exact ew
        · rw [up2_n _ _ e9]; exact ew
    · show up2 (zf e) t (sdF (zf e t)) u 5 = 0
      by_cases e9 : u = t
      · rw [e9, up2_s, (sd_f _).1]
      · rw [up2_n _ _ e9]; exact h6 u (by omega)
  | some g =>
    refine ⟨fun u hu => ⟨(h5 u hu).1, ?_⟩, fun u hu => ?_, ?_⟩
    · show ∃ w, w ≤ (if u < t + 1 then zD s + 1 else zD s) ∧ up2 (zf e) t (sdF (upd (zf e t) 8 (zf e t 8 + 1))) u 8 = nI w
      obtain ⟨w, hw, ew⟩ := (h5 u hu).2
      by_cases e9 : u = t
      · subst e9
        rw [up2_s, (sd_f _).2, pk_us, ew]
        rw [if_neg (by omega)] at hw
        exact ⟨w + 1, by rw [if_pos (by omega)]; omega, nI_1 w⟩
      · refine ⟨w, ?_, by rw [up2_n _ _ e9]; exact ew⟩
        split at hw <;> split <;> omega
    · show up2 (zf e) t (sdF (upd (zf e t) 8 (zf e t 8 + 1))) u 5 = 0
      by_cases e9 : u = t
      · rw [e9, up2_s, (sd_f _).1]
      · rw [up2_n _ _ e9]; exact h6 u (by omega)
    · have h8 := h7.1
      refine ⟨by show (zv e).2.2.2 + 1 ≤ 12 * n + (t + 1); omega, fun i hi => ?_⟩
      have hi : i < vK ((zv e).2.2.2 + 1) := hi
      show (∃ t9, t9 < 12 ∧ upd (zv e).1 ((zv e).2.2.2 % 400) (nI t) i = nI t9) ∧ ∃ d, d ≤ 2000 ∧ upd (zv e).2.2.1 ((zv e).2.2.2 % 400) (nI (zD e)) i = nI d
      by_cases e9 : i = (zv e).2.2.2 % 400
      · rw [e9, pk_us, pk_us]
        exact ⟨⟨t, ht, rfl⟩, zD e, by omega, rfl⟩
      · rw [pk_un e9, pk_un e9]
        refine h7.2 i ?_
        unfold vK at hi ⊢
        split at hi <;> split <;> omega
theorem EJ.f {s : DS} {n : Nat} (h : IV s n) : ∀ t, t ≤ zT s → EJ s (edF s t) n t
  | 0, _ => ⟨rfl, rfl, rfl, rfl, fun u hu => ⟨(h.2.2.1 u hu).1, by rw [if_neg (Nat.not_lt_zero u)]; exact (h.2.2.1 u hu).2⟩, fun u hu => absurd hu (Nat.not_lt_zero u), h.2.2.2.2.1⟩
  | t + 1, ht => by
    have hT := h.1.1
    exact (EJ.f h t (by omega)).s h.1.2.2.1 (by omega) (by omega)
theorem IV.dy {s : DS} {n : Nat} (h : IV s n) : IV (dyN s) (n + 1) := by
  unfold dyN
  by_cases c : zD s < 2000
  · rw [if_pos c]
    obtain ⟨h1, h2, h3, h4, h5, h6, h7⟩ := EJ.f h (zT s) (Nat.le_refl _)
    have hW := h.1
    refine ⟨⟨hW.1, Nat.zero_le _, by show zD s + 1 ≤ 2000; omega, fun g hg => absurd hg (Nat.not_lt_zero g), by show zn (edF s (zT s)) ≤ 60; rw [h3]; exact hW.2.2.2.2⟩, ?_, fun u hu => ?_, fun u hu h9 => ?_, ⟨?_, h7.2⟩, ?_⟩
    · show RQ (zr (edF s (zT s)))
      rw [h4]; exact h.2.1
    · have hu : u < zT s := hu
      obtain ⟨q1, w, hw, ew⟩ := h5 u hu
      rw [if_pos hu] at hw
      exact ⟨q1, w, hw, ew⟩
    · have hu : u < zT s := hu
      have h9 : zf (edF s (zT s)) u 5 = 1 := h9
      rw [h6 u hu] at h9
      exact absurd h9 (by decide)
    · have := h7.1
      have := hW.1
      show (zv (edF s (zT s))).2.2.2 ≤ 12 * (n + 1)
      omega
    · have := h.2.2.2.2.2
      show zN s ≤ n + 1
      omega
  · rw [if_neg c]; exact h.up
theorem IV.z : IV s00 0 := ⟨⟨by decide, by decide, by decide, fun g hg => absurd hg (Nat.not_lt_zero g), by decide⟩, RQ_at, fun t ht => absurd ht (Nat.not_lt_zero t), fun t ht => absurd ht (Nat.not_lt_zero t), ⟨Nat.le_refl 0, fun i hi => absurd hi (Nat.not_lt_zero i)⟩, Nat.le_refl 0⟩
theorem Mtd.ga {s : DS} (hW : DW s) (hC : CW s) {A : Nat → Nat} {o : oa_T} (h : Mtd s A o) : ∀ t g, gpA A t = some g → g < zG s := fun t g hg => by
  unfold gpA at hg
  obtain ⟨h7, h8⟩ := ff_lt _ _ _ _ hg
  simp at h8
  by_cases z : g < zG s
  · exact z
  · exact absurd (by rw [h.isb hW hC g (by omega)]; exact bst_hi (by omega)) h8.1
