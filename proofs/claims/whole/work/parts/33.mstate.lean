/-! THE MODEL AND THE STATE -/
def tA : Nat → Nat
  | 0 => 3
  | 1 => 4
  | 2 => 5
  | 3 => 7
  | 4 => 8
  | 5 => 9
  | 6 => 10
  | 7 => 11
  | 8 => 12
  | _ => 99
theorem tA_inj : ∀ k, k < 9 → ∀ j, j < 9 → tA k = tA j → k = j := by decide
theorem tA_rng : ∀ k, k < 9 → 3 ≤ tA k ∧ tA k ≤ 12 ∧ tA k ≠ 6 := by decide
/-- the model's arrays say what the state says -/
def AG (A : Nat → Nat → Int32) (py : Nat → Int64) (s : DS) : Prop :=
  A 0 = zb s ∧ (∀ j, j < 7 → A 1 j = zr s j) ∧ (∀ t, t < zT s → ∀ k, k < 9 → A (tA k) t = zf s t k) ∧ (∀ t, t < zT s → ∀ k, k < 6 → A 6 (6 * t + k) = zm s t k) ∧ (∀ t, t < zT s → py t = zp s t) ∧ (∀ t, zT s ≤ t → t < 12 → py t = 0 ∧ ∀ k, k < 9 → 3 ≤ k → k ≠ 6 → A (tA k) t = 0) ∧ (∀ g, g < zG s → ∀ k, k < 5 → A (14 + k) g = nI (zg s g k)) ∧ A 19 = (zv s).1 ∧ A 20 = (zv s).2.1 ∧ A 21 = (zv s).2.2.1
section AGS
variable {A : Nat → Nat → Int32} {py : Nat → Int64} {s : DS}
theorem AG.f (h : AG A py s) {t : Nat} (ht : t < zT s) (k : Nat) (hk : k < 9 := by decide) : A (tA k) t = zf s t k := h.2.2.1 t ht k hk
theorem AG.m (h : AG A py s) {t k : Nat} (ht : t < zT s) (hk : k < 6) : A 6 (6 * t + k) = zm s t k := h.2.2.2.1 t ht k hk
theorem AG.g (h : AG A py s) {g : Nat} (hg : g < zG s) (k : Nat) (hk : k < 5 := by decide) : A (14 + k) g = nI (zg s g k) := h.2.2.2.2.2.2.1 g hg k hk
theorem AG.r (h : AG A py s) (j : Nat) (hj : j < 7 := by decide) : A 1 j = zr s j := h.2.1 j hj
/-- an array that says nothing of the state -/
theorem AG.up (h : AG A py s) {i : Nat} (hi : 22 ≤ i ∨ i = 2 ∨ i = 13) (v : Nat → Int32) : AG (up2 A i v) py s := by
  have e : ∀ j, j < 22 → j ≠ 2 → j ≠ 13 → up2 A i v j = A j := fun j h1 h2 h3 => up2_n A v (by omega)
  refine ⟨(e 0 (by decide) (by decide) (by decide)).trans h.1, fun j hj => ?_, fun t ht k hk => ?_, fun t ht k hk => ?_, h.2.2.2.2.1, fun t h1 h2 => ⟨(h.2.2.2.2.2.1 t h1 h2).1, fun k hk h3 h6 => ?_⟩, fun g hg k hk => ?_, (e 19 (by decide) (by decide) (by decide)).trans h.2.2.2.2.2.2.2.1, (e 20 (by decide) (by decide) (by decide)).trans h.2.2.2.2.2.2.2.2.1, (e 21 (by decide) (by decide) (by decide)).trans h.2.2.2.2.2.2.2.2.2⟩
  · rw [e 1 (by decide) (by decide) (by decide)]; exact h.2.1 j hj
  · have := tA_rng k hk
    rw [e (tA k) (by omega) (by omega) (by omega)]; exact h.2.2.1 t ht k hk
  · rw [e 6 (by decide) (by decide) (by decide)]; exact h.2.2.2.1 t ht k hk
  · have := tA_rng k hk
    rw [e (tA k) (by omega) (by omega) (by omega)]; exact (h.2.2.2.2.2.1 t h1 h2).2 k hk h3 h6
  · rw [e (14 + k) (by omega) (by omega) (by omega)]; exact h.2.2.2.2.2.2.1 g hg k hk
/-- a teacher's field is set in both -/
theorem AG.setF (h : AG A py s) {t : Nat} (ht : t < zT s) (k : Nat) (v : Int32) (hk : k < 9 := by decide) : AG (up2 A (tA k) (upd (A (tA k)) t v)) py (setTe s (up2 (zf s) t (upd (zf s t) k v)) (zm s) (zp s)) := by
  have hr := tA_rng k hk
  have e : ∀ j, j ≠ tA k → up2 A (tA k) (upd (A (tA k)) t v) j = A j := fun j h1 => up2_n A _ h1
  have e2 : ∀ j, j < 9 → ∀ i, up2 A (tA k) (upd (A (tA k)) t v) (tA j) i = if j = k ∧ i = t then v else A (tA j) i := fun j hj i => by
    by_cases c : j = k
    · subst c
      rw [up2_s]
      by_cases c2 : i = t
      · subst c2; rw [pk_us, if_pos ⟨rfl, rfl⟩]
      · rw [pk_un c2, if_neg (fun z => c2 z.2)]
    · rw [e _ (fun z => c (tA_inj _ hj _ hk z)), if_neg (fun z => c z.1)]
  refine ⟨(e 0 (by omega)).trans h.1, fun j hj => ?_, fun t2 ht2 j hj => ?_, fun t2 ht2 j hj => ?_, h.2.2.2.2.1, fun t2 h1 h2 => ⟨(h.2.2.2.2.2.1 t2 h1 h2).1, fun j hj h3 h6 => ?_⟩, fun g hg j hj => ?_, (e 19 (by omega)).trans h.2.2.2.2.2.2.2.1, (e 20 (by omega)).trans h.2.2.2.2.2.2.2.2.1, (e 21 (by omega)).trans h.2.2.2.2.2.2.2.2.2⟩
  · rw [e 1 (by omega)]; exact h.2.1 j hj
  · rw [e2 j hj]
    show _ = up2 (zf s) t (upd (zf s t) k v) t2 j
    by_cases c2 : t2 = t
    · subst c2
      rw [up2_s]
      by_cases c : j = k
      · subst c; rw [pk_us, if_pos ⟨rfl, rfl⟩]
      · rw [pk_un c, if_neg (fun z => c z.1)]
        exact h.2.2.1 t2 ht j hj
    · rw [up2_n _ _ c2, if_neg (fun z => c2 z.2)]
      exact h.2.2.1 t2 ht2 j hj
  · rw [e 6 (by omega)]; exact h.2.2.2.1 t2 ht2 j hj
  · rw [e2 j hj, if_neg (fun z => by have h9 : zT s ≤ t2 := h1; omega)]
    exact (h.2.2.2.2.2.1 t2 h1 h2).2 j hj h3 h6
  · rw [e (14 + j) (by omega)]; exact h.2.2.2.2.2.2.1 g hg j hj
theorem AG.setM (h : AG A py s) {t k : Nat} (ht : t < zT s) (hk : k < 6) (v : Int32) : AG (up2 A 6 (upd (A 6) (6 * t + k) v)) py (setTe s (zf s) (up2 (zm s) t (upd (zm s t) k v)) (zp s)) := by
  have e : ∀ j, j ≠ 6 → up2 A 6 (upd (A 6) (6 * t + k) v) j = A j := fun j h1 => up2_n A _ h1
  refine ⟨(e 0 (by omega)).trans h.1, fun j hj => ?_, fun t2 ht2 j hj => ?_, fun t2 ht2 j hj => ?_, h.2.2.2.2.1, fun t2 h1 h2 => ⟨(h.2.2.2.2.2.1 t2 h1 h2).1, fun j hj h3 h6 => ?_⟩, fun g hg j hj => ?_, (e 19 (by omega)).trans h.2.2.2.2.2.2.2.1, (e 20 (by omega)).trans h.2.2.2.2.2.2.2.2.1, (e 21 (by omega)).trans h.2.2.2.2.2.2.2.2.2⟩
  · rw [e 1 (by omega)]; exact h.2.1 j hj
  · rw [e _ (tA_rng j hj).2.2]; exact h.2.2.1 t2 ht2 j hj
  · rw [up2_s]
    show _ = up2 (zm s) t (upd (zm s t) k v) t2 j
    by_cases c : t2 = t
    · subst c
      rw [up2_s]
      by_cases c3 : j = k
      · subst c3; rw [pk_us, pk_us]
      · rw [pk_un c3, pk_un (by omega)]; exact h.2.2.2.1 t2 ht j hj
    · rw [up2_n _ _ c, pk_un (by omega)]; exact h.2.2.2.1 t2 ht2 j hj
  · rw [e _ (tA_rng j hj).2.2]; exact (h.2.2.2.2.2.1 t2 h1 h2).2 j hj h3 h6
  · rw [e (14 + j) (by omega)]; exact h.2.2.2.2.2.2.1 g hg j hj
theorem AG.setP (h : AG A py s) {t : Nat} (ht : t < zT s) (v : Int64) : AG A (vp_updL py t v) (setTe s (zf s) (zm s) (up2 (zp s) t v)) := by
  refine ⟨h.1, h.2.1, h.2.2.1, h.2.2.2.1, fun t2 ht2 => ?_, fun t2 h1 h2 => ⟨?_, (h.2.2.2.2.2.1 t2 h1 h2).2⟩, h.2.2.2.2.2.2.1, h.2.2.2.2.2.2.2.1, h.2.2.2.2.2.2.2.2.1, h.2.2.2.2.2.2.2.2.2⟩
  · show _ = up2 (zp s) t v t2
    by_cases c : t2 = t
    · subst c; rw [up2_s, pk_uLs]
    · rw [up2_n _ _ c, pk_uLn c]; exact h.2.2.2.2.1 t2 ht2
  · rw [pk_uLn (by have h9 : zT s ≤ t2 := h1; omega)]; exact (h.2.2.2.2.2.1 t2 h1 h2).1
end AGS
theorem sp_X7_isTeacher {S : gl_H} {A : Nat → Nat → Int32} {py : Nat → Int64} {n day tc gc vs : Nat} {fr mt mc : Int32} (hM : MPR S (A) (py) (n) (day) (tc) (gc) (vs) (fr) (mt) (mc)) (t : Int32) : Sp mX7_isTeacher yX7_isTeacher [.ref 70, .int t] S (fun r S1 => S1 = S ∧ r = some (.int (if 0 ≤ t ∧ t ≤ nI tc - 1 then 1 else 0))) := by
  refine gl_enter (j := 0) (by decide +kernel) rfl (fun h => absurd h (by decide)) (Nat.le_of_ble_eq_true rfl) rfl (fun x => ?_)
  refine gg_iload_n dX7_isTeacher_0 rfl rfl ?_
  refine gg_iconst (v := 0) dX7_isTeacher_1 (by decide) ?_
  refine gg_aload_n dX7_isTeacher_2 rfl rfl ?_
  refine gf_X7_120 rfl dX7_isTeacher_3 hM.1 rfl ?_
  refine gg_iconst (v := 1) dX7_isTeacher_6 (by decide) ?_
  refine gg_isub dX7_isTeacher_7 ?_
  refine gg_callS (sp_X7_lies S t 0 (nI tc - 1)) dX7_isTeacher_8 kw_X7_97 rfl rfl (Nat.le_of_ble_eq_true rfl) (Nat.le_of_ble_eq_true rfl) (Nat.le_of_ble_eq_true rfl) ⟨(Nat.le_of_ble_eq_true rfl), (Nat.le_of_ble_eq_true rfl)⟩ (fun r S1 hq => ?_)
  refine gg_k (k2 := (0, 0)) rfl ?_
  obtain ⟨e9, rfl⟩ := hq
  rw [e9]
  clear e9 S1
  exact gg_ireturn dX7_isTeacher_11 rfl (by split <;> rfl) ⟨(Nat.le_of_ble_eq_true rfl), (Nat.le_of_ble_eq_true rfl)⟩ (⟨rfl, rfl⟩)
theorem sp_X7_isGap {S : gl_H} {A : Nat → Nat → Int32} {py : Nat → Int64} {n day tc gc vs : Nat} {fr mt mc : Int32} (hM : MPR S (A) (py) (n) (day) (tc) (gc) (vs) (fr) (mt) (mc)) (t : Int32) : Sp mX7_isGap yX7_isGap [.ref 70, .int t] S (fun r S1 => S1 = S ∧ r = some (.int (if 0 ≤ t ∧ t ≤ nI gc - 1 then 1 else 0))) := by
  refine gl_enter (j := 0) (by decide +kernel) rfl (fun h => absurd h (by decide)) (Nat.le_of_ble_eq_true rfl) rfl (fun x => ?_)
  refine gg_iload_n dX7_isGap_0 rfl rfl ?_
  refine gg_iconst (v := 0) dX7_isGap_1 (by decide) ?_
  refine gg_aload_n dX7_isGap_2 rfl rfl ?_
  refine gf_X7_123 rfl dX7_isGap_3 hM.1 rfl ?_
  refine gg_iconst (v := 1) dX7_isGap_6 (by decide) ?_
  refine gg_isub dX7_isGap_7 ?_
  refine gg_callS (sp_X7_lies S t 0 (nI gc - 1)) dX7_isGap_8 kw_X7_97 rfl rfl (Nat.le_of_ble_eq_true rfl) (Nat.le_of_ble_eq_true rfl) (Nat.le_of_ble_eq_true rfl) ⟨(Nat.le_of_ble_eq_true rfl), (Nat.le_of_ble_eq_true rfl)⟩ (fun r S1 hq => ?_)
  refine gg_k (k2 := (0, 0)) rfl ?_
  obtain ⟨e9, rfl⟩ := hq
  rw [e9]
  clear e9 S1
  exact gg_ireturn dX7_isGap_11 rfl (by split <;> rfl) ⟨(Nat.le_of_ble_eq_true rfl), (Nat.le_of_ble_eq_true rfl)⟩ (⟨rfl, rfl⟩)
theorem m6 (t k : Nat) : (6 : Int32) * nI t + nI k = nI (6 * t + k) := by rw [← nI_add, ← pk_mul]; rfl
theorem hb_if {a b : Int32} (h : ¬ (if hb_ a b then (1 : Int32) else 0) = 0) : hb_ a b = true := by
  by_cases c : hb_ a b = true
  · exact c
  · rw [if_neg c] at h; exact absurd rfl h
theorem hb_ifn {a b : Int32} (h : (if hb_ a b then (1 : Int32) else 0) = 0) : hb_ a b = false := by
  by_cases c : hb_ a b = true
  · rw [if_pos c] at h; exact absurd h (by decide)
  · exact Bool.eq_false_iff.mpr c
theorem sp_X7_canFill {S : gl_H} {A : Nat → Nat → Int32} {py : Nat → Int64} {s : DS} {n tc gc vs : Nat} {fr mt mc : Int32} (hM : MPR S (A) (py) (n) (zD s) (tc) (gc) (vs) (fr) (mt) (mc)) (hG : AG A py s) {t g : Nat} (ht : t < zT s) (hg : g < zG s) (hsc : zg s g 0 < 6) (htc : zT s ≤ 12) (hgc : zG s ≤ 10) : Sp mX7_canFill yX7_canFill [.ref 70, .int (nI t), .int (nI g)] S (fun r S1 => S1 = S ∧ r = some (.int (bI (zFl s t g)))) := by
  refine gl_enter (j := 0) (by decide +kernel) rfl (fun h => absurd h (by decide)) (Nat.le_of_ble_eq_true rfl) rfl (fun x => ?_)
  refine gg_aload_n dX7_canFill_0 rfl rfl ?_
  refine gf_X7_23 rfl dX7_canFill_1 hM.1 rfl ?_
  refine gg_iload_n dX7_canFill_4 rfl rfl ?_
  refine gg_ald_i (t) dX7_canFill_5 hM.a4 rfl (by omega) (by decide) ?_
  rw [show A 4 t = zf s t 1 from hG.f ht 1]
  refine gg_aload_n dX7_canFill_6 rfl rfl ?_
  refine gf_X7_63 rfl dX7_canFill_7 hM.1 rfl ?_
  refine gg_iload_n dX7_canFill_10 rfl rfl ?_
  refine gg_ald_i (g) dX7_canFill_11 hM.a17 rfl (by omega) (by decide) ?_
  rw [show A 17 g = nI (zg s g 3) from hG.g hg 3]
  refine gg_callS (sp_X7_has S (zf s t 1) (nI (zg s g 3))) dX7_canFill_12 kw_X7_130 rfl rfl (Nat.le_of_ble_eq_true rfl) (Nat.le_of_ble_eq_true rfl) (Nat.le_of_ble_eq_true rfl) ⟨(Nat.le_of_ble_eq_true rfl), (Nat.le_of_ble_eq_true rfl)⟩ (fun r S1 hq => ?_)
  refine gg_k (k2 := (0, 0)) rfl ?_
  obtain ⟨e9, rfl⟩ := hq
  rw [e9]
  clear e9 S1
  refine gg_if_eq (tgt := 78) dX7_canFill_15 (by decide) (fun c15 => ?_) (fun c15 => ?_)
  · have e : zFl s t g = false := by unfold zFl flB; rw [hb_ifn c15]; rfl
    refine gg_iconst (v := 0) dX7_canFill_78 (by decide) ?_
    exact gg_ireturn dX7_canFill_79 rfl rfl ⟨(Nat.le_of_ble_eq_true rfl), (Nat.le_of_ble_eq_true rfl)⟩ (⟨rfl, by rw [e]; rfl⟩)
  · have e1 := hb_if c15
    refine gg_aload_n dX7_canFill_18 rfl rfl ?_
    refine gf_X7_35 rfl dX7_canFill_19 hM.1 rfl ?_
    refine gg_iload_n dX7_canFill_22 rfl rfl ?_
    refine gg_ald_i (t) dX7_canFill_23 hM.a8 rfl (by omega) (by decide) ?_
    rw [show A 8 t = zf s t 4 from hG.f ht 4]
    refine gg_aload_n dX7_canFill_24 rfl rfl ?_
    refine gf_X7_54 rfl dX7_canFill_25 hM.1 rfl ?_
    refine gg_iload_n dX7_canFill_28 rfl rfl ?_
    refine gg_ald_i (g) dX7_canFill_29 hM.a14 rfl (by omega) (by decide) ?_
    rw [show A 14 g = nI (zg s g 0) from hG.g hg 0]
    refine gg_callS (sp_X7_has S (zf s t 4) (nI (zg s g 0))) dX7_canFill_30 kw_X7_130 rfl rfl (Nat.le_of_ble_eq_true rfl) (Nat.le_of_ble_eq_true rfl) (Nat.le_of_ble_eq_true rfl) ⟨(Nat.le_of_ble_eq_true rfl), (Nat.le_of_ble_eq_true rfl)⟩ (fun r S1 hq => ?_)
    refine gg_k (k2 := (0, 0)) rfl ?_
    obtain ⟨e9, rfl⟩ := hq
    rw [e9]
    clear e9 S1
    refine gg_if_ne (tgt := 78) dX7_canFill_33 (by decide) (fun c33 => ?_) (fun c33 => ?_)
    · have e : zFl s t g = false := by unfold zFl flB; rw [hb_if c33, Bool.and_eq_false_iff]; exact Or.inr rfl
      refine gg_iconst (v := 0) dX7_canFill_78 (by decide) ?_
      exact gg_ireturn dX7_canFill_79 rfl rfl ⟨(Nat.le_of_ble_eq_true rfl), (Nat.le_of_ble_eq_true rfl)⟩ (⟨rfl, by rw [e]; rfl⟩)
    · have e2 := hb_ifn c33
      refine gg_aload_n dX7_canFill_36 rfl rfl ?_
      refine gf_X7_29 rfl dX7_canFill_37 hM.1 rfl ?_
      refine gg_bipush (v := 6) dX7_canFill_40 (by decide) ?_
      refine gg_iload_n dX7_canFill_42 rfl rfl ?_
      refine gg_imul dX7_canFill_43 ?_
      refine gg_aload_n dX7_canFill_44 rfl rfl ?_
      refine gf_X7_54 rfl dX7_canFill_45 hM.1 rfl ?_
      refine gg_iload_n dX7_canFill_48 rfl rfl ?_
      refine gg_ald_i (g) dX7_canFill_49 hM.a14 rfl (by omega) (by decide) ?_
      rw [show A 14 g = nI (zg s g 0) from hG.g hg 0]
      refine gg_iadd dX7_canFill_50 ?_
      refine gg_ald_i (6 * t + zg s g 0) dX7_canFill_51 hM.a6 (m6 _ _) (by omega) (by decide) ?_
      rw [hG.m ht hsc]
      refine gg_aload_n dX7_canFill_52 rfl rfl ?_
      refine gf_X7_13 rfl dX7_canFill_53 hM.1 rfl ?_
      refine gg_iconst (v := 0) dX7_canFill_56 (by decide) ?_
      refine gg_ald_i (0) dX7_canFill_57 hM.a1 rfl (by omega) (by decide) ?_
      rw [show A 1 0 = zr s 0 from hG.r 0]
      refine gg_icmp_gt (tgt := 78) dX7_canFill_58 (by decide) (fun c58 => ?_) (fun c58 => ?_)
      · have e : zFl s t g = false := by unfold zFl flB; rw [decide_eq_false (Int32.not_le.mpr c58)]; simp
        refine gg_iconst (v := 0) dX7_canFill_78 (by decide) ?_
        exact gg_ireturn dX7_canFill_79 rfl rfl ⟨(Nat.le_of_ble_eq_true rfl), (Nat.le_of_ble_eq_true rfl)⟩ (⟨rfl, by rw [e]; rfl⟩)
      · have e3 := Int32.not_lt.mp c58
        refine gg_aload_n dX7_canFill_61 rfl rfl ?_
        refine gf_X7_26 rfl dX7_canFill_62 hM.1 rfl ?_
        refine gg_iload_n dX7_canFill_65 rfl rfl ?_
        refine gg_ald_i (t) dX7_canFill_66 hM.a5 rfl (by omega) (by decide) ?_
        rw [show A 5 t = zf s t 2 from hG.f ht 2]
        refine gg_aload_n dX7_canFill_67 rfl rfl ?_
        refine gf_X7_133 rfl dX7_canFill_68 hM.1 rfl ?_
        refine gg_icmp_lt (tgt := 78) dX7_canFill_71 (by decide) (fun c71 => ?_) (fun c71 => ?_)
        · have e : zFl s t g = false := by unfold zFl flB; rw [decide_eq_false (Int32.not_le.mpr c71)]; simp
          refine gg_iconst (v := 0) dX7_canFill_78 (by decide) ?_
          exact gg_ireturn dX7_canFill_79 rfl rfl ⟨(Nat.le_of_ble_eq_true rfl), (Nat.le_of_ble_eq_true rfl)⟩ (⟨rfl, by rw [e]; rfl⟩)
        · have e4 := Int32.not_lt.mp c71
          have e : zFl s t g = true := by unfold zFl flB; rw [e1, e2, decide_eq_true e3, decide_eq_true e4]; rfl
          refine gg_iconst (v := 1) dX7_canFill_74 (by decide) ?_
          refine gg_goto (tgt := 79) dX7_canFill_75 (by decide) ?_
          exact gg_ireturn dX7_canFill_79 rfl rfl ⟨(Nat.le_of_ble_eq_true rfl), (Nat.le_of_ble_eq_true rfl)⟩ (⟨rfl, by rw [e]; rfl⟩)
theorem sp_X7_costOf {S : gl_H} {A : Nat → Nat → Int32} {py : Nat → Int64} {s : DS} {n day tc gc vs : Nat} {fr mt mc : Int32} (hM : MPR S (A) (py) (n) (day) (tc) (gc) (vs) (fr) (mt) (mc)) (hG : AG A py s) {t g : Nat} (ht : t < zT s) (hg : g < zG s) (hsc : zg s g 0 < 6) (htc : zT s ≤ 12) (hgc : zG s ≤ 10) : Sp mX7_costOf yX7_costOf [.ref 70, .int (nI t), .int (nI g)] S (fun r S1 => S1 = S ∧ r = some (.int (zCs s t g))) := by
  refine gl_enter (j := 1) (by decide +kernel) rfl (fun h => absurd h (by decide)) (Nat.le_of_ble_eq_true rfl) rfl (fun x => ?_)
  have hcs : zCs s t g = (fun z : Int32 => if z < 0 then 0 else z) (zm s t (zg s g 0) + (if hb_ (zf s t 0) (nI (zg s g 2)) then 0 else zr s 1) + zr s 2 * zf s t 8 - (if hb_ (zf s t 3) (nI (zg s g 0)) then zr s 3 else 0)) := by
    unfold zCs csI
    congr 1
    have h1 : zr s 2 * zf s t 8 = zf s t 8 * zr s 2 := Int32.mul_comm _ _
    rw [h1]
    by_cases c1 : hb_ (zf s t 0) (nI (zg s g 2)) = true
    · rw [if_pos c1]
      by_cases c2 : hb_ (zf s t 3) (nI (zg s g 0)) = true
      · rw [if_pos c2]
        simp only [if_pos c1, if_pos c2, Int32.add_zero]
      · rw [if_neg c2]
        simp only [if_pos c1, if_neg c2, Int32.add_zero, Int32.sub_zero]
    · rw [if_neg c1]
      have h2 : zm s t (zg s g 0) + zf s t 8 * zr s 2 + zr s 1 = zm s t (zg s g 0) + zr s 1 + zf s t 8 * zr s 2 := by rw [Int32.add_assoc, Int32.add_comm (zf s t 8 * zr s 2), ← Int32.add_assoc]
      by_cases c2 : hb_ (zf s t 3) (nI (zg s g 0)) = true
      · rw [if_pos c2]
        simp only [if_neg c1, if_pos c2, h2]
      · rw [if_neg c2]
        simp only [if_neg c1, if_neg c2, h2, Int32.sub_zero]
  rw [hcs]
  refine gg_aload_n dX7_costOf_0 rfl rfl ?_
  refine gf_X7_29 rfl dX7_costOf_1 hM.1 rfl ?_
  refine gg_bipush (v := 6) dX7_costOf_4 (by decide) ?_
  refine gg_iload_n dX7_costOf_6 rfl rfl ?_
  refine gg_imul dX7_costOf_7 ?_
  refine gg_aload_n dX7_costOf_8 rfl rfl ?_
  refine gf_X7_54 rfl dX7_costOf_9 hM.1 rfl ?_
  refine gg_iload_n dX7_costOf_12 rfl rfl ?_
  refine gg_ald_i (g) dX7_costOf_13 hM.a14 rfl (by omega) (by decide) ?_
  rw [show A 14 g = nI (zg s g 0) from hG.g hg 0]
  refine gg_iadd dX7_costOf_14 ?_
  refine gg_ald_i (6 * t + zg s g 0) dX7_costOf_15 hM.a6 (m6 _ _) (by omega) (by decide) ?_
  rw [hG.m ht hsc]
  refine gg_aload_n dX7_costOf_16 rfl rfl ?_
  refine gf_X7_20 rfl dX7_costOf_17 hM.1 rfl ?_
  refine gg_iload_n dX7_costOf_20 rfl rfl ?_
  refine gg_ald_i (t) dX7_costOf_21 hM.a3 rfl (by omega) (by decide) ?_
  rw [show A 3 t = zf s t 0 from hG.f ht 0]
  refine gg_aload_n dX7_costOf_22 rfl rfl ?_
  refine gf_X7_60 rfl dX7_costOf_23 hM.1 rfl ?_
  refine gg_iload_n dX7_costOf_26 rfl rfl ?_
  refine gg_ald_i (g) dX7_costOf_27 hM.a16 rfl (by omega) (by decide) ?_
  rw [show A 16 g = nI (zg s g 2) from hG.g hg 2]
  refine gg_callS (sp_X7_has S (zf s t 0) (nI (zg s g 2))) dX7_costOf_28 kw_X7_130 rfl rfl (Nat.le_of_ble_eq_true rfl) (Nat.le_of_ble_eq_true rfl) (Nat.le_of_ble_eq_true rfl) ⟨(Nat.le_of_ble_eq_true rfl), (Nat.le_of_ble_eq_true rfl)⟩ (fun r S1 hq => ?_)
  refine gg_k (k2 := (0, 0)) rfl ?_
  obtain ⟨e9, rfl⟩ := hq
  rw [e9]
  clear e9 S1
  refine gg_if_eq (tgt := 38) dX7_costOf_31 (by decide) (fun c31 => ?_) (fun c31 => ?_)
  · have e1 := hb_ifn c31
    rw [if_neg (by rw [e1]; decide)]
    refine gg_aload_n dX7_costOf_38 rfl rfl ?_
    refine gf_X7_13 rfl dX7_costOf_39 hM.1 rfl ?_
    refine gg_iconst (v := 1) dX7_costOf_42 (by decide) ?_
    refine gg_ald_i (1) dX7_costOf_43 hM.a1 rfl (by omega) (by decide) ?_
    rw [show A 1 1 = zr s 1 from hG.r 1]
    refine gg_iadd dX7_costOf_44 ?_
    refine gg_aload_n dX7_costOf_45 rfl rfl ?_
    refine gf_X7_13 rfl dX7_costOf_46 hM.1 rfl ?_
    refine gg_iconst (v := 2) dX7_costOf_49 (by decide) ?_
    refine gg_ald_i (2) dX7_costOf_50 hM.a1 rfl (by omega) (by decide) ?_
    rw [show A 1 2 = zr s 2 from hG.r 2]
    refine gg_aload_n dX7_costOf_51 rfl rfl ?_
    refine gf_X7_47 rfl dX7_costOf_52 hM.1 rfl ?_
    refine gg_iload_n dX7_costOf_55 rfl rfl ?_
    refine gg_ald_i (t) dX7_costOf_56 hM.a12 rfl (by omega) (by decide) ?_
    rw [show A 12 t = zf s t 8 from hG.f ht 8]
    refine gg_imul dX7_costOf_57 ?_
    refine gg_iadd dX7_costOf_58 ?_
    refine gg_aload_n dX7_costOf_59 rfl rfl ?_
    refine gf_X7_32 rfl dX7_costOf_60 hM.1 rfl ?_
    refine gg_iload_n dX7_costOf_63 rfl rfl ?_
    refine gg_ald_i (t) dX7_costOf_64 hM.a7 rfl (by omega) (by decide) ?_
    rw [show A 7 t = zf s t 3 from hG.f ht 3]
    refine gg_aload_n dX7_costOf_65 rfl rfl ?_
    refine gf_X7_54 rfl dX7_costOf_66 hM.1 rfl ?_
    refine gg_iload_n dX7_costOf_69 rfl rfl ?_
    refine gg_ald_i (g) dX7_costOf_70 hM.a14 rfl (by omega) (by decide) ?_
    rw [show A 14 g = nI (zg s g 0) from hG.g hg 0]
    refine gg_callS (sp_X7_has S (zf s t 3) (nI (zg s g 0))) dX7_costOf_71 kw_X7_130 rfl rfl (Nat.le_of_ble_eq_true rfl) (Nat.le_of_ble_eq_true rfl) (Nat.le_of_ble_eq_true rfl) ⟨(Nat.le_of_ble_eq_true rfl), (Nat.le_of_ble_eq_true rfl)⟩ (fun r S1 hq => ?_)
    refine gg_k (k2 := (0, 0)) rfl ?_
    obtain ⟨e9, rfl⟩ := hq
    rw [e9]
    clear e9 S1
    refine gg_if_eq (tgt := 86) dX7_costOf_74 (by decide) (fun c74 => ?_) (fun c74 => ?_)
    · have e2 := hb_ifn c74
      rw [if_neg (show ¬ hb_ (zf s t 3) (nI (zg s g 0)) = true by rw [e2]; decide)]
      refine gg_iconst (v := 0) dX7_costOf_86 (by decide) ?_
      refine gg_isub dX7_costOf_87 ?_
      refine gg_istore_n dX7_costOf_88 rfl (Nat.le_of_ble_eq_true rfl) rfl ?_
      refine gg_iload_n dX7_costOf_89 rfl rfl ?_
      refine gg_if_ge (tgt := 97) dX7_costOf_90 (by decide) (fun c90 => ?_) (fun c90 => ?_)
      · rw [show (fun z : Int32 => if z < 0 then 0 else z) _ = _ from if_neg (Int32.not_lt.mpr c90)]
        refine gg_iload_n dX7_costOf_97 rfl rfl ?_
        exact gg_ireturn dX7_costOf_98 rfl rfl ⟨(Nat.le_of_ble_eq_true rfl), (Nat.le_of_ble_eq_true rfl)⟩ (⟨rfl, rfl⟩)
      · rw [show (fun z : Int32 => if z < 0 then 0 else z) _ = _ from if_pos (Int32.not_le.mp c90)]
        refine gg_iconst (v := 0) dX7_costOf_93 (by decide) ?_
        refine gg_goto (tgt := 98) dX7_costOf_94 (by decide) ?_
        exact gg_ireturn dX7_costOf_98 rfl rfl ⟨(Nat.le_of_ble_eq_true rfl), (Nat.le_of_ble_eq_true rfl)⟩ (⟨rfl, rfl⟩)
    · have e2 := hb_if c74
      rw [if_pos e2]
      refine gg_aload_n dX7_costOf_77 rfl rfl ?_
      refine gf_X7_13 rfl dX7_costOf_78 hM.1 rfl ?_
      refine gg_iconst (v := 3) dX7_costOf_81 (by decide) ?_
      refine gg_ald_i (3) dX7_costOf_82 hM.a1 rfl (by omega) (by decide) ?_
      rw [show A 1 3 = zr s 3 from hG.r 3]
      refine gg_goto (tgt := 87) dX7_costOf_83 (by decide) ?_
      refine gg_isub dX7_costOf_87 ?_
      refine gg_istore_n dX7_costOf_88 rfl (Nat.le_of_ble_eq_true rfl) rfl ?_
      refine gg_iload_n dX7_costOf_89 rfl rfl ?_
      refine gg_if_ge (tgt := 97) dX7_costOf_90 (by decide) (fun c90 => ?_) (fun c90 => ?_)
      · rw [show (fun z : Int32 => if z < 0 then 0 else z) _ = _ from if_neg (Int32.not_lt.mpr c90)]
        refine gg_iload_n dX7_costOf_97 rfl rfl ?_
        exact gg_ireturn dX7_costOf_98 rfl rfl ⟨(Nat.le_of_ble_eq_true rfl), (Nat.le_of_ble_eq_true rfl)⟩ (⟨rfl, rfl⟩)
      · rw [show (fun z : Int32 => if z < 0 then 0 else z) _ = _ from if_pos (Int32.not_le.mp c90)]
        refine gg_iconst (v := 0) dX7_costOf_93 (by decide) ?_
        refine gg_goto (tgt := 98) dX7_costOf_94 (by decide) ?_
        exact gg_ireturn dX7_costOf_98 rfl rfl ⟨(Nat.le_of_ble_eq_true rfl), (Nat.le_of_ble_eq_true rfl)⟩ (⟨rfl, rfl⟩)
  · have e1 := hb_if c31
    rw [if_pos e1]
    refine gg_iconst (v := 0) dX7_costOf_34 (by decide) ?_
    refine gg_goto (tgt := 44) dX7_costOf_35 (by decide) ?_
    refine gg_iadd dX7_costOf_44 ?_
    refine gg_aload_n dX7_costOf_45 rfl rfl ?_
    refine gf_X7_13 rfl dX7_costOf_46 hM.1 rfl ?_
    refine gg_iconst (v := 2) dX7_costOf_49 (by decide) ?_
    refine gg_ald_i (2) dX7_costOf_50 hM.a1 rfl (by omega) (by decide) ?_
    rw [show A 1 2 = zr s 2 from hG.r 2]
    refine gg_aload_n dX7_costOf_51 rfl rfl ?_
    refine gf_X7_47 rfl dX7_costOf_52 hM.1 rfl ?_
    refine gg_iload_n dX7_costOf_55 rfl rfl ?_
    refine gg_ald_i (t) dX7_costOf_56 hM.a12 rfl (by omega) (by decide) ?_
    rw [show A 12 t = zf s t 8 from hG.f ht 8]
    refine gg_imul dX7_costOf_57 ?_
    refine gg_iadd dX7_costOf_58 ?_
    refine gg_aload_n dX7_costOf_59 rfl rfl ?_
    refine gf_X7_32 rfl dX7_costOf_60 hM.1 rfl ?_
    refine gg_iload_n dX7_costOf_63 rfl rfl ?_
    refine gg_ald_i (t) dX7_costOf_64 hM.a7 rfl (by omega) (by decide) ?_
    rw [show A 7 t = zf s t 3 from hG.f ht 3]
    refine gg_aload_n dX7_costOf_65 rfl rfl ?_
    refine gf_X7_54 rfl dX7_costOf_66 hM.1 rfl ?_
    refine gg_iload_n dX7_costOf_69 rfl rfl ?_
    refine gg_ald_i (g) dX7_costOf_70 hM.a14 rfl (by omega) (by decide) ?_
    rw [show A 14 g = nI (zg s g 0) from hG.g hg 0]
    refine gg_callS (sp_X7_has S (zf s t 3) (nI (zg s g 0))) dX7_costOf_71 kw_X7_130 rfl rfl (Nat.le_of_ble_eq_true rfl) (Nat.le_of_ble_eq_true rfl) (Nat.le_of_ble_eq_true rfl) ⟨(Nat.le_of_ble_eq_true rfl), (Nat.le_of_ble_eq_true rfl)⟩ (fun r S1 hq => ?_)
    refine gg_k (k2 := (0, 0)) rfl ?_
    obtain ⟨e9, rfl⟩ := hq
    rw [e9]
    clear e9 S1
    refine gg_if_eq (tgt := 86) dX7_costOf_74 (by decide) (fun c74 => ?_) (fun c74 => ?_)
    · have e2 := hb_ifn c74
      rw [if_neg (show ¬ hb_ (zf s t 3) (nI (zg s g 0)) = true by rw [e2]; decide)]
      refine gg_iconst (v := 0) dX7_costOf_86 (by decide) ?_
      refine gg_isub dX7_costOf_87 ?_
      refine gg_istore_n dX7_costOf_88 rfl (Nat.le_of_ble_eq_true rfl) rfl ?_
      refine gg_iload_n dX7_costOf_89 rfl rfl ?_
      refine gg_if_ge (tgt := 97) dX7_costOf_90 (by decide) (fun c90 => ?_) (fun c90 => ?_)
      · rw [show (fun z : Int32 => if z < 0 then 0 else z) _ = _ from if_neg (Int32.not_lt.mpr c90)]
        refine gg_iload_n dX7_costOf_97 rfl rfl ?_
        exact gg_ireturn dX7_costOf_98 rfl rfl ⟨(Nat.le_of_ble_eq_true rfl), (Nat.le_of_ble_eq_true rfl)⟩ (⟨rfl, rfl⟩)
      · rw [show (fun z : Int32 => if z < 0 then 0 else z) _ = _ from if_pos (Int32.not_le.mp c90)]
        refine gg_iconst (v := 0) dX7_costOf_93 (by decide) ?_
        refine gg_goto (tgt := 98) dX7_costOf_94 (by decide) ?_
        exact gg_ireturn dX7_costOf_98 rfl rfl ⟨(Nat.le_of_ble_eq_true rfl), (Nat.le_of_ble_eq_true rfl)⟩ (⟨rfl, rfl⟩)
    · have e2 := hb_if c74
      rw [if_pos e2]
      refine gg_aload_n dX7_costOf_77 rfl rfl ?_
      refine gf_X7_13 rfl dX7_costOf_78 hM.1 rfl ?_
      refine gg_iconst (v := 3) dX7_costOf_81 (by decide) ?_
      refine gg_ald_i (3) dX7_costOf_82 hM.a1 rfl (by omega) (by decide) ?_
      rw [show A 1 3 = zr s 3 from hG.r 3]
      refine gg_goto (tgt := 87) dX7_costOf_83 (by decide) ?_
      refine gg_isub dX7_costOf_87 ?_
      refine gg_istore_n dX7_costOf_88 rfl (Nat.le_of_ble_eq_true rfl) rfl ?_
      refine gg_iload_n dX7_costOf_89 rfl rfl ?_
      refine gg_if_ge (tgt := 97) dX7_costOf_90 (by decide) (fun c90 => ?_) (fun c90 => ?_)
      · rw [show (fun z : Int32 => if z < 0 then 0 else z) _ = _ from if_neg (Int32.not_lt.mpr c90)]
        refine gg_iload_n dX7_costOf_97 rfl rfl ?_
        exact gg_ireturn dX7_costOf_98 rfl rfl ⟨(Nat.le_of_ble_eq_true rfl), (Nat.le_of_ble_eq_true rfl)⟩ (⟨rfl, rfl⟩)
      · rw [show (fun z : Int32 => if z < 0 then 0 else z) _ = _ from if_pos (Int32.not_le.mp c90)]
        refine gg_iconst (v := 0) dX7_costOf_93 (by decide) ?_
        refine gg_goto (tgt := 98) dX7_costOf_94 (by decide) ?_
        exact gg_ireturn dX7_costOf_98 rfl rfl ⟨(Nat.le_of_ble_eq_true rfl), (Nat.le_of_ble_eq_true rfl)⟩ (⟨rfl, rfl⟩)
