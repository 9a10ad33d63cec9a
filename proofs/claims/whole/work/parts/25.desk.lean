/-! THE DESK -/
/-- the desk's own cells: 0, its rows 1 and 2, the teachers from 40 on, the gaps from 1000 on -/
def PD (S : gl_H) (tc gc day N : Nat) (gp : Nat → Option Nat) (tf mn : Nat → Nat → Int32) (pd : Nat → Int64) (gn : Nat → Nat → Nat) : Prop :=
  S 0 = some (.inr (6, [.ref 3, .ref 5, .ref 1, .ref 2, .ref 8, .ref 12, .int (nI tc), .int (nI gc), .int (nI day)])) ∧
  S 1 = some (.inl (4, 12, .inr (.inr (.inr (.inr (fun t => if t < tc then some (40 + 2 * t) else none)))))) ∧
  S 2 = some (.inl (5, 10, .inr (.inr (.inr (.inr gp))))) ∧
  (∀ t, t < tc → PE S (40 + 2 * t) (tf t) (mn t) (pd t)) ∧
  (∀ g, g < gc → ∃ q, gp g = some q ∧ 1000 ≤ q ∧ q < 1000000 ∧ PG S q (fun k => nI (gn g k))) ∧
  (∀ t, tc ≤ t → t < 12 → S (40 + 2 * t) = none ∧ S (40 + 2 * t + 1) = none) ∧ (∀ q, 1000 + N ≤ q → S q = none)
/-- the places that PD speaks of -/
def pdIn (q : Nat) : Prop := q < 3 ∨ (40 ≤ q ∧ q < 70) ∨ 1000 ≤ q
theorem PE.keep {S S1 : gl_H} {P : Nat} {f mn : Nat → Int32} {pd : Int64} (h : PE S P f mn pd) (h1 : S1 P = S P) (h2 : S1 (P + 1) = S (P + 1)) : PE S1 P f mn pd := ⟨h1.trans h.1, h2.trans h.2⟩
theorem PD.keep {S S1 : gl_H} {tc gc day N : Nat} {gp : Nat → Option Nat} {tf mn : Nat → Nat → Int32} {pd : Nat → Int64} {gn : Nat → Nat → Nat} (htc : tc ≤ 12) (h : PD S tc gc day N gp tf mn pd gn) (hq : ∀ q, pdIn q → S1 q = S q) : PD S1 tc gc day N gp tf mn pd gn :=
  ⟨(hq 0 (Or.inl (by omega))).trans h.1, (hq 1 (Or.inl (by omega))).trans h.2.1, (hq 2 (Or.inl (by omega))).trans h.2.2.1, fun t ht => (h.2.2.2.1 t ht).keep (hq _ (Or.inr (Or.inl (by omega)))) (hq _ (Or.inr (Or.inl (by omega)))), fun g hg => by
    obtain ⟨q, h1, h2, h3, h4⟩ := h.2.2.2.2.1 g hg
    exact ⟨q, h1, h2, h3, (hq q (Or.inr (Or.inr h2))).trans h4⟩, fun t h1 h2 => ⟨(hq _ (Or.inr (Or.inl (by omega)))).trans (h.2.2.2.2.2.1 t h1 h2).1, (hq _ (Or.inr (Or.inl (by omega)))).trans (h.2.2.2.2.2.1 t h1 h2).2⟩, fun q h1 => (hq q (Or.inr (Or.inr (by omega)))).trans (h.2.2.2.2.2.2 q h1)⟩
theorem Fr.pd {S S1 : gl_H} {lo hi : Nat} (h : Fr lo hi S S1) (h1 : 3 ≤ lo) (h2 : hi ≤ 40) : ∀ q, pdIn q → S1 q = S q := fun q hq => h q (fun z => by
  rcases hq with h | h | h <;> omega)
def gnOk (gc : Nat) (gn : Nat → Nat → Nat) : Prop := ∀ g, g < gc → gn g 0 < 6 ∧ gn g 1 < 16 ∧ gn g 2 < 8 ∧ gn g 3 < 4 ∧ 1 ≤ gn g 4 ∧ gn g 4 ≤ 8
/-- an index, if it is one -/
def tix (n : Nat) (t : Int32) : Option Nat := if 0 ≤ t ∧ t ≤ nI n - 1 then some t.toNatClampNeg else none
theorem nI_sub1 {n : Nat} (hn : n < 1000) : (nI n - 1).toInt = (n : Int) - 1 := by
  have h := pk_sub_toInt (a := n) (b := 1) (by omega) (by omega)
  exact h
theorem tix_in {n j : Nat} (hn : n < 1000) (hj : j < n) : (0 : Int32) ≤ nI j ∧ nI j ≤ nI n - 1 := by
  refine ⟨nI_pos' (by omega), ?_⟩
  rw [Int32.le_iff_toInt_le, nI_sub1 hn, nI_toInt (by omega)]
  omega
theorem tix_cases {n : Nat} (hn : n < 1000) (t : Int32) : (tix n t = none ∧ ¬ (0 ≤ t ∧ t ≤ nI n - 1)) ∨ ∃ j, j < n ∧ t = nI j ∧ tix n t = some j := by
  by_cases c : 0 ≤ t ∧ t ≤ nI n - 1
  · right
    have h1 : ¬ t < 0 := Int32.not_lt.mpr c.1
    obtain ⟨j, hj, rfl⟩ := nI_of h1
    have h2 := Int32.le_iff_toInt_le.mp c.2
    rw [nI_sub1 hn, nI_toInt hj] at h2
    refine ⟨j, by omega, rfl, ?_⟩
    unfold tix
    rw [if_pos c, nI_clamp hj]
  · exact Or.inl ⟨if_neg c, c⟩
theorem tix_some {n j : Nat} (hn : n < 1000) (hj : j < n) : tix n (nI j) = some j := by
  unfold tix
  rw [if_pos (tix_in hn hj), nI_clamp (by omega)]
theorem sp_X6_teacherAt_y {S : gl_H} {tc gc day N : Nat} {gp : Nat → Option Nat} {tf mn : Nat → Nat → Int32} {pd : Nat → Int64} {gn : Nat → Nat → Nat} (hD : PD S tc gc day N gp tf mn pd gn) (htc : tc ≤ 12) {j : Nat} (hj : j < tc) : Sp mX6_teacherAt yX6_teacherAt [.ref 0, .int (nI j)] S (fun r S1 => S1 = S ∧ r = some (.ref (40 + 2 * j))) := by
  refine gl_enter (j := 0) (by decide +kernel) rfl (fun h => absurd h (by decide)) (Nat.le_of_ble_eq_true rfl) rfl (fun x => ?_)
  refine gg_iload_n dX6_teacherAt_0 rfl rfl ?_
  refine gg_iconst (v := 0) dX6_teacherAt_1 (by decide) ?_
  refine gg_aload_n dX6_teacherAt_2 rfl rfl ?_
  refine gf_X6_69 rfl dX6_teacherAt_3 hD.1 rfl ?_
  refine gg_iconst (v := 1) dX6_teacherAt_6 (by decide) ?_
  refine gg_isub dX6_teacherAt_7 ?_
  refine gg_callS (sp_X6_within S (nI j) 0 (nI tc - 1)) dX6_teacherAt_8 kw_X6_61 rfl rfl (Nat.le_of_ble_eq_true rfl) (Nat.le_of_ble_eq_true rfl) (Nat.le_of_ble_eq_true rfl) ⟨(Nat.le_of_ble_eq_true rfl), (Nat.le_of_ble_eq_true rfl)⟩ (fun r S1 hq => ?_)
  refine gg_k (k2 := (0, 0)) rfl ?_
  obtain ⟨e9, rfl⟩ := hq
  rw [e9, if_pos (tix_in (by omega) hj)]
  clear e9 S1
  refine gg_if_eq (tgt := 23) dX6_teacherAt_11 (by decide) (fun c11 => ?_) (fun c11 => ?_)
  · exact absurd c11 (by decide)
  · refine gg_aload_n dX6_teacherAt_14 rfl rfl ?_
    refine gf_X6_25 rfl dX6_teacherAt_15 hD.1 rfl ?_
    refine gg_iload_n dX6_teacherAt_18 rfl rfl ?_
    refine gg_ald_q 4 RX4 (fun _ => rfl) (j) dX6_teacherAt_19 hD.2.1 rfl (by omega) (by decide) (if_pos hj) ?_
    refine gg_goto (tgt := 24) dX6_teacherAt_20 (by decide) ?_
    exact gg_areturn dX6_teacherAt_24 rfl (Or.inr ⟨_, rfl⟩) ⟨(Nat.le_of_ble_eq_true rfl), (Nat.le_of_ble_eq_true rfl)⟩ (⟨rfl, rfl⟩)
theorem sp_X6_teacherAt_n {S : gl_H} {tc gc day N : Nat} {gp : Nat → Option Nat} {tf mn : Nat → Nat → Int32} {pd : Nat → Int64} {gn : Nat → Nat → Nat} (hD : PD S tc gc day N gp tf mn pd gn) {t : Int32} (ht : ¬ (0 ≤ t ∧ t ≤ nI tc - 1)) : Sp mX6_teacherAt yX6_teacherAt [.ref 0, .int t] S (fun r S1 => S1 = S ∧ r = some .null) := by
  refine gl_enter (j := 0) (by decide +kernel) rfl (fun h => absurd h (by decide)) (Nat.le_of_ble_eq_true rfl) rfl (fun x => ?_)
  refine gg_iload_n dX6_teacherAt_0 rfl rfl ?_
  refine gg_iconst (v := 0) dX6_teacherAt_1 (by decide) ?_
  refine gg_aload_n dX6_teacherAt_2 rfl rfl ?_
  refine gf_X6_69 rfl dX6_teacherAt_3 hD.1 rfl ?_
  refine gg_iconst (v := 1) dX6_teacherAt_6 (by decide) ?_
  refine gg_isub dX6_teacherAt_7 ?_
  refine gg_callS (sp_X6_within S t 0 (nI tc - 1)) dX6_teacherAt_8 kw_X6_61 rfl rfl (Nat.le_of_ble_eq_true rfl) (Nat.le_of_ble_eq_true rfl) (Nat.le_of_ble_eq_true rfl) ⟨(Nat.le_of_ble_eq_true rfl), (Nat.le_of_ble_eq_true rfl)⟩ (fun r S1 hq => ?_)
  refine gg_k (k2 := (0, 0)) rfl ?_
  obtain ⟨e9, rfl⟩ := hq
  rw [e9, if_neg ht]
  clear e9 S1
  refine gg_if_eq (tgt := 23) dX6_teacherAt_11 (by decide) (fun c11 => ?_) (fun c11 => ?_)
  · refine gg_null dX6_teacherAt_23 ?_
    exact gg_areturn dX6_teacherAt_24 rfl (Or.inl rfl) ⟨(Nat.le_of_ble_eq_true rfl), (Nat.le_of_ble_eq_true rfl)⟩ (⟨rfl, rfl⟩)
  · exact absurd rfl c11
theorem sp_X6_gapAt_y {S : gl_H} {tc gc day N : Nat} {gp : Nat → Option Nat} {tf mn : Nat → Nat → Int32} {pd : Nat → Int64} {gn : Nat → Nat → Nat} (hD : PD S tc gc day N gp tf mn pd gn) (hgc : gc ≤ 10) {j : Nat} (hj : j < gc) {q : Nat} (hq0 : gp j = some q) : Sp mX6_gapAt yX6_gapAt [.ref 0, .int (nI j)] S (fun r S1 => S1 = S ∧ r = some (.ref q)) := by
  refine gl_enter (j := 0) (by decide +kernel) rfl (fun h => absurd h (by decide)) (Nat.le_of_ble_eq_true rfl) rfl (fun x => ?_)
  refine gg_iload_n dX6_gapAt_0 rfl rfl ?_
  refine gg_iconst (v := 0) dX6_gapAt_1 (by decide) ?_
  refine gg_aload_n dX6_gapAt_2 rfl rfl ?_
  refine gf_X6_93 rfl dX6_gapAt_3 hD.1 rfl ?_
  refine gg_iconst (v := 1) dX6_gapAt_6 (by decide) ?_
  refine gg_isub dX6_gapAt_7 ?_
  refine gg_callS (sp_X6_within S (nI j) 0 (nI gc - 1)) dX6_gapAt_8 kw_X6_61 rfl rfl (Nat.le_of_ble_eq_true rfl) (Nat.le_of_ble_eq_true rfl) (Nat.le_of_ble_eq_true rfl) ⟨(Nat.le_of_ble_eq_true rfl), (Nat.le_of_ble_eq_true rfl)⟩ (fun r S1 hq => ?_)
  refine gg_k (k2 := (0, 0)) rfl ?_
  obtain ⟨e9, rfl⟩ := hq
  rw [e9, if_pos (tix_in (by omega) hj)]
  clear e9 S1
  refine gg_if_eq (tgt := 23) dX6_gapAt_11 (by decide) (fun c11 => ?_) (fun c11 => ?_)
  · exact absurd c11 (by decide)
  · refine gg_aload_n dX6_gapAt_14 rfl rfl ?_
    refine gf_X6_31 rfl dX6_gapAt_15 hD.1 rfl ?_
    refine gg_iload_n dX6_gapAt_18 rfl rfl ?_
    refine gg_ald_q 5 RX0 (fun _ => rfl) (j) dX6_gapAt_19 hD.2.2.1 rfl (by omega) (by decide) hq0 ?_
    refine gg_goto (tgt := 24) dX6_gapAt_20 (by decide) ?_
    exact gg_areturn dX6_gapAt_24 rfl (Or.inr ⟨_, rfl⟩) ⟨(Nat.le_of_ble_eq_true rfl), (Nat.le_of_ble_eq_true rfl)⟩ (⟨rfl, rfl⟩)
theorem sp_X6_gapAt_n {S : gl_H} {tc gc day N : Nat} {gp : Nat → Option Nat} {tf mn : Nat → Nat → Int32} {pd : Nat → Int64} {gn : Nat → Nat → Nat} (hD : PD S tc gc day N gp tf mn pd gn) {t : Int32} (ht : ¬ (0 ≤ t ∧ t ≤ nI gc - 1)) : Sp mX6_gapAt yX6_gapAt [.ref 0, .int t] S (fun r S1 => S1 = S ∧ r = some .null) := by
  refine gl_enter (j := 0) (by decide +kernel) rfl (fun h => absurd h (by decide)) (Nat.le_of_ble_eq_true rfl) rfl (fun x => ?_)
  refine gg_iload_n dX6_gapAt_0 rfl rfl ?_
  refine gg_iconst (v := 0) dX6_gapAt_1 (by decide) ?_
  refine gg_aload_n dX6_gapAt_2 rfl rfl ?_
  refine gf_X6_93 rfl dX6_gapAt_3 hD.1 rfl ?_
  refine gg_iconst (v := 1) dX6_gapAt_6 (by decide) ?_
  refine gg_isub dX6_gapAt_7 ?_
  refine gg_callS (sp_X6_within S t 0 (nI gc - 1)) dX6_gapAt_8 kw_X6_61 rfl rfl (Nat.le_of_ble_eq_true rfl) (Nat.le_of_ble_eq_true rfl) (Nat.le_of_ble_eq_true rfl) ⟨(Nat.le_of_ble_eq_true rfl), (Nat.le_of_ble_eq_true rfl)⟩ (fun r S1 hq => ?_)
  refine gg_k (k2 := (0, 0)) rfl ?_
  obtain ⟨e9, rfl⟩ := hq
  rw [e9, if_neg ht]
  clear e9 S1
  refine gg_if_eq (tgt := 23) dX6_gapAt_11 (by decide) (fun c11 => ?_) (fun c11 => ?_)
  · refine gg_null dX6_gapAt_23 ?_
    exact gg_areturn dX6_gapAt_24 rfl (Or.inl rfl) ⟨(Nat.le_of_ble_eq_true rfl), (Nat.le_of_ble_eq_true rfl)⟩ (⟨rfl, rfl⟩)
  · exact absurd rfl c11
theorem sp_X6_isSchool (S : gl_H) (a : Int32) : Sp mX6_isSchool yX6_isSchool [.int a] S (fun r S1 => S1 = S ∧ r = some (.int (if 0 ≤ a ∧ a ≤ 5 then 1 else 0))) := by
  refine gl_enter (j := 0) (by decide +kernel) rfl (fun h => absurd h (by decide)) (Nat.le_of_ble_eq_true rfl) rfl (fun x => ?_)
  refine gg_iload_n dX6_isSchool_0 rfl rfl ?_
  refine gg_iconst (v := 0) dX6_isSchool_1 (by decide) ?_
  refine gg_iconst (v := 5) dX6_isSchool_2 (by decide) ?_
  refine gg_callS (sp_X6_within S a 0 5) dX6_isSchool_3 kw_X6_61 rfl rfl (Nat.le_of_ble_eq_true rfl) (Nat.le_of_ble_eq_true rfl) (Nat.le_of_ble_eq_true rfl) ⟨(Nat.le_of_ble_eq_true rfl), (Nat.le_of_ble_eq_true rfl)⟩ (fun r S1 hq => ?_)
  refine gg_k (k2 := (0, 0)) rfl ?_
  obtain ⟨e9, rfl⟩ := hq
  rw [e9]
  clear e9 S1
  exact gg_ireturn dX6_isSchool_6 rfl (by split <;> rfl) ⟨(Nat.le_of_ble_eq_true rfl), (Nat.le_of_ble_eq_true rfl)⟩ (⟨rfl, rfl⟩)
theorem sp_X6_isClass (S : gl_H) (a : Int32) : Sp mX6_isClass yX6_isClass [.int a] S (fun r S1 => S1 = S ∧ r = some (.int (if 0 ≤ a ∧ a ≤ 15 then 1 else 0))) := by
  refine gl_enter (j := 0) (by decide +kernel) rfl (fun h => absurd h (by decide)) (Nat.le_of_ble_eq_true rfl) rfl (fun x => ?_)
  refine gg_iload_n dX6_isClass_0 rfl rfl ?_
  refine gg_iconst (v := 0) dX6_isClass_1 (by decide) ?_
  refine gg_bipush (v := 15) dX6_isClass_2 (by decide) ?_
  refine gg_callS (sp_X6_within S a 0 15) dX6_isClass_4 kw_X6_61 rfl rfl (Nat.le_of_ble_eq_true rfl) (Nat.le_of_ble_eq_true rfl) (Nat.le_of_ble_eq_true rfl) ⟨(Nat.le_of_ble_eq_true rfl), (Nat.le_of_ble_eq_true rfl)⟩ (fun r S1 hq => ?_)
  refine gg_k (k2 := (0, 0)) rfl ?_
  obtain ⟨e9, rfl⟩ := hq
  rw [e9]
  clear e9 S1
  exact gg_ireturn dX6_isClass_7 rfl (by split <;> rfl) ⟨(Nat.le_of_ble_eq_true rfl), (Nat.le_of_ble_eq_true rfl)⟩ (⟨rfl, rfl⟩)
theorem se_loop {S : gl_H} {tc gc day N : Nat} {gp : Nat → Option Nat} {tf mn : Nat → Nat → Int32} {pd : Nat → Int64} {gn : Nat → Nat → Nat} (hD : PD S tc gc day N gp tf mn pd gn) (htc : tc ≤ 12) {g : Int32} (x : gl_X) {Q : Option Value → gl_H → Prop} : ∀ (m t : Nat), t + m = tc → Q (some (.int (oI (ffst (fun t => (tf t 5 == 1) && (tf t 6 == g)) t m)))) S → GG mX6_sentTo x (gl_Z mX6_sentTo x Q) 2 [some (.ref 0), some (.int g), some (.int (nI t)), none] [] S (0, 0) := by
  intro m
  induction m with
  | zero =>
    intro t hm hQ
    have e : t = tc := by omega
    subst e
    refine gg_iload_n dX6_sentTo_2 rfl rfl ?_
    refine gg_aload_n dX6_sentTo_3 rfl rfl ?_
    refine gf_X6_69 rfl dX6_sentTo_4 hD.1 rfl ?_
    refine gg_icmp_ge (tgt := 44) dX6_sentTo_7 (by decide) (fun c7 => ?_) (fun c7 => ?_)
    · refine gg_iconst (v := -1) dX6_sentTo_44 (by decide) ?_
      exact gg_ireturn dX6_sentTo_45 rfl rfl ⟨(Nat.le_of_ble_eq_true rfl), (Nat.le_of_ble_eq_true rfl)⟩ (hQ)
    · exact absurd (nI_le (Nat.le_refl t) (by omega)) c7
  | succ m ih =>
    intro t hm hQ
    have ht : t < tc := by omega
    have e0 : ffst (fun t => (tf t 5 == 1) && (tf t 6 == g)) t (m + 1) = if ((tf t 5 == 1) && (tf t 6 == g)) then some t else ffst (fun t => (tf t 5 == 1) && (tf t 6 == g)) (t + 1) m := rfl
    rw [e0] at hQ
    refine gg_iload_n dX6_sentTo_2 rfl rfl ?_
    refine gg_aload_n dX6_sentTo_3 rfl rfl ?_
    refine gf_X6_69 rfl dX6_sentTo_4 hD.1 rfl ?_
    refine gg_icmp_ge (tgt := 44) dX6_sentTo_7 (by decide) (fun c7 => ?_) (fun c7 => ?_)
    · exact absurd (n_le c7) (by omega)
    · refine gg_aload_n dX6_sentTo_10 rfl rfl ?_
      refine gg_iload_n dX6_sentTo_11 rfl rfl ?_
      refine gg_callV (sp_X6_teacherAt_y hD htc ht) dX6_sentTo_12 kw_X6_75 rfl hD.1 rfl rfl (Nat.le_of_ble_eq_true rfl) (Nat.le_of_ble_eq_true rfl) (Nat.le_of_ble_eq_true rfl) ⟨(Nat.le_of_ble_eq_true rfl), (Nat.le_of_ble_eq_true rfl)⟩ (fun r S1 hq => ?_)
      refine gg_k (k2 := (0, 0)) rfl ?_
      obtain ⟨e9, rfl⟩ := hq
      rw [e9]
      clear e9 S1
      refine gg_astore_n dX6_sentTo_15 rfl (Nat.le_of_ble_eq_true rfl) rfl ?_
      refine gg_aload_n dX6_sentTo_16 rfl rfl ?_
      refine gg_ifnull dX6_sentTo_17 ?_
      refine gg_aload_n dX6_sentTo_20 rfl rfl ?_
      refine gf_X6_173 rfl dX6_sentTo_21 (hD.2.2.2.1 t ht).1 rfl ?_
      refine gg_iconst (v := 1) dX6_sentTo_24 (by decide) ?_
      refine gg_icmp_ne (tgt := 38) dX6_sentTo_25 (by decide) (fun c25 => ?_) (fun c25 => ?_)
      · have e : ¬ ((tf t 5 == 1) && (tf t 6 == g)) = true := by simp [c25]
        refine gg_iinc (w := nI (t + 1)) dX6_sentTo_38 rfl (nI_1 t) (Nat.le_of_ble_eq_true rfl) rfl ?_
        refine gg_goto (tgt := 2) dX6_sentTo_41 (by decide) ?_
        refine gg_fg [true, true, true, false] ?_
        exact ih (t + 1) (by omega) (by rw [if_neg e] at hQ; exact hQ)
      · refine gg_aload_n dX6_sentTo_28 rfl rfl ?_
        refine gf_X6_176 rfl dX6_sentTo_29 (hD.2.2.2.1 t ht).1 rfl ?_
        refine gg_iload_n dX6_sentTo_32 rfl rfl ?_
        refine gg_icmp_ne (tgt := 38) dX6_sentTo_33 (by decide) (fun c33 => ?_) (fun c33 => ?_)
        · have e : ¬ ((tf t 5 == 1) && (tf t 6 == g)) = true := by simp [c33]
          refine gg_iinc (w := nI (t + 1)) dX6_sentTo_38 rfl (nI_1 t) (Nat.le_of_ble_eq_true rfl) rfl ?_
          refine gg_goto (tgt := 2) dX6_sentTo_41 (by decide) ?_
          refine gg_fg [true, true, true, false] ?_
          exact ih (t + 1) (by omega) (by rw [if_neg e] at hQ; exact hQ)
        · have e : ((tf t 5 == 1) && (tf t 6 == g)) = true := by simp [c25, c33]
          rw [if_pos e] at hQ
          refine gg_iload_n dX6_sentTo_36 rfl rfl ?_
          exact gg_ireturn dX6_sentTo_37 rfl rfl ⟨(Nat.le_of_ble_eq_true rfl), (Nat.le_of_ble_eq_true rfl)⟩ (hQ)
theorem sp_X6_sentTo {S : gl_H} {tc gc day N : Nat} {gp : Nat → Option Nat} {tf mn : Nat → Nat → Int32} {pd : Nat → Int64} {gn : Nat → Nat → Nat} (hD : PD S tc gc day N gp tf mn pd gn) (htc : tc ≤ 12) (g : Int32) : Sp mX6_sentTo yX6_sentTo [.ref 0, .int g] S (fun r S1 => S1 = S ∧ r = some (.int (oI (ffst (fun t => (tf t 5 == 1) && (tf t 6 == g)) 0 tc)))) := by
  refine gl_enter (j := 2) (by decide +kernel) rfl (fun h => absurd h (by decide)) (Nat.le_of_ble_eq_true rfl) rfl (fun x => ?_)
  refine gg_iconst (v := 0) dX6_sentTo_0 (by decide) ?_
  refine gg_istore_n dX6_sentTo_1 rfl (Nat.le_of_ble_eq_true rfl) rfl ?_
  exact se_loop hD htc x tc 0 (by omega) ⟨rfl, rfl⟩
theorem cs_loop {S : gl_H} {tc gc day N : Nat} {gp : Nat → Option Nat} {tf mn : Nat → Nat → Int32} {pd : Nat → Int64} {gn : Nat → Nat → Nat} (hD : PD S tc gc day N gp tf mn pd gn) (htc : tc ≤ 12) {s : Int32} (x : gl_X) : ∀ (m t : Nat), t + m = tc → GG mX6_countInState x (gl_Z mX6_countInState x (fun r S1 => S1 = S ∧ r = some (.int (nI (cntN (fun t => tf t 5 == s) tc))))) 4 [some (.ref 0), some (.int s), some (.int (nI (cntN (fun t => tf t 5 == s) t))), some (.int (nI t)), none] [] S (0, 0) := by
  intro m
  induction m with
  | zero =>
    intro t hm
    have e : t = tc := by omega
    subst e
    refine gg_iload_n dX6_countInState_4 rfl rfl ?_
    refine gg_aload_n dX6_countInState_5 rfl rfl ?_
    refine gf_X6_69 rfl dX6_countInState_6 hD.1 rfl ?_
    refine gg_icmp_ge (tgt := 42) dX6_countInState_9 (by decide) (fun c9 => ?_) (fun c9 => ?_)
    · refine gg_iload_n dX6_countInState_42 rfl rfl ?_
      exact gg_ireturn dX6_countInState_43 rfl rfl ⟨(Nat.le_of_ble_eq_true rfl), (Nat.le_of_ble_eq_true rfl)⟩ (⟨rfl, rfl⟩)
    · exact absurd (nI_le (Nat.le_refl t) (by omega)) c9
  | succ m ih =>
    intro t hm
    have ht : t < tc := by omega
    refine gg_iload_n dX6_countInState_4 rfl rfl ?_
    refine gg_aload_n dX6_countInState_5 rfl rfl ?_
    refine gf_X6_69 rfl dX6_countInState_6 hD.1 rfl ?_
    refine gg_icmp_ge (tgt := 42) dX6_countInState_9 (by decide) (fun c9 => ?_) (fun c9 => ?_)
    · exact absurd (n_le c9) (by omega)
    · refine gg_aload_n dX6_countInState_12 rfl rfl ?_
      refine gg_iload_n dX6_countInState_13 rfl rfl ?_
      refine gg_callV (sp_X6_teacherAt_y hD htc ht) dX6_countInState_14 kw_X6_75 rfl hD.1 rfl rfl (Nat.le_of_ble_eq_true rfl) (Nat.le_of_ble_eq_true rfl) (Nat.le_of_ble_eq_true rfl) ⟨(Nat.le_of_ble_eq_true rfl), (Nat.le_of_ble_eq_true rfl)⟩ (fun r S1 hq => ?_)
      refine gg_k (k2 := (0, 0)) rfl ?_
      obtain ⟨e9, rfl⟩ := hq
      rw [e9]
      clear e9 S1
      refine gg_astore dX6_countInState_17 (Nat.le_of_ble_eq_true rfl) rfl ?_
      refine gg_aload dX6_countInState_19 rfl ?_
      refine gg_ifnull dX6_countInState_21 ?_
      refine gg_aload dX6_countInState_24 rfl ?_
      refine gf_X6_173 rfl dX6_countInState_26 (hD.2.2.2.1 t ht).1 rfl ?_
      refine gg_iload_n dX6_countInState_29 rfl rfl ?_
      refine gg_icmp_ne (tgt := 36) dX6_countInState_30 (by decide) (fun c30 => ?_) (fun c30 => ?_)
      · have e : cntN (fun t => tf t 5 == s) (t + 1) = cntN (fun t => tf t 5 == s) t := if_neg (by simp [c30])
        refine gg_iinc (w := nI (t + 1)) dX6_countInState_36 rfl (nI_1 t) (Nat.le_of_ble_eq_true rfl) rfl ?_
        refine gg_goto (tgt := 4) dX6_countInState_39 (by decide) ?_
        have h9 := ih (t + 1) (by omega)
        rw [e] at h9
        refine gg_fg [true, true, true, true, false] ?_
        exact h9
      · have e : cntN (fun t => tf t 5 == s) (t + 1) = cntN (fun t => tf t 5 == s) t + 1 := if_pos (by simp [c30])
        refine gg_iinc (w := nI (cntN (fun t => tf t 5 == s) t + 1)) dX6_countInState_33 rfl (nI_1 _) (Nat.le_of_ble_eq_true rfl) rfl ?_
        refine gg_iinc (w := nI (t + 1)) dX6_countInState_36 rfl (nI_1 t) (Nat.le_of_ble_eq_true rfl) rfl ?_
        refine gg_goto (tgt := 4) dX6_countInState_39 (by decide) ?_
        have h9 := ih (t + 1) (by omega)
        rw [e] at h9
        refine gg_fg [true, true, true, true, false] ?_
        exact h9
theorem sp_X6_countInState {S : gl_H} {tc gc day N : Nat} {gp : Nat → Option Nat} {tf mn : Nat → Nat → Int32} {pd : Nat → Int64} {gn : Nat → Nat → Nat} (hD : PD S tc gc day N gp tf mn pd gn) (htc : tc ≤ 12) (s : Int32) : Sp mX6_countInState yX6_countInState [.ref 0, .int s] S (fun r S1 => S1 = S ∧ r = some (.int (nI (cntN (fun t => tf t 5 == s) tc)))) := by
  refine gl_enter (j := 3) (by decide +kernel) rfl (fun h => absurd h (by decide)) (Nat.le_of_ble_eq_true rfl) rfl (fun x => ?_)
  refine gg_iconst (v := 0) dX6_countInState_0 (by decide) ?_
  refine gg_istore_n dX6_countInState_1 rfl (Nat.le_of_ble_eq_true rfl) rfl ?_
  refine gg_iconst (v := 0) dX6_countInState_2 (by decide) ?_
  refine gg_istore_n dX6_countInState_3 rfl (Nat.le_of_ble_eq_true rfl) rfl ?_
  exact cs_loop hD htc x tc 0 (by omega)
abbrev ot_T : Type := (Nat → Nat → Int64) × (Nat → Int32)
def goB (tf mn : Nat → Nat → Int32) (h num : Nat → Int32) (sc day t : Nat) : Bool := (tf t 5 == 0) && flB (tf t) (mn t) h num sc day
def otS (tf mn : Nat → Nat → Int32) (h num : Nat → Int32) (sc day g t : Nat) (s : ot_T) : ot_T := if goB tf mn h num sc day t then (va_up s.1 g (vp_updL (s.1 g) t (wtE g t (csI (tf t) (mn t) h num sc))), upd s.2 g (s.2 g ||| ((1 : Int32) <<< (nI t &&& 31)))) else s
def otF (tf mn : Nat → Nat → Int32) (h num : Nat → Int32) (sc day g : Nat) : Nat → ot_T → ot_T
  | 0, s => s
  | t + 1, s => otS tf mn h num sc day g t (otF tf mn h num sc day g t s)
theorem PB.fr {S S1 : gl_H} {num dr : Nat → Int32} {pl lo hi : Nat} (h : PB S num dr pl) (hf : Fr lo hi S S1) (h1 : hi ≤ 5 ∨ 8 ≤ lo) : PB S1 num dr pl := ⟨(hf 5 (by omega)).trans h.1, (hf 6 (by omega)).trans h.2.1, (hf 7 (by omega)).trans h.2.2⟩
theorem PT.fr2 {S S1 : gl_H} {b : Nat → Int32} {t lo hi : Nat} (h : PT S b t) (hf : Fr lo hi S S1) (h1 : hi ≤ 3 ∨ 5 ≤ lo) : PT S1 b t := ⟨(hf 3 (by omega)).trans h.1, (hf 4 (by omega)).trans h.2⟩
theorem PV.fr {S S1 : gl_H} {v r d : Nat → Int32} {nx kp lo hi : Nat} (h : PV S v r d nx kp) (hf : Fr lo hi S S1) (h1 : hi ≤ 8 ∨ 12 ≤ lo) : PV S1 v r d nx kp := ⟨(hf 8 (by omega)).trans h.1, (hf 9 (by omega)).trans h.2.1, (hf 10 (by omega)).trans h.2.2.1, (hf 11 (by omega)).trans h.2.2.2⟩
theorem PM.fr {S S1 : gl_H} {og tk : Int32} {w : Nat → Nat → Int64} {tks to : Nat → Int32} {tl : Nat → Int64} {lt : Nat → Int32} {lo hi : Nat} (h : PM S og tk w tks to tl lt) (hf : Fr lo hi S S1) (h1 : hi ≤ 12 ∨ 30 ≤ lo) : PM S1 og tk w tks to tl lt := h.keep (fun q h2 h3 => hf q (by omega))
theorem ot_loop {S0 : gl_H} {tc gc day N : Nat} {gp : Nat → Option Nat} {tf mn : Nat → Nat → Int32} {pd : Nat → Int64} {gn : Nat → Nat → Nat} (hD0 : PD S0 tc gc day N gp tf mn pd gn) (htc : tc ≤ 12) {num dr : Nat → Int32} {pl : Nat} (hB0 : PB S0 num dr pl) {g q : Nat} (hg : g < 10) (hg0 : gn g 0 < 6) (hq3 : 1000 ≤ q) (hG0 : PG S0 q (fun k => nI (gn g k))) {og tk : Int32} {to : Nat → Int32} {tl : Nat → Int64} {lt : Nat → Int32} {s0 : ot_T} (x : gl_X) : ∀ (m t : Nat), t + m = tc → ∀ S, PM S og tk (otF tf mn (fun k => nI (gn g k)) num (gn g 0) day g t s0).1 (otF tf mn (fun k => nI (gn g k)) num (gn g 0) day g t s0).2 to tl lt → Fr 12 30 S0 S → GG mX6_offerTeachers x (gl_Z mX6_offerTeachers x (fun r S1 => r = none ∧ PM S1 og tk (otF tf mn (fun k => nI (gn g k)) num (gn g 0) day g tc s0).1 (otF tf mn (fun k => nI (gn g k)) num (gn g 0) day g tc s0).2 to tl lt ∧ Fr 12 30 S0 S1)) 2 [some (.ref 0), some (.int (nI g)), some (.ref q), some (.int (nI t)), none] [] S (0, 0) := by
  intro m
  induction m with
  | zero =>
    intro t hm S hp hf
    have hD := hD0.keep htc (hf.pd (by decide) (by decide))
    have e : t = tc := by omega
    subst e
    refine gg_iload_n dX6_offerTeachers_2 rfl rfl ?_
    refine gg_aload_n dX6_offerTeachers_3 rfl rfl ?_
    refine gf_X6_69 rfl dX6_offerTeachers_4 hD.1 rfl ?_
    refine gg_icmp_ge (tgt := 72) dX6_offerTeachers_7 (by decide) (fun c7 => ?_) (fun c7 => ?_)
    · exact gg_return dX6_offerTeachers_72 rfl ⟨(Nat.le_of_ble_eq_true rfl), (Nat.le_of_ble_eq_true rfl)⟩ (⟨rfl, hp, hf⟩)
    · exact absurd (nI_le (Nat.le_refl t) (by omega)) c7
  | succ m ih =>
    intro t hm S hp hf
    have hD := hD0.keep htc (hf.pd (by decide) (by decide))
    have hB := hB0.fr hf (Or.inr (by decide))
    have hG : PG S q (fun k => nI (gn g k)) := (hf q (by omega)).trans hG0
    have ht : t < tc := by omega
    generalize hs : otF tf mn (fun k => nI (gn g k)) num (gn g 0) day g t s0 = s at hp
    refine gg_iload_n dX6_offerTeachers_2 rfl rfl ?_
    refine gg_aload_n dX6_offerTeachers_3 rfl rfl ?_
    refine gf_X6_69 rfl dX6_offerTeachers_4 hD.1 rfl ?_
    refine gg_icmp_ge (tgt := 72) dX6_offerTeachers_7 (by decide) (fun c7 => ?_) (fun c7 => ?_)
    · exact absurd (n_le c7) (by omega)
    · refine gg_aload_n dX6_offerTeachers_10 rfl rfl ?_
      refine gg_iload_n dX6_offerTeachers_11 rfl rfl ?_
      refine gg_callV (sp_X6_teacherAt_y hD htc ht) dX6_offerTeachers_12 kw_X6_75 rfl hD.1 rfl rfl (Nat.le_of_ble_eq_true rfl) (Nat.le_of_ble_eq_true rfl) (Nat.le_of_ble_eq_true rfl) ⟨(Nat.le_of_ble_eq_true rfl), (Nat.le_of_ble_eq_true rfl)⟩ (fun r S1 hq => ?_)
      refine gg_k (k2 := (0, 0)) rfl ?_
      obtain ⟨e9, rfl⟩ := hq
      rw [e9]
      clear e9 S1
      refine gg_astore dX6_offerTeachers_15 (Nat.le_of_ble_eq_true rfl) rfl ?_
      refine gg_aload dX6_offerTeachers_17 rfl ?_
      refine gg_ifnull dX6_offerTeachers_19 ?_
      refine gg_aload dX6_offerTeachers_22 rfl ?_
      refine gf_X6_173 rfl dX6_offerTeachers_24 (hD.2.2.2.1 t ht).1 rfl ?_
      refine gg_if_ne (tgt := 66) dX6_offerTeachers_27 (by decide) (fun c27 => ?_) (fun c27 => ?_)
      · have e : otS tf mn (fun k => nI (gn g k)) num (gn g 0) day g t s = s := if_neg (by unfold goB; simp [c27])
        refine gg_iinc (w := nI (t + 1)) dX6_offerTeachers_66 rfl (nI_1 t) (Nat.le_of_ble_eq_true rfl) rfl ?_
        refine gg_goto (tgt := 2) dX6_offerTeachers_69 (by decide) ?_
        have e3 : otF tf mn (fun k => nI (gn g k)) num (gn g 0) day g (t + 1) s0 = _ := (congrArg (otS tf mn (fun k => nI (gn g k)) num (gn g 0) day g t) hs).trans e
        refine gg_fg [true, true, true, true, false] ?_
        have h9 := ih (t + 1) (by omega) S
        rw [e3] at h9
        exact h9 hp hf
      · refine gg_aload dX6_offerTeachers_30 rfl ?_
        refine gg_aload_n dX6_offerTeachers_32 rfl rfl ?_
        refine gg_aload_n dX6_offerTeachers_33 rfl rfl ?_
        refine gf_X6_19 rfl dX6_offerTeachers_34 hD.1 rfl ?_
        refine gg_aload_n dX6_offerTeachers_37 rfl rfl ?_
        refine gf_X6_106 rfl dX6_offerTeachers_38 hD.1 rfl ?_
        refine gg_callV (sp_X4_fills (hD.2.2.2.1 t ht) hG hB rfl hg0 day) dX6_offerTeachers_41 kw_X6_109 rfl (hD.2.2.2.1 t ht).1 rfl rfl (Nat.le_of_ble_eq_true rfl) (Nat.le_of_ble_eq_true rfl) (Nat.le_of_ble_eq_true rfl) ⟨(Nat.le_of_ble_eq_true rfl), (Nat.le_of_ble_eq_true rfl)⟩ (fun r S1 hq => ?_)
        refine gg_k (k2 := (0, 0)) rfl ?_
        obtain ⟨e9, rfl⟩ := hq
        rw [e9]
        clear e9 S1
        refine gg_if_eq (tgt := 66) dX6_offerTeachers_44 (by decide) (fun c44 => ?_) (fun c44 => ?_)
        · have e : otS tf mn (fun k => nI (gn g k)) num (gn g 0) day g t s = s := if_neg (by unfold goB; rw [bI_z c44]; simp)
          refine gg_iinc (w := nI (t + 1)) dX6_offerTeachers_66 rfl (nI_1 t) (Nat.le_of_ble_eq_true rfl) rfl ?_
          refine gg_goto (tgt := 2) dX6_offerTeachers_69 (by decide) ?_
          have e3 : otF tf mn (fun k => nI (gn g k)) num (gn g 0) day g (t + 1) s0 = _ := (congrArg (otS tf mn (fun k => nI (gn g k)) num (gn g 0) day g t) hs).trans e
          refine gg_fg [true, true, true, true, false] ?_
          have h9 := ih (t + 1) (by omega) S
          rw [e3] at h9
          exact h9 hp hf
        · have e : otS tf mn (fun k => nI (gn g k)) num (gn g 0) day g t s = _ := if_pos (by unfold goB; rw [bI_nz c44]; simp [c27])
          refine gg_aload_n dX6_offerTeachers_47 rfl rfl ?_
          refine gf_X6_45 rfl dX6_offerTeachers_48 hD.1 rfl ?_
          refine gg_iload_n dX6_offerTeachers_51 rfl rfl ?_
          refine gg_iload_n dX6_offerTeachers_52 rfl rfl ?_
          refine gg_aload dX6_offerTeachers_53 rfl ?_
          refine gg_aload_n dX6_offerTeachers_55 rfl rfl ?_
          refine gg_aload_n dX6_offerTeachers_56 rfl rfl ?_
          refine gf_X6_19 rfl dX6_offerTeachers_57 hD.1 rfl ?_
          refine gg_callV (sp_X4_costFor (hD.2.2.2.1 t ht) hG hB rfl hg0) dX6_offerTeachers_60 kw_X6_113 rfl (hD.2.2.2.1 t ht).1 rfl rfl (Nat.le_of_ble_eq_true rfl) (Nat.le_of_ble_eq_true rfl) (Nat.le_of_ble_eq_true rfl) ⟨(Nat.le_of_ble_eq_true rfl), (Nat.le_of_ble_eq_true rfl)⟩ (fun r S1 hq => ?_)
          refine gg_k (k2 := (0, 0)) rfl ?_
          obtain ⟨e9, rfl⟩ := hq
          rw [e9]
          clear e9 S1
          refine gg_callV (sp_X1_offer hp hg (show t < 12 by omega) _) dX6_offerTeachers_63 kw_X6_222 rfl hp.1 rfl rfl (Nat.le_of_ble_eq_true rfl) (Nat.le_of_ble_eq_true rfl) (Nat.le_of_ble_eq_true rfl) ⟨(Nat.le_of_ble_eq_true rfl), (Nat.le_of_ble_eq_true rfl)⟩ (fun r S1 hq => ?_)
          refine gg_k (k2 := (0, 0)) rfl ?_
          obtain ⟨rfl, hp, hf1⟩ := hq
          have hf := hf.tr hf1
          clear hf1
          revert S1
          intro S hp hf
          refine gg_iinc (w := nI (t + 1)) dX6_offerTeachers_66 rfl (nI_1 t) (Nat.le_of_ble_eq_true rfl) rfl ?_
          refine gg_goto (tgt := 2) dX6_offerTeachers_69 (by decide) ?_
          have e3 : otF tf mn (fun k => nI (gn g k)) num (gn g 0) day g (t + 1) s0 = _ := (congrArg (otS tf mn (fun k => nI (gn g k)) num (gn g 0) day g t) hs).trans e
          refine gg_fg [true, true, true, true, false] ?_
          have h9 := ih (t + 1) (by omega) S
          rw [e3] at h9
          exact h9 hp hf
theorem sp_X6_offerTeachers {S : gl_H} {tc gc day N : Nat} {gp : Nat → Option Nat} {tf mn : Nat → Nat → Int32} {pd : Nat → Int64} {gn : Nat → Nat → Nat} (hD : PD S tc gc day N gp tf mn pd gn) (htc : tc ≤ 12) {num dr : Nat → Int32} {pl : Nat} (hB : PB S num dr pl) {g q : Nat} (hg : g < 10) (hg0 : gn g 0 < 6) (hq3 : 1000 ≤ q) (hG : PG S q (fun k => nI (gn g k))) {og tk : Int32} {to : Nat → Int32} {tl : Nat → Int64} {lt : Nat → Int32} {s0 : ot_T} (hp : PM S og tk s0.1 s0.2 to tl lt) : Sp mX6_offerTeachers yX6_offerTeachers [.ref 0, .int (nI g), .ref q] S (fun r S1 => r = none ∧ PM S1 og tk (otF tf mn (fun k => nI (gn g k)) num (gn g 0) day g tc s0).1 (otF tf mn (fun k => nI (gn g k)) num (gn g 0) day g tc s0).2 to tl lt ∧ Fr 12 30 S S1) := by
  refine gl_enter (j := 2) (by decide +kernel) rfl (fun h => absurd h (by decide)) (Nat.le_of_ble_eq_true rfl) rfl (fun x => ?_)
  refine gg_iconst (v := 0) dX6_offerTeachers_0 (by decide) ?_
  refine gg_istore_n dX6_offerTeachers_1 rfl (Nat.le_of_ble_eq_true rfl) rfl ?_
  exact ot_loop hD htc hB hg hg0 hq3 hG x tc 0 (by omega) S hp Fr.rf
abbrev oa_T : Type := Int32 × (Nat → Nat → Int64) × (Nat → Int32)
def opB (tf : Nat → Nat → Int32) (tc g : Nat) : Option Nat := ffst (fun t => (tf t 5 == 1) && (tf t 6 == nI g)) 0 tc
def oaS (tc day : Nat) (tf mn : Nat → Nat → Int32) (gn : Nat → Nat → Nat) (num : Nat → Int32) (g : Nat) (s : oa_T) : oa_T := match opB tf tc g with
  | some _ => s
  | none => (s.1 ||| ((1 : Int32) <<< (nI g &&& 31)), otF tf mn (fun k => nI (gn g k)) num (gn g 0) day g tc (va_up s.2.1 g (vp_updL (s.2.1 g) 12 (mUNF + dgE (nI g) 12)), s.2.2))
def oaF (tc day : Nat) (tf mn : Nat → Nat → Int32) (gn : Nat → Nat → Nat) (num : Nat → Int32) : Nat → oa_T → oa_T
  | 0, s => s
  | g + 1, s => oaS tc day tf mn gn num g (oaF tc day tf mn gn num g s)
theorem oa_loop {S0 : gl_H} {tc gc day N : Nat} {gp : Nat → Option Nat} {tf mn : Nat → Nat → Int32} {pd : Nat → Int64} {gn : Nat → Nat → Nat} (hD0 : PD S0 tc gc day N gp tf mn pd gn) (htc : tc ≤ 12) (hgc : gc ≤ 10) (hgn : gnOk gc gn) {num dr : Nat → Int32} {pl : Nat} (hB0 : PB S0 num dr pl) {to : Nat → Int32} {tl : Nat → Int64} {lt : Nat → Int32} {s0 : oa_T} (x : gl_X) : ∀ (m g : Nat), g + m = gc → ∀ S, PM S (oaF tc day tf mn gn num g s0).1 0 (oaF tc day tf mn gn num g s0).2.1 (oaF tc day tf mn gn num g s0).2.2 to tl lt → Fr 12 30 S0 S → GG mX6_offerAll x (gl_Z mX6_offerAll x (fun r S1 => r = none ∧ PM S1 (oaF tc day tf mn gn num gc s0).1 0 (oaF tc day tf mn gn num gc s0).2.1 (oaF tc day tf mn gn num gc s0).2.2 to tl lt ∧ Fr 12 30 S0 S1)) 9 [some (.ref 0), some (.int (nI g)), none] [] S (0, 0) := by
  intro m
  induction m with
  | zero =>
    intro g hm S hp hf
    have hD := hD0.keep htc (hf.pd (by decide) (by decide))
    have e : g = gc := by omega
    subst e
    refine gg_iload_n dX6_offerAll_9 rfl rfl ?_
    refine gg_aload_n dX6_offerAll_10 rfl rfl ?_
    refine gf_X6_93 rfl dX6_offerAll_11 hD.1 rfl ?_
    refine gg_icmp_ge (tgt := 56) dX6_offerAll_14 (by decide) (fun c14 => ?_) (fun c14 => ?_)
    · exact gg_return dX6_offerAll_56 rfl ⟨(Nat.le_of_ble_eq_true rfl), (Nat.le_of_ble_eq_true rfl)⟩ (⟨rfl, hp, hf⟩)
    · exact absurd (nI_le (Nat.le_refl g) (by omega)) c14
  | succ m ih =>
    intro g hm S hp hf
    have hD := hD0.keep htc (hf.pd (by decide) (by decide))
    have hB := hB0.fr hf (Or.inr (by decide))
    have hg : g < gc := by omega
    obtain ⟨q, hq0, hq3, hq4, hG⟩ := hD.2.2.2.2.1 g hg
    generalize hs : oaF tc day tf mn gn num g s0 = s at hp
    cases hop : opB tf tc g with
    | some t9 =>
      have ht9 : t9 < tc := by have := (ffst_lt hop).2.1; omega
      have e : oaS tc day tf mn gn num g s = s := by unfold oaS; rw [hop]
      refine gg_iload_n dX6_offerAll_9 rfl rfl ?_
      refine gg_aload_n dX6_offerAll_10 rfl rfl ?_
      refine gf_X6_93 rfl dX6_offerAll_11 hD.1 rfl ?_
      refine gg_icmp_ge (tgt := 56) dX6_offerAll_14 (by decide) (fun c14 => ?_) (fun c14 => ?_)
      · exact absurd (n_le c14) (by omega)
      · refine gg_aload_n dX6_offerAll_17 rfl rfl ?_
        refine gg_iload_n dX6_offerAll_18 rfl rfl ?_
        refine gg_callV (sp_X6_gapAt_y hD hgc hg hq0) dX6_offerAll_19 kw_X6_102 rfl hD.1 rfl rfl (Nat.le_of_ble_eq_true rfl) (Nat.le_of_ble_eq_true rfl) (Nat.le_of_ble_eq_true rfl) ⟨(Nat.le_of_ble_eq_true rfl), (Nat.le_of_ble_eq_true rfl)⟩ (fun r S1 hq => ?_)
        refine gg_k (k2 := (0, 0)) rfl ?_
        obtain ⟨e9, rfl⟩ := hq
        rw [e9]
        clear e9 S1
        refine gg_astore_n dX6_offerAll_22 rfl (Nat.le_of_ble_eq_true rfl) rfl ?_
        refine gg_aload_n dX6_offerAll_23 rfl rfl ?_
        refine gg_ifnull dX6_offerAll_24 ?_
        refine gg_aload_n dX6_offerAll_27 rfl rfl ?_
        refine gg_iload_n dX6_offerAll_28 rfl rfl ?_
        refine gg_callV (sp_X6_sentTo hD htc (nI g)) dX6_offerAll_29 kw_X6_127 rfl hD.1 rfl rfl (Nat.le_of_ble_eq_true rfl) (Nat.le_of_ble_eq_true rfl) (Nat.le_of_ble_eq_true rfl) ⟨(Nat.le_of_ble_eq_true rfl), (Nat.le_of_ble_eq_true rfl)⟩ (fun r S1 hq => ?_)
        refine gg_k (k2 := (0, 0)) rfl ?_
        obtain ⟨e9, rfl⟩ := hq
        rw [e9, show ffst (fun t => (tf t 5 == 1) && (tf t 6 == nI g)) 0 tc = _ from hop]
        clear e9 S1
        refine gg_iconst (v := -1) dX6_offerAll_32 (by decide) ?_
        refine gg_icmp_ne (tgt := 50) dX6_offerAll_33 (by decide) (fun c33 => ?_) (fun c33 => ?_)
        · refine gg_iinc (w := nI (g + 1)) dX6_offerAll_50 rfl (nI_1 g) (Nat.le_of_ble_eq_true rfl) rfl ?_
          refine gg_goto (tgt := 9) dX6_offerAll_53 (by decide) ?_
          have e3 : oaF tc day tf mn gn num (g + 1) s0 = _ := (congrArg (oaS tc day tf mn gn num g) hs).trans e
          refine gg_fg [true, true, false] ?_
          have h9 := ih (g + 1) (by omega) S
          rw [e3] at h9
          exact h9 hp hf
        · exact absurd c33 (nI_m1 (by omega))
    | none =>
      have e : oaS tc day tf mn gn num g s = (s.1 ||| ((1 : Int32) <<< (nI g &&& 31)), otF tf mn (fun k => nI (gn g k)) num (gn g 0) day g tc (va_up s.2.1 g (vp_updL (s.2.1 g) 12 (mUNF + dgE (nI g) 12)), s.2.2)) := by unfold oaS; rw [hop]
      refine gg_iload_n dX6_offerAll_9 rfl rfl ?_
      refine gg_aload_n dX6_offerAll_10 rfl rfl ?_
      refine gf_X6_93 rfl dX6_offerAll_11 hD.1 rfl ?_
      refine gg_icmp_ge (tgt := 56) dX6_offerAll_14 (by decide) (fun c14 => ?_) (fun c14 => ?_)
      · exact absurd (n_le c14) (by omega)
      · refine gg_aload_n dX6_offerAll_17 rfl rfl ?_
        refine gg_iload_n dX6_offerAll_18 rfl rfl ?_
        refine gg_callV (sp_X6_gapAt_y hD hgc hg hq0) dX6_offerAll_19 kw_X6_102 rfl hD.1 rfl rfl (Nat.le_of_ble_eq_true rfl) (Nat.le_of_ble_eq_true rfl) (Nat.le_of_ble_eq_true rfl) ⟨(Nat.le_of_ble_eq_true rfl), (Nat.le_of_ble_eq_true rfl)⟩ (fun r S1 hq => ?_)
        refine gg_k (k2 := (0, 0)) rfl ?_
        obtain ⟨e9, rfl⟩ := hq
        rw [e9]
        clear e9 S1
        refine gg_astore_n dX6_offerAll_22 rfl (Nat.le_of_ble_eq_true rfl) rfl ?_
        refine gg_aload_n dX6_offerAll_23 rfl rfl ?_
        refine gg_ifnull dX6_offerAll_24 ?_
        refine gg_aload_n dX6_offerAll_27 rfl rfl ?_
        refine gg_iload_n dX6_offerAll_28 rfl rfl ?_
        refine gg_callV (sp_X6_sentTo hD htc (nI g)) dX6_offerAll_29 kw_X6_127 rfl hD.1 rfl rfl (Nat.le_of_ble_eq_true rfl) (Nat.le_of_ble_eq_true rfl) (Nat.le_of_ble_eq_true rfl) ⟨(Nat.le_of_ble_eq_true rfl), (Nat.le_of_ble_eq_true rfl)⟩ (fun r S1 hq => ?_)
        refine gg_k (k2 := (0, 0)) rfl ?_
        obtain ⟨e9, rfl⟩ := hq
        rw [e9, show ffst (fun t => (tf t 5 == 1) && (tf t 6 == nI g)) 0 tc = _ from hop]
        clear e9 S1
        refine gg_iconst (v := -1) dX6_offerAll_32 (by decide) ?_
        refine gg_icmp_ne (tgt := 50) dX6_offerAll_33 (by decide) (fun c33 => ?_) (fun c33 => ?_)
        · exact absurd rfl c33
        · refine gg_aload_n dX6_offerAll_36 rfl rfl ?_
          refine gf_X6_45 rfl dX6_offerAll_37 hD.1 rfl ?_
          refine gg_iload_n dX6_offerAll_40 rfl rfl ?_
          refine gg_callV (sp_X1_open hp (show g < 10 by omega)) dX6_offerAll_41 kw_X6_215 rfl hp.1 rfl rfl (Nat.le_of_ble_eq_true rfl) (Nat.le_of_ble_eq_true rfl) (Nat.le_of_ble_eq_true rfl) ⟨(Nat.le_of_ble_eq_true rfl), (Nat.le_of_ble_eq_true rfl)⟩ (fun r S1 hq => ?_)
          refine gg_k (k2 := (0, 0)) rfl ?_
          obtain ⟨rfl, hp, hf1⟩ := hq
          have hf := hf.tr hf1
          have hG : PG S1 q (fun k => nI (gn g k)) := (hf1 q (by omega)).trans hG
          clear hf1
          revert S1
          intro S hp hf hG
          have hD := hD0.keep htc (hf.pd (by decide) (by decide))
          have hB := hB0.fr hf (Or.inr (by decide))
          refine gg_aload_n dX6_offerAll_44 rfl rfl ?_
          refine gg_iload_n dX6_offerAll_45 rfl rfl ?_
          refine gg_aload_n dX6_offerAll_46 rfl rfl ?_
          refine gg_callV (sp_X6_offerTeachers hD htc hB (show g < 10 by omega) (hgn g hg).1 hq3 hG (s0 := (va_up s.2.1 g (vp_updL (s.2.1 g) 12 (mUNF + dgE (nI g) 12)), s.2.2)) hp) dX6_offerAll_47 kw_X6_218 rfl hD.1 rfl rfl (Nat.le_of_ble_eq_true rfl) (Nat.le_of_ble_eq_true rfl) (Nat.le_of_ble_eq_true rfl) ⟨(Nat.le_of_ble_eq_true rfl), (Nat.le_of_ble_eq_true rfl)⟩ (fun r S1 hq => ?_)
          refine gg_k (k2 := (0, 0)) rfl ?_
          obtain ⟨rfl, hp, hf1⟩ := hq
          have hf := hf.tr hf1
          clear hf1
          revert S1
          intro S hp hf
          refine gg_iinc (w := nI (g + 1)) dX6_offerAll_50 rfl (nI_1 g) (Nat.le_of_ble_eq_true rfl) rfl ?_
          refine gg_goto (tgt := 9) dX6_offerAll_53 (by decide) ?_
          have e3 : oaF tc day tf mn gn num (g + 1) s0 = _ := (congrArg (oaS tc day tf mn gn num g) hs).trans e
          refine gg_fg [true, true, false] ?_
          have h9 := ih (g + 1) (by omega) S
          rw [e3] at h9
          exact h9 hp hf
theorem sp_X6_offerAll {S : gl_H} {tc gc day N : Nat} {gp : Nat → Option Nat} {tf mn : Nat → Nat → Int32} {pd : Nat → Int64} {gn : Nat → Nat → Nat} (hD : PD S tc gc day N gp tf mn pd gn) (htc : tc ≤ 12) (hgc : gc ≤ 10) (hgn : gnOk gc gn) {num dr : Nat → Int32} {pl : Nat} (hB : PB S num dr pl) {og tk : Int32} {w : Nat → Nat → Int64} {tks : Nat → Int32} {a : Nat → Nat} {tl : Nat → Int64} {lt : Nat → Int32} (hp : PM S og tk w tks (fun i => nI (a i)) tl lt) : Sp mX6_offerAll yX6_offerAll [.ref 0] S (fun r S1 => r = none ∧ PM S1 (oaF tc day tf mn gn num gc (0, clW w 10, fillN tks 10 0)).1 0 (oaF tc day tf mn gn num gc (0, clW w 10, fillN tks 10 0)).2.1 (oaF tc day tf mn gn num gc (0, clW w 10, fillN tks 10 0)).2.2 (fun i => nI (fillN a 10 12 i)) tl lt ∧ Fr 12 30 S S1) := by
  refine gl_enter (j := 2) (by decide +kernel) rfl (fun h => absurd h (by decide)) (Nat.le_of_ble_eq_true rfl) rfl (fun x => ?_)
  refine gg_aload_n dX6_offerAll_0 rfl rfl ?_
  refine gf_X6_45 rfl dX6_offerAll_1 hD.1 rfl ?_
  refine gg_callV (sp_X1_clear hp) dX6_offerAll_4 kw_X6_212 rfl hp.1 rfl rfl (Nat.le_of_ble_eq_true rfl) (Nat.le_of_ble_eq_true rfl) (Nat.le_of_ble_eq_true rfl) ⟨(Nat.le_of_ble_eq_true rfl), (Nat.le_of_ble_eq_true rfl)⟩ (fun r S1 hq => ?_)
  refine gg_k (k2 := (0, 0)) rfl ?_
  obtain ⟨rfl, hp, hf⟩ := hq
  refine gg_iconst (v := 0) dX6_offerAll_7 (by decide) ?_
  refine gg_istore_n dX6_offerAll_8 rfl (Nat.le_of_ble_eq_true rfl) rfl ?_
  exact oa_loop hD htc hgc hgn hB (s0 := (0, clW w 10, fillN tks 10 0)) x gc 0 (by omega) _ hp hf
/-- what the match starts from, by the desk's state -/
def mtO (tc gc day : Nat) (tf mn : Nat → Nat → Int32) (gn : Nat → Nat → Nat) (num : Nat → Int32) (w : Nat → Nat → Int64) (tks : Nat → Int32) : oa_T := oaF tc day tf mn gn num gc (0, clW w 10, fillN tks 10 0)
def mtS (o : oa_T) (a : Nat → Nat) (tl : Nat → Int64) (par : Nat → Option Nat) : sv_T := slF o.2.1 o.1 10 (fillN a 10 12, 0, tl, par)
theorem mt_ok {a : Nat → Nat} {tl : Nat → Int64} {par : Nat → Option Nat} (h1 : ∀ i, a i ≤ 12) (h2 : ∀ i h, par i = some h → i < 10 ∧ h < 10) : svOk (fillN a 10 12, 0, tl, par) := ⟨fun i => by
  show fillN a 10 12 i ≤ 12
  unfold fillN
  split
  · exact Nat.le_refl 12
  · exact h1 i, h2⟩
theorem sp_X6_findMatch {S : gl_H} {tc gc day N : Nat} {gp : Nat → Option Nat} {tf mn : Nat → Nat → Int32} {pd : Nat → Int64} {gn : Nat → Nat → Nat} (hD : PD S tc gc day N gp tf mn pd gn) (htc : tc ≤ 12) (hgc : gc ≤ 10) (hgn : gnOk gc gn) {num dr : Nat → Int32} {pl : Nat} (hB : PB S num dr pl) {og tk : Int32} {w : Nat → Nat → Int64} {tks : Nat → Int32} {a : Nat → Nat} {tl : Nat → Int64} {par : Nat → Option Nat} (h1 : ∀ i, a i ≤ 12) (h2 : ∀ i h, par i = some h → i < 10 ∧ h < 10) (hp : PM S og tk w tks (fun i => nI (a i)) tl (fun i => oI (par i))) : Sp mX6_findMatch yX6_findMatch [.ref 0] S (fun r S1 => r = none ∧ PM S1 (mtO tc gc day tf mn gn num w tks).1 (mtS (mtO tc gc day tf mn gn num w tks) a tl par).2.1 (mtO tc gc day tf mn gn num w tks).2.1 (mtO tc gc day tf mn gn num w tks).2.2 (fun i => nI ((mtS (mtO tc gc day tf mn gn num w tks) a tl par).1 i)) (mtS (mtO tc gc day tf mn gn num w tks) a tl par).2.2.1 (fun i => oI ((mtS (mtO tc gc day tf mn gn num w tks) a tl par).2.2.2 i)) ∧ Fr 12 30 S S1) := by
  refine gl_enter (j := 0) (by decide +kernel) rfl (fun h => absurd h (by decide)) (Nat.le_of_ble_eq_true rfl) rfl (fun x => ?_)
  refine gg_aload_n dX6_findMatch_0 rfl rfl ?_
  refine gg_callV (sp_X6_offerAll hD htc hgc hgn hB hp) dX6_findMatch_1 kw_X6_147 rfl hD.1 rfl rfl (Nat.le_of_ble_eq_true rfl) (Nat.le_of_ble_eq_true rfl) (Nat.le_of_ble_eq_true rfl) ⟨(Nat.le_of_ble_eq_true rfl), (Nat.le_of_ble_eq_true rfl)⟩ (fun r S1 hq => ?_)
  refine gg_k (k2 := (0, 0)) rfl ?_
  obtain ⟨rfl, hp, hf⟩ := hq
  have hD := hD.keep htc (hf.pd (by decide) (by decide))
  refine gg_aload_n dX6_findMatch_4 rfl rfl ?_
  refine gf_X6_45 rfl dX6_findMatch_5 hD.1 rfl ?_
  refine gg_callV (sp_X1_solve (s := (fillN a 10 12, 0, tl, par)) (mt_ok h1 h2) hp) dX6_findMatch_8 kw_X6_209 rfl hp.1 rfl rfl (Nat.le_of_ble_eq_true rfl) (Nat.le_of_ble_eq_true rfl) (Nat.le_of_ble_eq_true rfl) ⟨(Nat.le_of_ble_eq_true rfl), (Nat.le_of_ble_eq_true rfl)⟩ (fun r S1 hq => ?_)
  refine gg_k (k2 := (0, 0)) rfl ?_
  obtain ⟨rfl, hp, hf1⟩ := hq
  have hf := hf.tr hf1
  exact gg_return dX6_findMatch_11 rfl ⟨(Nat.le_of_ble_eq_true rfl), (Nat.le_of_ble_eq_true rfl)⟩ (⟨rfl, hp, hf⟩)
