/-! THE MODEL: rules -/
theorem kd_out {x : Int32} (h : x.toInt < 100 ∨ 119 < x.toInt) : kdO x = none := by
  have h0 : ∀ k, k < 7 → (gl_LT k == x) = false := fun k hk => by
    rw [beq_eq_false_iff_ne]
    intro e
    subst e
    have h9 : ∀ k, k < 7 → ¬ ((gl_LT k).toInt < 100 ∨ 119 < (gl_LT k).toInt) := by decide
    exact h9 k hk h
  unfold kdO
  simp only [ffst, h0 0 (by decide), h0 (0 + 1) (by decide), h0 (0 + 1 + 1) (by decide), h0 (0 + 1 + 1 + 1) (by decide), h0 (0 + 1 + 1 + 1 + 1) (by decide), h0 (0 + 1 + 1 + 1 + 1 + 1) (by decide), h0 (0 + 1 + 1 + 1 + 1 + 1 + 1) (by decide)]
  rfl
theorem kd_lt {x : Int32} {k : Nat} (h : kdO x = some k) : k < 7 := by
  unfold kdO at h
  have h9 : ∀ (p : Nat → Bool) (m g k : Nat), ffst p g m = some k → k < g + m := by
    intro p m
    induction m with
    | zero => intro g k h; cases h
    | succ m ih =>
      intro g k h
      unfold ffst at h
      split at h
      · cases h; omega
      · have := ih _ _ h; omega
  have := h9 _ _ _ _ h
  omega
theorem i32_20 {x : Int32} (h1 : ¬ x.toInt < 100) (h2 : ¬ 119 < x.toInt) : ∃ j, j < 20 ∧ x = nI (100 + j) := by
  refine ⟨(x.toInt - 100).toNat, by omega, ?_⟩
  apply Int32.toInt_inj.mp
  rw [nI_toInt (by omega)]
  omega
def atF (f : Nat → Int32) : Nat → Int32 := upd (upd (upd (upd (upd (upd (upd f 0 60) 1 60) 2 5) 3 20) 4 2000) 5 300) 6 2
theorem atF_j (f : Nat → Int32) : ∀ j, j < 7 → atF f j = gl_AT j := fun j hj => by
  rcases (show j = 0 ∨ j = 1 ∨ j = 2 ∨ j = 3 ∨ j = 4 ∨ j = 5 ∨ j = 6 by omega) with rfl | rfl | rfl | rfl | rfl | rfl | rfl <;> rfl
theorem sp_X7_asAtFirst {S : gl_H} {p : Nat} {f : Nat → Int32} (hS : S p = some (.inl (0, 7, .inl f))) : Sp mX7_asAtFirst yX7_asAtFirst [.ref p] S (fun r S1 => r = none ∧ S1 = gl_pu S p (.inl (0, 7, .inl (atF f)))) := by
  refine gl_enter (j := 0) (by decide +kernel) rfl (fun h => absurd h (by decide)) (Nat.le_of_ble_eq_true rfl) rfl (fun x => ?_)
  refine gg_aload_n dX7_asAtFirst_0 rfl rfl ?_
  refine gg_iconst (v := 0) dX7_asAtFirst_1 (by decide) ?_
  refine gg_bipush (v := 60) dX7_asAtFirst_2 (by decide) ?_
  refine gg_ast_i (0) dX7_asAtFirst_4 hS rfl (by decide) (by decide) ?_
  skip
  refine gg_aload_n dX7_asAtFirst_5 rfl rfl ?_
  refine gg_iconst (v := 1) dX7_asAtFirst_6 (by decide) ?_
  refine gg_bipush (v := 60) dX7_asAtFirst_7 (by decide) ?_
  refine gg_ast_i (1) dX7_asAtFirst_9 (gl_pu_s _ _ _) rfl (by decide) (by decide) ?_
  rw [pu_pu]
  refine gg_aload_n dX7_asAtFirst_10 rfl rfl ?_
  refine gg_iconst (v := 2) dX7_asAtFirst_11 (by decide) ?_
  refine gg_iconst (v := 5) dX7_asAtFirst_12 (by decide) ?_
  refine gg_ast_i (2) dX7_asAtFirst_13 (gl_pu_s _ _ _) rfl (by decide) (by decide) ?_
  rw [pu_pu]
  refine gg_aload_n dX7_asAtFirst_14 rfl rfl ?_
  refine gg_iconst (v := 3) dX7_asAtFirst_15 (by decide) ?_
  refine gg_bipush (v := 20) dX7_asAtFirst_16 (by decide) ?_
  refine gg_ast_i (3) dX7_asAtFirst_18 (gl_pu_s _ _ _) rfl (by decide) (by decide) ?_
  rw [pu_pu]
  refine gg_aload_n dX7_asAtFirst_19 rfl rfl ?_
  refine gg_iconst (v := 4) dX7_asAtFirst_20 (by decide) ?_
  refine gg_sipush (v := 2000) dX7_asAtFirst_21 (by decide) ?_
  refine gg_ast_i (4) dX7_asAtFirst_24 (gl_pu_s _ _ _) rfl (by decide) (by decide) ?_
  rw [pu_pu]
  refine gg_aload_n dX7_asAtFirst_25 rfl rfl ?_
  refine gg_iconst (v := 5) dX7_asAtFirst_26 (by decide) ?_
  refine gg_sipush (v := 300) dX7_asAtFirst_27 (by decide) ?_
  refine gg_ast_i (5) dX7_asAtFirst_30 (gl_pu_s _ _ _) rfl (by decide) (by decide) ?_
  rw [pu_pu]
  refine gg_aload_n dX7_asAtFirst_31 rfl rfl ?_
  refine gg_bipush (v := 6) dX7_asAtFirst_32 (by decide) ?_
  refine gg_iconst (v := 2) dX7_asAtFirst_34 (by decide) ?_
  refine gg_ast_i (6) dX7_asAtFirst_35 (gl_pu_s _ _ _) rfl (by decide) (by decide) ?_
  rw [pu_pu]
  exact gg_return dX7_asAtFirst_36 rfl ⟨(Nat.le_of_ble_eq_true rfl), (Nat.le_of_ble_eq_true rfl)⟩ (⟨rfl, rfl⟩)
theorem sp_X7_letter (S : gl_H) (x9 : Int32) : Sp mX7_letter yX7_letter [.int x9] S (fun r S1 => S1 = S ∧ r = some (.int (oI (kdO x9)))) := by
  refine gl_enter (j := 0) (by decide +kernel) rfl (fun h => absurd h (by decide)) (Nat.le_of_ble_eq_true rfl) rfl (fun x => ?_)
  refine gg_iload_n dX7_letter_0 rfl rfl ?_
  by_cases h1 : x9.toInt < 100
  · refine gg_tabOut (tgt := 111) dX7_letter_1 (Or.inl h1) (by decide) ?_
    rw [kd_out (Or.inl h1)]
    refine gg_iconst (v := -1) dX7_letter_111 (by decide) ?_
    exact gg_ireturn dX7_letter_112 rfl rfl ⟨(Nat.le_of_ble_eq_true rfl), (Nat.le_of_ble_eq_true rfl)⟩ (⟨rfl, rfl⟩)
  by_cases h2 : 119 < x9.toInt
  · refine gg_tabOut (tgt := 111) dX7_letter_1 (Or.inr h2) (by decide) ?_
    rw [kd_out (Or.inr h2)]
    refine gg_iconst (v := -1) dX7_letter_111 (by decide) ?_
    exact gg_ireturn dX7_letter_112 rfl rfl ⟨(Nat.le_of_ble_eq_true rfl), (Nat.le_of_ble_eq_true rfl)⟩ (⟨rfl, rfl⟩)
  obtain ⟨j, hj, rfl⟩ := i32_20 h1 h2
  rcases (show j = 0 ∨ j = 1 ∨ j = 2 ∨ j = 3 ∨ j = 4 ∨ j = 5 ∨ j = 6 ∨ j = 7 ∨ j = 8 ∨ j = 9 ∨ j = 10 ∨ j = 11 ∨ j = 12 ∨ j = 13 ∨ j = 14 ∨ j = 15 ∨ j = 16 ∨ j = 17 ∨ j = 18 ∨ j = 19 by omega) with rfl | rfl | rfl | rfl | rfl | rfl | rfl | rfl | rfl | rfl | rfl | rfl | rfl | rfl | rfl | rfl | rfl | rfl | rfl | rfl
  · refine gg_tabIn (off := 99) (tgt := 100) dX7_letter_1 (by decide) (by decide) (by decide) (by decide) ?_
    refine gg_iconst (v := 2) dX7_letter_100 (by decide) ?_
    exact gg_ireturn dX7_letter_101 rfl rfl ⟨(Nat.le_of_ble_eq_true rfl), (Nat.le_of_ble_eq_true rfl)⟩ (⟨rfl, rfl⟩)
  · refine gg_tabIn (off := 110) (tgt := 111) dX7_letter_1 (by decide) (by decide) (by decide) (by decide) ?_
    refine gg_iconst (v := -1) dX7_letter_111 (by decide) ?_
    exact gg_ireturn dX7_letter_112 rfl rfl ⟨(Nat.le_of_ble_eq_true rfl), (Nat.le_of_ble_eq_true rfl)⟩ (⟨rfl, rfl⟩)
  · refine gg_tabIn (off := 110) (tgt := 111) dX7_letter_1 (by decide) (by decide) (by decide) (by decide) ?_
    refine gg_iconst (v := -1) dX7_letter_111 (by decide) ?_
    exact gg_ireturn dX7_letter_112 rfl rfl ⟨(Nat.le_of_ble_eq_true rfl), (Nat.le_of_ble_eq_true rfl)⟩ (⟨rfl, rfl⟩)
  · refine gg_tabIn (off := 110) (tgt := 111) dX7_letter_1 (by decide) (by decide) (by decide) (by decide) ?_
    refine gg_iconst (v := -1) dX7_letter_111 (by decide) ?_
    exact gg_ireturn dX7_letter_112 rfl rfl ⟨(Nat.le_of_ble_eq_true rfl), (Nat.le_of_ble_eq_true rfl)⟩ (⟨rfl, rfl⟩)
  · refine gg_tabIn (off := 110) (tgt := 111) dX7_letter_1 (by decide) (by decide) (by decide) (by decide) ?_
    refine gg_iconst (v := -1) dX7_letter_111 (by decide) ?_
    exact gg_ireturn dX7_letter_112 rfl rfl ⟨(Nat.le_of_ble_eq_true rfl), (Nat.le_of_ble_eq_true rfl)⟩ (⟨rfl, rfl⟩)
  · refine gg_tabIn (off := 110) (tgt := 111) dX7_letter_1 (by decide) (by decide) (by decide) (by decide) ?_
    refine gg_iconst (v := -1) dX7_letter_111 (by decide) ?_
    exact gg_ireturn dX7_letter_112 rfl rfl ⟨(Nat.le_of_ble_eq_true rfl), (Nat.le_of_ble_eq_true rfl)⟩ (⟨rfl, rfl⟩)
  · refine gg_tabIn (off := 110) (tgt := 111) dX7_letter_1 (by decide) (by decide) (by decide) (by decide) ?_
    refine gg_iconst (v := -1) dX7_letter_111 (by decide) ?_
    exact gg_ireturn dX7_letter_112 rfl rfl ⟨(Nat.le_of_ble_eq_true rfl), (Nat.le_of_ble_eq_true rfl)⟩ (⟨rfl, rfl⟩)
  · refine gg_tabIn (off := 110) (tgt := 111) dX7_letter_1 (by decide) (by decide) (by decide) (by decide) ?_
    refine gg_iconst (v := -1) dX7_letter_111 (by decide) ?_
    exact gg_ireturn dX7_letter_112 rfl rfl ⟨(Nat.le_of_ble_eq_true rfl), (Nat.le_of_ble_eq_true rfl)⟩ (⟨rfl, rfl⟩)
  · refine gg_tabIn (off := 101) (tgt := 102) dX7_letter_1 (by decide) (by decide) (by decide) (by decide) ?_
    refine gg_iconst (v := 3) dX7_letter_102 (by decide) ?_
    exact gg_ireturn dX7_letter_103 rfl rfl ⟨(Nat.le_of_ble_eq_true rfl), (Nat.le_of_ble_eq_true rfl)⟩ (⟨rfl, rfl⟩)
  · refine gg_tabIn (off := 110) (tgt := 111) dX7_letter_1 (by decide) (by decide) (by decide) (by decide) ?_
    refine gg_iconst (v := -1) dX7_letter_111 (by decide) ?_
    exact gg_ireturn dX7_letter_112 rfl rfl ⟨(Nat.le_of_ble_eq_true rfl), (Nat.le_of_ble_eq_true rfl)⟩ (⟨rfl, rfl⟩)
  · refine gg_tabIn (off := 110) (tgt := 111) dX7_letter_1 (by decide) (by decide) (by decide) (by decide) ?_
    refine gg_iconst (v := -1) dX7_letter_111 (by decide) ?_
    exact gg_ireturn dX7_letter_112 rfl rfl ⟨(Nat.le_of_ble_eq_true rfl), (Nat.le_of_ble_eq_true rfl)⟩ (⟨rfl, rfl⟩)
  · refine gg_tabIn (off := 110) (tgt := 111) dX7_letter_1 (by decide) (by decide) (by decide) (by decide) ?_
    refine gg_iconst (v := -1) dX7_letter_111 (by decide) ?_
    exact gg_ireturn dX7_letter_112 rfl rfl ⟨(Nat.le_of_ble_eq_true rfl), (Nat.le_of_ble_eq_true rfl)⟩ (⟨rfl, rfl⟩)
  · refine gg_tabIn (off := 103) (tgt := 104) dX7_letter_1 (by decide) (by decide) (by decide) (by decide) ?_
    refine gg_iconst (v := 4) dX7_letter_104 (by decide) ?_
    exact gg_ireturn dX7_letter_105 rfl rfl ⟨(Nat.le_of_ble_eq_true rfl), (Nat.le_of_ble_eq_true rfl)⟩ (⟨rfl, rfl⟩)
  · refine gg_tabIn (off := 105) (tgt := 106) dX7_letter_1 (by decide) (by decide) (by decide) (by decide) ?_
    refine gg_iconst (v := 5) dX7_letter_106 (by decide) ?_
    exact gg_ireturn dX7_letter_107 rfl rfl ⟨(Nat.le_of_ble_eq_true rfl), (Nat.le_of_ble_eq_true rfl)⟩ (⟨rfl, rfl⟩)
  · refine gg_tabIn (off := 107) (tgt := 108) dX7_letter_1 (by decide) (by decide) (by decide) (by decide) ?_
    refine gg_bipush (v := 6) dX7_letter_108 (by decide) ?_
    exact gg_ireturn dX7_letter_110 rfl rfl ⟨(Nat.le_of_ble_eq_true rfl), (Nat.le_of_ble_eq_true rfl)⟩ (⟨rfl, rfl⟩)
  · refine gg_tabIn (off := 97) (tgt := 98) dX7_letter_1 (by decide) (by decide) (by decide) (by decide) ?_
    refine gg_iconst (v := 1) dX7_letter_98 (by decide) ?_
    exact gg_ireturn dX7_letter_99 rfl rfl ⟨(Nat.le_of_ble_eq_true rfl), (Nat.le_of_ble_eq_true rfl)⟩ (⟨rfl, rfl⟩)
  · refine gg_tabIn (off := 110) (tgt := 111) dX7_letter_1 (by decide) (by decide) (by decide) (by decide) ?_
    refine gg_iconst (v := -1) dX7_letter_111 (by decide) ?_
    exact gg_ireturn dX7_letter_112 rfl rfl ⟨(Nat.le_of_ble_eq_true rfl), (Nat.le_of_ble_eq_true rfl)⟩ (⟨rfl, rfl⟩)
  · refine gg_tabIn (off := 110) (tgt := 111) dX7_letter_1 (by decide) (by decide) (by decide) (by decide) ?_
    refine gg_iconst (v := -1) dX7_letter_111 (by decide) ?_
    exact gg_ireturn dX7_letter_112 rfl rfl ⟨(Nat.le_of_ble_eq_true rfl), (Nat.le_of_ble_eq_true rfl)⟩ (⟨rfl, rfl⟩)
  · refine gg_tabIn (off := 110) (tgt := 111) dX7_letter_1 (by decide) (by decide) (by decide) (by decide) ?_
    refine gg_iconst (v := -1) dX7_letter_111 (by decide) ?_
    exact gg_ireturn dX7_letter_112 rfl rfl ⟨(Nat.le_of_ble_eq_true rfl), (Nat.le_of_ble_eq_true rfl)⟩ (⟨rfl, rfl⟩)
  · refine gg_tabIn (off := 95) (tgt := 96) dX7_letter_1 (by decide) (by decide) (by decide) (by decide) ?_
    refine gg_iconst (v := 0) dX7_letter_96 (by decide) ?_
    exact gg_ireturn dX7_letter_97 rfl rfl ⟨(Nat.le_of_ble_eq_true rfl), (Nat.le_of_ble_eq_true rfl)⟩ (⟨rfl, rfl⟩)
def cbB (k : Nat) (v : Int32) : Bool := !decide (v < gl_LE k ∨ gl_MO k < v)
theorem cb_f {k : Nat} {v : Int32} (h : v < gl_LE k ∨ gl_MO k < v) : cbB k v = false := by unfold cbB; rw [decide_eq_true h]; rfl
theorem cb_t {k : Nat} {v : Int32} (h : ¬ v < gl_LE k) (h2 : ¬ gl_MO k < v) : cbB k v = true := by unfold cbB; rw [decide_eq_false (fun z => z.elim h h2)]; rfl
theorem cb_fx {k : Nat} {v : Int32} (h : cbB k v = false) : v < gl_LE k ∨ gl_MO k < v := by
  by_cases c : v < gl_LE k ∨ gl_MO k < v
  · exact c
  · rw [cb_t (fun z => c (Or.inl z)) (fun z => c (Or.inr z))] at h
    cases h
theorem cb_tx {k : Nat} {v : Int32} (h : cbB k v = true) : ¬ (v < gl_LE k ∨ gl_MO k < v) := fun c => by
  rw [cb_f c] at h
  cases h
theorem sp_X7_canBe (S : gl_H) {k m : Nat} (hk : k < 7) (hm : m < 10000) : Sp mX7_canBe yX7_canBe [.int (nI k), .int (nI m)] S (fun r S1 => S1 = S ∧ r = some (.int (bI (cbB k (nI m))))) := by
  refine gl_enter (j := 0) (by decide +kernel) rfl (fun h => absurd h (by decide)) (Nat.le_of_ble_eq_true rfl) rfl (fun x => ?_)
  have hp : ¬ nI m < 0 := nI_pos (by omega)
  have h99 : ¬ (9999 : Int32) < nI m := fun h => by
    have := n_lt (a := 9999) (b := m) h
    omega
  refine gg_iload_n dX7_canBe_0 rfl rfl ?_
  rcases (show k = 0 ∨ k = 1 ∨ k = 2 ∨ k = 3 ∨ k = 4 ∨ k = 5 ∨ k = 6 by omega) with rfl | rfl | rfl | rfl | rfl | rfl | rfl
  · refine gg_tabIn (off := 43) (tgt := 44) dX7_canBe_1 (by decide) (by decide) (by decide) (by decide) ?_
    refine gg_iload_n dX7_canBe_44 rfl rfl ?_
    refine gg_bipush (v := 120) dX7_canBe_45 (by decide) ?_
    refine gg_icmp_gt (tgt := 54) dX7_canBe_47 (by decide) (fun c47 => ?_) (fun c47 => ?_)
    · have e : cbB 0 (nI m) = false := cb_f (k := 0) (Or.inr c47)
      rw [e]
      refine gg_iconst (v := 0) dX7_canBe_54 (by decide) ?_
      exact gg_ireturn dX7_canBe_55 rfl rfl ⟨(Nat.le_of_ble_eq_true rfl), (Nat.le_of_ble_eq_true rfl)⟩ (⟨rfl, rfl⟩)
    · have e : cbB 0 (nI m) = true := cb_t (k := 0) hp c47
      rw [e]
      refine gg_iconst (v := 1) dX7_canBe_50 (by decide) ?_
      refine gg_goto (tgt := 55) dX7_canBe_51 (by decide) ?_
      exact gg_ireturn dX7_canBe_55 rfl rfl ⟨(Nat.le_of_ble_eq_true rfl), (Nat.le_of_ble_eq_true rfl)⟩ (⟨rfl, rfl⟩)
  · refine gg_tabIn (off := 55) (tgt := 56) dX7_canBe_1 (by decide) (by decide) (by decide) (by decide) ?_
    refine gg_iload_n dX7_canBe_56 rfl rfl ?_
    refine gg_sipush (v := 999) dX7_canBe_57 (by decide) ?_
    refine gg_icmp_gt (tgt := 67) dX7_canBe_60 (by decide) (fun c60 => ?_) (fun c60 => ?_)
    · have e : cbB 1 (nI m) = false := cb_f (k := 1) (Or.inr c60)
      rw [e]
      refine gg_iconst (v := 0) dX7_canBe_67 (by decide) ?_
      exact gg_ireturn dX7_canBe_68 rfl rfl ⟨(Nat.le_of_ble_eq_true rfl), (Nat.le_of_ble_eq_true rfl)⟩ (⟨rfl, rfl⟩)
    · have e : cbB 1 (nI m) = true := cb_t (k := 1) hp c60
      rw [e]
      refine gg_iconst (v := 1) dX7_canBe_63 (by decide) ?_
      refine gg_goto (tgt := 68) dX7_canBe_64 (by decide) ?_
      exact gg_ireturn dX7_canBe_68 rfl rfl ⟨(Nat.le_of_ble_eq_true rfl), (Nat.le_of_ble_eq_true rfl)⟩ (⟨rfl, rfl⟩)
  · refine gg_tabIn (off := 68) (tgt := 69) dX7_canBe_1 (by decide) (by decide) (by decide) (by decide) ?_
    refine gg_iload_n dX7_canBe_69 rfl rfl ?_
    refine gg_bipush (v := 99) dX7_canBe_70 (by decide) ?_
    refine gg_icmp_gt (tgt := 79) dX7_canBe_72 (by decide) (fun c72 => ?_) (fun c72 => ?_)
    · have e : cbB 2 (nI m) = false := cb_f (k := 2) (Or.inr c72)
      rw [e]
      refine gg_iconst (v := 0) dX7_canBe_79 (by decide) ?_
      exact gg_ireturn dX7_canBe_80 rfl rfl ⟨(Nat.le_of_ble_eq_true rfl), (Nat.le_of_ble_eq_true rfl)⟩ (⟨rfl, rfl⟩)
    · have e : cbB 2 (nI m) = true := cb_t (k := 2) hp c72
      rw [e]
      refine gg_iconst (v := 1) dX7_canBe_75 (by decide) ?_
      refine gg_goto (tgt := 80) dX7_canBe_76 (by decide) ?_
      exact gg_ireturn dX7_canBe_80 rfl rfl ⟨(Nat.le_of_ble_eq_true rfl), (Nat.le_of_ble_eq_true rfl)⟩ (⟨rfl, rfl⟩)
  · refine gg_tabIn (off := 68) (tgt := 69) dX7_canBe_1 (by decide) (by decide) (by decide) (by decide) ?_
    refine gg_iload_n dX7_canBe_69 rfl rfl ?_
    refine gg_bipush (v := 99) dX7_canBe_70 (by decide) ?_
    refine gg_icmp_gt (tgt := 79) dX7_canBe_72 (by decide) (fun c72 => ?_) (fun c72 => ?_)
    · have e : cbB 3 (nI m) = false := cb_f (k := 3) (Or.inr c72)
      rw [e]
      refine gg_iconst (v := 0) dX7_canBe_79 (by decide) ?_
      exact gg_ireturn dX7_canBe_80 rfl rfl ⟨(Nat.le_of_ble_eq_true rfl), (Nat.le_of_ble_eq_true rfl)⟩ (⟨rfl, rfl⟩)
    · have e : cbB 3 (nI m) = true := cb_t (k := 3) hp c72
      rw [e]
      refine gg_iconst (v := 1) dX7_canBe_75 (by decide) ?_
      refine gg_goto (tgt := 80) dX7_canBe_76 (by decide) ?_
      exact gg_ireturn dX7_canBe_80 rfl rfl ⟨(Nat.le_of_ble_eq_true rfl), (Nat.le_of_ble_eq_true rfl)⟩ (⟨rfl, rfl⟩)
  · refine gg_tabIn (off := 88) (tgt := 89) dX7_canBe_1 (by decide) (by decide) (by decide) (by decide) ?_
    rw [show cbB 4 (nI m) = true from cb_t (k := 4) hp h99]
    refine gg_iconst (v := 1) dX7_canBe_89 (by decide) ?_
    exact gg_ireturn dX7_canBe_90 rfl rfl ⟨(Nat.le_of_ble_eq_true rfl), (Nat.le_of_ble_eq_true rfl)⟩ (⟨rfl, rfl⟩)
  · refine gg_tabIn (off := 88) (tgt := 89) dX7_canBe_1 (by decide) (by decide) (by decide) (by decide) ?_
    rw [show cbB 5 (nI m) = true from cb_t (k := 5) hp h99]
    refine gg_iconst (v := 1) dX7_canBe_89 (by decide) ?_
    exact gg_ireturn dX7_canBe_90 rfl rfl ⟨(Nat.le_of_ble_eq_true rfl), (Nat.le_of_ble_eq_true rfl)⟩ (⟨rfl, rfl⟩)
  · refine gg_tabIn (off := 80) (tgt := 81) dX7_canBe_1 (by decide) (by decide) (by decide) (by decide) ?_
    refine gg_iload_n dX7_canBe_81 rfl rfl ?_
    refine gg_iconst (v := 1) dX7_canBe_82 (by decide) ?_
    refine gg_bipush (v := 9) dX7_canBe_83 (by decide) ?_
    refine gg_callS (sp_X7_lies S (nI m) 1 9) dX7_canBe_85 kw_X7_97 rfl rfl (Nat.le_of_ble_eq_true rfl) (Nat.le_of_ble_eq_true rfl) (Nat.le_of_ble_eq_true rfl) ⟨(Nat.le_of_ble_eq_true rfl), (Nat.le_of_ble_eq_true rfl)⟩ (fun r S1 hq => ?_)
    refine gg_k (k2 := (0, 0)) rfl ?_
    obtain ⟨e9, rfl⟩ := hq
    rw [e9, show (if (1 : Int32) ≤ nI m ∧ nI m ≤ 9 then (1 : Int32) else 0) = bI (cbB 6 (nI m)) by
      by_cases c : (1 : Int32) ≤ nI m ∧ nI m ≤ 9
      · rw [if_pos c, cb_t (k := 6) (fun y => Int32.not_lt.mpr c.1 y) (fun y => Int32.not_lt.mpr c.2 y)]; rfl
      · rw [if_neg c, cb_f (k := 6) (by
          by_cases c1 : (1 : Int32) ≤ nI m
          · exact Or.inr (Int32.not_le.mp (fun z => c ⟨c1, z⟩))
          · exact Or.inl (Int32.not_le.mp c1))]; rfl]
    clear e9 S1
    exact gg_ireturn dX7_canBe_88 rfl (bI_nar _) ⟨(Nat.le_of_ble_eq_true rfl), (Nat.le_of_ble_eq_true rfl)⟩ (⟨rfl, rfl⟩)
theorem sp_X7_at {S : gl_H} {A : Nat → Nat → Int32} {py : Nat → Int64} {n day tc gc vs : Nat} {fr mt mc : Int32} (hM : MPR S (A) (py) (n) (day) (tc) (gc) (vs) (fr) (mt) (mc)) {p j : Nat} (hj : j ≤ 60) (hp : p < 2 ^ 30) : Sp mX7_at yX7_at [.ref 70, .int (nI p), .int (nI j)] S (fun r S1 => S1 = S ∧ r = some (.int (ccV (A 0) j p))) := by
  refine gl_enter (j := 0) (by decide +kernel) rfl (fun h => absurd h (by decide)) (Nat.le_of_ble_eq_true rfl) rfl (fun x => ?_)
  refine gg_iload_n dX7_at_0 rfl rfl ?_
  refine gg_iload_n dX7_at_1 rfl rfl ?_
  refine gg_icmp_ge (tgt := 18) dX7_at_2 (by decide) (fun c2 => ?_) (fun c2 => ?_)
  · rw [show ccV (A 0) j p = 0 from if_neg (by have := n_le c2; omega)]
    refine gg_iconst (v := 0) dX7_at_18 (by decide) ?_
    exact gg_ireturn dX7_at_19 rfl rfl ⟨(Nat.le_of_ble_eq_true rfl), (Nat.le_of_ble_eq_true rfl)⟩ (⟨rfl, rfl⟩)
  · have c2 := n_nle c2
    rw [show ccV (A 0) j p = A 0 p &&& 255 from if_pos c2]
    refine gg_aload_n dX7_at_5 rfl rfl ?_
    refine gf_X7_7 rfl dX7_at_6 hM.1 rfl ?_
    refine gg_iload_n dX7_at_9 rfl rfl ?_
    refine gg_ald_b (p) dX7_at_10 hM.2.1 rfl (by omega) (by decide) ?_
    refine gg_sipush (v := 255) dX7_at_11 (by decide) ?_
    refine gg_iand dX7_at_14 ?_
    refine gg_goto (tgt := 19) dX7_at_15 (by decide) ?_
    exact gg_ireturn dX7_at_19 rfl rfl ⟨(Nat.le_of_ble_eq_true rfl), (Nat.le_of_ble_eq_true rfl)⟩ (⟨rfl, rfl⟩)
section RDL
variable {b : Nat → Int32} {n p k f : Nat} {dr : Nat → Int32}
theorem rdL_1 (hk : kdO (ccV b n p) = none) : rdL b n (f + 1) p dr = (nI (100 + p), none) := by simp [rdL, clR, hk]
theorem rdL_2 (hk : kdO (ccV b n p) = some k) (h1 : dgB b n (p + 1) = false) : rdL b n (f + 1) p dr = (nI (200 + (p + 1)), none) := by simp [rdL, clR, clQ, hk, h1]
theorem rdL_3 (hk : kdO (ccV b n p) = some k) (h1 : dgB b n (p + 1) = true) (h2 : dgB b n (rdg b n 4 (0, p + 1)).2 = true) : rdL b n (f + 1) p dr = (nI (300 + (rdg b n 4 (0, p + 1)).2), none) := by simp [rdL, clR, clQ, hk, h1, h2]
theorem rdL_e {c q : Nat} {d : Nat → Int32} (h : clR b n p dr = (c, q, d)) (hc : c ≠ 0) : rdL b n (f + 1) p dr = (nI (100 * c + q), none) := by
  unfold rdL
  rw [h]
  exact if_pos hc
theorem clR_q (hk : kdO (ccV b n p) = some k) (h1 : dgB b n (p + 1) = true) (h2 : dgB b n (rdg b n 4 (0, p + 1)).2 = false) : clR b n p dr = if (rdg b n 4 (0, p + 1)).1 < gl_LE k ∨ gl_MO k < (rdg b n 4 (0, p + 1)).1 then (4, p + 1, dr) else if (rdg b n 4 (0, p + 1)).2 < n ∧ ccV b n (rdg b n 4 (0, p + 1)).2 ≠ 59 then (5, (rdg b n 4 (0, p + 1)).2, upd dr k (rdg b n 4 (0, p + 1)).1) else (0, (rdg b n 4 (0, p + 1)).2, upd dr k (rdg b n 4 (0, p + 1)).1) := by
  unfold clR
  rw [hk]
  show clQ b n p dr k (rdg b n 4 (0, p + 1)) = _
  unfold clQ
  rw [if_neg (by rw [h1]; decide), if_neg (by rw [h2]; decide)]
theorem rdL_4 (hk : kdO (ccV b n p) = some k) (h1 : dgB b n (p + 1) = true) (h2 : dgB b n (rdg b n 4 (0, p + 1)).2 = false) (h3 : cbB k (rdg b n 4 (0, p + 1)).1 = false) : rdL b n (f + 1) p dr = (nI (400 + (p + 1)), none) := rdL_e ((clR_q hk h1 h2).trans (if_pos (cb_fx h3))) (by decide)
theorem rdL_5 (hk : kdO (ccV b n p) = some k) (h1 : dgB b n (p + 1) = true) (h2 : dgB b n (rdg b n 4 (0, p + 1)).2 = false) (h3 : cbB k (rdg b n 4 (0, p + 1)).1 = true) (h4 : (rdg b n 4 (0, p + 1)).2 < n) (h5 : ccV b n (rdg b n 4 (0, p + 1)).2 ≠ 59) : rdL b n (f + 1) p dr = (nI (500 + (rdg b n 4 (0, p + 1)).2), none) := rdL_e ((clR_q hk h1 h2).trans ((if_neg (cb_tx h3)).trans (if_pos ⟨h4, h5⟩))) (by decide)
theorem rdL_0 (hk : kdO (ccV b n p) = some k) (h1 : dgB b n (p + 1) = true) (h2 : dgB b n (rdg b n 4 (0, p + 1)).2 = false) (h3 : cbB k (rdg b n 4 (0, p + 1)).1 = true) (h4 : n ≤ (rdg b n 4 (0, p + 1)).2) : rdL b n (f + 1) p dr = (0, some (upd dr k (rdg b n 4 (0, p + 1)).1)) := by
  rw [rdL, (clR_q hk h1 h2).trans ((if_neg (cb_tx h3)).trans (if_neg (fun z => Nat.not_lt.mpr h4 z.1)))]
  exact (if_neg (fun z => z rfl)).trans (if_pos h4)
theorem rdL_s (hk : kdO (ccV b n p) = some k) (h1 : dgB b n (p + 1) = true) (h2 : dgB b n (rdg b n 4 (0, p + 1)).2 = false) (h3 : cbB k (rdg b n 4 (0, p + 1)).1 = true) (h4 : (rdg b n 4 (0, p + 1)).2 < n) (h5 : ccV b n (rdg b n 4 (0, p + 1)).2 = 59) : rdL b n (f + 1) p dr = rdL b n f ((rdg b n 4 (0, p + 1)).2 + 1) (upd dr k (rdg b n 4 (0, p + 1)).1) := by
  rw [rdL, (clR_q hk h1 h2).trans ((if_neg (cb_tx h3)).trans (if_neg (fun z => z.2 h5)))]
  exact (if_neg (fun z => z rfl)).trans (if_neg (Nat.not_le.mpr h4))
end RDL
theorem dg_val {b : Nat → Int32} {n p : Nat} (h : dgB b n p = true) : ∃ d, d < 10 ∧ ccV b n p = nI (48 + d) := by
  unfold dgB at h
  obtain ⟨h1, h2⟩ := of_decide_eq_true h
  have h1 := Int32.le_iff_toInt_le.mp h1
  have h2 := Int32.le_iff_toInt_le.mp h2
  rw [show (48 : Int32).toInt = 48 by decide] at h1
  rw [show (57 : Int32).toInt = 57 by decide] at h2
  refine ⟨((ccV b n p).toInt - 48).toNat, by omega, ?_⟩
  apply Int32.toInt_inj.mp
  rw [nI_toInt (by omega)]
  omega
theorem dg_step (m d : Nat) : 10 * nI m + nI (48 + d) - 48 = nI (10 * m + d) := by
  rw [show (10 : Int32) * nI m = nI (10 * m) from pk_mul 10 m, nI_add, show 10 * m + (48 + d) = (10 * m + d) + 48 by omega, ← nI_add (10 * m + d) 48]
  exact Int32.add_sub_cancel (nI (10 * m + d)) 48
theorem rdg_num {b : Nat → Int32} {n : Nat} : ∀ (j m p : Nat), ∃ q, q < (m + 1) * 10 ^ j ∧ (rdg b n j (nI m, p)).1 = nI q
  | 0, m, p => ⟨m, by omega, rfl⟩
  | j + 1, m, p => by
    unfold rdg
    by_cases h : dgB b n p = true
    · rw [if_pos h]
      obtain ⟨d, hd, e⟩ := dg_val h
      obtain ⟨q, hq, e2⟩ := rdg_num (b := b) (n := n) j (10 * m + d) (p + 1)
      refine ⟨q, ?_, ?_⟩
      · have h1 : (10 * m + d + 1) * 10 ^ j ≤ ((m + 1) * 10) * 10 ^ j := Nat.mul_le_mul_right _ (by omega)
        have h2 : ((m + 1) * 10) * 10 ^ j = (m + 1) * 10 ^ (j + 1) := by rw [Nat.pow_succ, Nat.mul_assoc, Nat.mul_comm 10]
        omega
      · show (rdg b n j (10 * nI m + ccV b n p - 48, p + 1)).1 = nI q
        rw [e, dg_step]
        exact e2
    · rw [if_neg h]
      have h1 : m + 1 ≤ (m + 1) * 10 ^ (j + 1) := Nat.le_mul_of_pos_right _ (Nat.pos_of_ne_zero (by simp))
      exact ⟨m, by omega, rfl⟩
theorem rdg_pos {b : Nat → Int32} {n : Nat} : ∀ (j : Nat) (v : Int32) (p : Nat), p ≤ n → p ≤ (rdg b n j (v, p)).2 ∧ (rdg b n j (v, p)).2 ≤ n
  | 0, _, p, h => ⟨Nat.le_refl p, h⟩
  | j + 1, v, p, h => by
    unfold rdg
    by_cases c : dgB b n p = true
    · rw [if_pos c]
      have h9 := rdg_pos (b := b) (n := n) j (10 * v + ccV b n p - 48) (p + 1) (dg_lt c)
      exact ⟨Nat.le_trans (Nat.le_succ p) h9.1, h9.2⟩
    · rw [if_neg c]
      exact ⟨Nat.le_refl p, h⟩
theorem rd_dig {S : gl_H} {A : Nat → Nat → Int32} {py : Nat → Int64} {n day tc gc vs : Nat} {fr mt mc : Int32} (hM : MPR S (A) (py) (n) (day) (tc) (gc) (vs) (fr) (mt) (mc)) {j c kd fi : Nat} (hj : j ≤ 60) (x : gl_X) {Q : Option Value → gl_H → Prop} : ∀ (i : Nat), i ≤ 4 → ∀ (q : Nat) (v : Int32), q + i = fi + 4 → q ≤ j → (dgB (A 0) j (rdg (A 0) j i (v, q)).2 = true → Q (some (.int (nI (300 + (rdg (A 0) j i (v, q)).2)))) S) → (dgB (A 0) j (rdg (A 0) j i (v, q)).2 = false → GG mX7_reads x (gl_Z mX7_reads x Q) 122 [some (.ref 70), some (.int (nI j)), some (.int (nI (rdg (A 0) j i (v, q)).2)), some (.int (nI c)), some (.int (nI kd)), some (.int (nI fi)), some (.int (rdg (A 0) j i (v, q)).1)] [] S (0, 0)) → GG mX7_reads x (gl_Z mX7_reads x Q) 69 [some (.ref 70), some (.int (nI j)), some (.int (nI q)), some (.int (nI c)), some (.int (nI kd)), some (.int (nI fi)), some (.int v)] [] S (0, 0) := by
  intro i
  induction i with
  | zero =>
    intro hi q v hq h1 hT hF
    refine gg_aload_n dX7_reads_69 rfl rfl ?_
    refine gg_iload_n dX7_reads_70 rfl rfl ?_
    refine gg_iload_n dX7_reads_71 rfl rfl ?_
    refine gg_callV (sp_X7_at hM (p := q) (j := j) hj (by omega)) dX7_reads_72 kw_X7_101 rfl hM.1 rfl rfl (Nat.le_of_ble_eq_true rfl) (Nat.le_of_ble_eq_true rfl) (Nat.le_of_ble_eq_true rfl) ⟨(Nat.le_of_ble_eq_true rfl), (Nat.le_of_ble_eq_true rfl)⟩ (fun r S1 hq => ?_)
    refine gg_k (k2 := (0, 0)) rfl ?_
    obtain ⟨e9, rfl⟩ := hq
    rw [e9]
    clear e9 S1
    refine gg_bipush (v := 48) dX7_reads_75 (by decide) ?_
    refine gg_bipush (v := 57) dX7_reads_77 (by decide) ?_
    refine gg_callS (sp_X7_lies S (ccV (A 0) j (q)) 48 57) dX7_reads_79 kw_X7_97 rfl rfl (Nat.le_of_ble_eq_true rfl) (Nat.le_of_ble_eq_true rfl) (Nat.le_of_ble_eq_true rfl) ⟨(Nat.le_of_ble_eq_true rfl), (Nat.le_of_ble_eq_true rfl)⟩ (fun r S1 hq => ?_)
    refine gg_k (k2 := (0, 0)) rfl ?_
    obtain ⟨e9, rfl⟩ := hq
    rw [e9, show (if (48 : Int32) ≤ ccV (A 0) j (q) ∧ ccV (A 0) j (q) ≤ 57 then (1 : Int32) else 0) = bI (dgB (A 0) j (q)) by unfold dgB bI; simp]
    clear e9 S1
    refine gg_if_eq (tgt := 122) dX7_reads_82 (by decide) (fun c82 => ?_) (fun c82 => ?_)
    · exact hF (bI_z c82)
    · refine gg_iload_n dX7_reads_85 rfl rfl ?_
      refine gg_iload dX7_reads_86 rfl ?_
      refine gg_iconst (v := 4) dX7_reads_88 (by decide) ?_
      refine gg_iadd dX7_reads_89 ?_
      refine gg_icmp_ne (tgt := 99) dX7_reads_90 (by decide) (fun c90 => ?_) (fun c90 => ?_)
      · exact absurd (by rw [show nI fi + 4 = nI (fi + 4) from nI_add fi 4]; exact congrArg nI (by omega)) c90
      · refine gg_sipush (v := 300) dX7_reads_93 (by decide) ?_
        refine gg_iload_n dX7_reads_96 rfl rfl ?_
        refine gg_iadd dX7_reads_97 ?_
        rw [show (300 : Int32) + nI q = nI (300 + q) from nI_add 300 q]
        exact gg_ireturn dX7_reads_98 rfl rfl ⟨(Nat.le_of_ble_eq_true rfl), (Nat.le_of_ble_eq_true rfl)⟩ (hT (bI_nz c82))
  | succ i ih =>
    intro hi q v hq h1 hT hF
    rw [show rdg (A 0) j (i + 1) (v, q) = if dgB (A 0) j q then rdg (A 0) j i (10 * v + ccV (A 0) j q - 48, q + 1) else (v, q) from rfl] at hT hF
    refine gg_aload_n dX7_reads_69 rfl rfl ?_
    refine gg_iload_n dX7_reads_70 rfl rfl ?_
    refine gg_iload_n dX7_reads_71 rfl rfl ?_
    refine gg_callV (sp_X7_at hM (p := q) (j := j) hj (by omega)) dX7_reads_72 kw_X7_101 rfl hM.1 rfl rfl (Nat.le_of_ble_eq_true rfl) (Nat.le_of_ble_eq_true rfl) (Nat.le_of_ble_eq_true rfl) ⟨(Nat.le_of_ble_eq_true rfl), (Nat.le_of_ble_eq_true rfl)⟩ (fun r S1 hq => ?_)
    refine gg_k (k2 := (0, 0)) rfl ?_
    obtain ⟨e9, rfl⟩ := hq
    rw [e9]
    clear e9 S1
    refine gg_bipush (v := 48) dX7_reads_75 (by decide) ?_
    refine gg_bipush (v := 57) dX7_reads_77 (by decide) ?_
    refine gg_callS (sp_X7_lies S (ccV (A 0) j (q)) 48 57) dX7_reads_79 kw_X7_97 rfl rfl (Nat.le_of_ble_eq_true rfl) (Nat.le_of_ble_eq_true rfl) (Nat.le_of_ble_eq_true rfl) ⟨(Nat.le_of_ble_eq_true rfl), (Nat.le_of_ble_eq_true rfl)⟩ (fun r S1 hq => ?_)
    refine gg_k (k2 := (0, 0)) rfl ?_
    obtain ⟨e9, rfl⟩ := hq
    rw [e9, show (if (48 : Int32) ≤ ccV (A 0) j (q) ∧ ccV (A 0) j (q) ≤ 57 then (1 : Int32) else 0) = bI (dgB (A 0) j (q)) by unfold dgB bI; simp]
    clear e9 S1
    refine gg_if_eq (tgt := 122) dX7_reads_82 (by decide) (fun c82 => ?_) (fun c82 => ?_)
    · rw [if_neg (by rw [bI_z c82]; decide)] at hF
      exact hF (bI_z c82)
    · have e1 := bI_nz c82
      rw [if_pos e1] at hT hF
      refine gg_iload_n dX7_reads_85 rfl rfl ?_
      refine gg_iload dX7_reads_86 rfl ?_
      refine gg_iconst (v := 4) dX7_reads_88 (by decide) ?_
      refine gg_iadd dX7_reads_89 ?_
      refine gg_icmp_ne (tgt := 99) dX7_reads_90 (by decide) (fun c90 => ?_) (fun c90 => ?_)
      · refine gg_bipush (v := 10) dX7_reads_99 (by decide) ?_
        refine gg_iload dX7_reads_101 rfl ?_
        refine gg_imul dX7_reads_103 ?_
        refine gg_aload_n dX7_reads_104 rfl rfl ?_
        refine gg_iload_n dX7_reads_105 rfl rfl ?_
        refine gg_iload_n dX7_reads_106 rfl rfl ?_
        refine gg_callV (sp_X7_at hM (p := q) (j := j) hj (by omega)) dX7_reads_107 kw_X7_101 rfl hM.1 rfl rfl (Nat.le_of_ble_eq_true rfl) (Nat.le_of_ble_eq_true rfl) (Nat.le_of_ble_eq_true rfl) ⟨(Nat.le_of_ble_eq_true rfl), (Nat.le_of_ble_eq_true rfl)⟩ (fun r S1 hq => ?_)
        refine gg_k (k2 := (0, 0)) rfl ?_
        obtain ⟨e9, rfl⟩ := hq
        rw [e9]
        clear e9 S1
        refine gg_iadd dX7_reads_110 ?_
        refine gg_bipush (v := 48) dX7_reads_111 (by decide) ?_
        refine gg_isub dX7_reads_113 ?_
        refine gg_istore dX7_reads_114 (Nat.le_of_ble_eq_true rfl) rfl ?_
        refine gg_iinc (w := nI (q + 1)) dX7_reads_116 rfl (nI_1 q) (Nat.le_of_ble_eq_true rfl) rfl ?_
        refine gg_goto (tgt := 69) dX7_reads_119 (by decide) ?_
        exact ih (by omega) (q + 1) _ (by omega) (dg_lt e1) hT hF
      · exact absurd (n_eq (a := q) (b := fi + 4) (by rw [← nI_add]; exact c90)) (by omega)
theorem rd_loop {S0 : gl_H} {A : Nat → Nat → Int32} {py : Nat → Int64} {n day tc gc vs : Nat} {fr mt mc : Int32} {j : Nat} (hj : j ≤ 60) (x : gl_X) : ∀ (f c p : Nat) (dr : Nat → Int32) (S : gl_H), c + f = j + 1 → c ≤ p → p ≤ j → MPR S (up2 A 2 dr) (py) (n) (day) (tc) (gc) (vs) (fr) (mt) (mc) → Fr 70 95 S0 S → GG mX7_reads x (gl_Z mX7_reads x (fun r S1 => ∃ dr', MPR S1 (up2 A 2 dr') (py) (n) (day) (tc) (gc) (vs) (fr) (mt) (mc) ∧ Fr 70 95 S0 S1 ∧ ((r = some (.int 0) ∧ rdL (A 0) j f p dr = (0, some dr')) ∨ ∃ v, ¬ v = 0 ∧ r = some (.int v) ∧ rdL (A 0) j f p dr = (v, none)))) 11 [some (.ref 70), some (.int (nI j)), some (.int (nI p)), some (.int (nI c)), none, none, none] [] S (0, 0) := by
  intro f
  induction f with
  | zero => intro c p dr S h1 h2 h3; omega
  | succ f ih =>
    intro c p dr S h1 h2 h3 hM hf
    have hA : (up2 A 2 dr) 0 = A 0 := rfl
    rcases hk : kdO (ccV (A 0) j p) with _ | kd
    · refine gg_iload_n dX7_reads_11 rfl rfl ?_
      refine gg_iload_n dX7_reads_12 rfl rfl ?_
      refine gg_icmp_gt (tgt := 181) dX7_reads_13 (by decide) (fun c13 => ?_) (fun c13 => ?_)
      · exact absurd (n_lt (a := j) (b := c) c13) (by omega)
      · refine gg_aload_n dX7_reads_16 rfl rfl ?_
        refine gg_iload_n dX7_reads_17 rfl rfl ?_
        refine gg_iload_n dX7_reads_18 rfl rfl ?_
        refine gg_callV (sp_X7_at hM (p := p) (j := j) hj (by omega)) dX7_reads_19 kw_X7_101 rfl hM.1 rfl rfl (Nat.le_of_ble_eq_true rfl) (Nat.le_of_ble_eq_true rfl) (Nat.le_of_ble_eq_true rfl) ⟨(Nat.le_of_ble_eq_true rfl), (Nat.le_of_ble_eq_true rfl)⟩ (fun r S1 hq => ?_)
        refine gg_k (k2 := (0, 0)) rfl ?_
        obtain ⟨e9, rfl⟩ := hq
        rw [e9]
        clear e9 S1
        refine gg_callS (sp_X7_letter S (ccV (A 0) j p)) dX7_reads_22 kw_X7_105 rfl rfl (Nat.le_of_ble_eq_true rfl) (Nat.le_of_ble_eq_true rfl) (Nat.le_of_ble_eq_true rfl) ⟨(Nat.le_of_ble_eq_true rfl), (Nat.le_of_ble_eq_true rfl)⟩ (fun r S1 hq => ?_)
        refine gg_k (k2 := (0, 0)) rfl ?_
        obtain ⟨e9, rfl⟩ := hq
        rw [e9, hk]
        clear e9 S1
        refine gg_istore dX7_reads_25 (Nat.le_of_ble_eq_true rfl) rfl ?_
        refine gg_iload dX7_reads_27 rfl ?_
        refine gg_iconst (v := -1) dX7_reads_29 (by decide) ?_
        refine gg_icmp_ne (tgt := 38) dX7_reads_30 (by decide) (fun c30 => ?_) (fun c30 => ?_)
        · exact absurd rfl c30
        · refine gg_bipush (v := 100) dX7_reads_33 (by decide) ?_
          refine gg_iload_n dX7_reads_35 rfl rfl ?_
          refine gg_iadd dX7_reads_36 ?_
          rw [show (100 : Int32) + nI p = nI (100 + p) from nI_add 100 p]
          exact gg_ireturn dX7_reads_37 rfl rfl ⟨(Nat.le_of_ble_eq_true rfl), (Nat.le_of_ble_eq_true rfl)⟩ (⟨dr, hM, hf, Or.inr ⟨_, nI_ne0 (by omega) (by omega), rfl, rdL_1 hk⟩⟩)
    · have hkd := kd_lt hk
      refine gg_iload_n dX7_reads_11 rfl rfl ?_
      refine gg_iload_n dX7_reads_12 rfl rfl ?_
      refine gg_icmp_gt (tgt := 181) dX7_reads_13 (by decide) (fun c13 => ?_) (fun c13 => ?_)
      · exact absurd (n_lt (a := j) (b := c) c13) (by omega)
      · refine gg_aload_n dX7_reads_16 rfl rfl ?_
        refine gg_iload_n dX7_reads_17 rfl rfl ?_
        refine gg_iload_n dX7_reads_18 rfl rfl ?_
        refine gg_callV (sp_X7_at hM (p := p) (j := j) hj (by omega)) dX7_reads_19 kw_X7_101 rfl hM.1 rfl rfl (Nat.le_of_ble_eq_true rfl) (Nat.le_of_ble_eq_true rfl) (Nat.le_of_ble_eq_true rfl) ⟨(Nat.le_of_ble_eq_true rfl), (Nat.le_of_ble_eq_true rfl)⟩ (fun r S1 hq => ?_)
        refine gg_k (k2 := (0, 0)) rfl ?_
        obtain ⟨e9, rfl⟩ := hq
        rw [e9]
        clear e9 S1
        refine gg_callS (sp_X7_letter S (ccV (A 0) j p)) dX7_reads_22 kw_X7_105 rfl rfl (Nat.le_of_ble_eq_true rfl) (Nat.le_of_ble_eq_true rfl) (Nat.le_of_ble_eq_true rfl) ⟨(Nat.le_of_ble_eq_true rfl), (Nat.le_of_ble_eq_true rfl)⟩ (fun r S1 hq => ?_)
        refine gg_k (k2 := (0, 0)) rfl ?_
        obtain ⟨e9, rfl⟩ := hq
        rw [e9, hk]
        clear e9 S1
        refine gg_istore dX7_reads_25 (Nat.le_of_ble_eq_true rfl) rfl ?_
        refine gg_iload dX7_reads_27 rfl ?_
        refine gg_iconst (v := -1) dX7_reads_29 (by decide) ?_
        refine gg_icmp_ne (tgt := 38) dX7_reads_30 (by decide) (fun c30 => ?_) (fun c30 => ?_)
        · refine gg_iinc (w := nI (p + 1)) dX7_reads_38 rfl (nI_1 p) (Nat.le_of_ble_eq_true rfl) rfl ?_
          refine gg_aload_n dX7_reads_41 rfl rfl ?_
          refine gg_iload_n dX7_reads_42 rfl rfl ?_
          refine gg_iload_n dX7_reads_43 rfl rfl ?_
          refine gg_callV (sp_X7_at hM (p := p + 1) (j := j) hj (by omega)) dX7_reads_44 kw_X7_101 rfl hM.1 rfl rfl (Nat.le_of_ble_eq_true rfl) (Nat.le_of_ble_eq_true rfl) (Nat.le_of_ble_eq_true rfl) ⟨(Nat.le_of_ble_eq_true rfl), (Nat.le_of_ble_eq_true rfl)⟩ (fun r S1 hq => ?_)
          refine gg_k (k2 := (0, 0)) rfl ?_
          obtain ⟨e9, rfl⟩ := hq
          rw [e9]
          clear e9 S1
          refine gg_bipush (v := 48) dX7_reads_47 (by decide) ?_
          refine gg_bipush (v := 57) dX7_reads_49 (by decide) ?_
          refine gg_callS (sp_X7_lies S (ccV (A 0) j (p + 1)) 48 57) dX7_reads_51 kw_X7_97 rfl rfl (Nat.le_of_ble_eq_true rfl) (Nat.le_of_ble_eq_true rfl) (Nat.le_of_ble_eq_true rfl) ⟨(Nat.le_of_ble_eq_true rfl), (Nat.le_of_ble_eq_true rfl)⟩ (fun r S1 hq => ?_)
          refine gg_k (k2 := (0, 0)) rfl ?_
          obtain ⟨e9, rfl⟩ := hq
          rw [e9, show (if (48 : Int32) ≤ ccV (A 0) j (p + 1) ∧ ccV (A 0) j (p + 1) ≤ 57 then (1 : Int32) else 0) = bI (dgB (A 0) j (p + 1)) by unfold dgB bI; simp]
          clear e9 S1
          refine gg_if_ne (tgt := 63) dX7_reads_54 (by decide) (fun c54 => ?_) (fun c54 => ?_)
          · have e1 : dgB (A 0) j (p + 1) = true := bI_nz c54
            refine gg_iload_n dX7_reads_63 rfl rfl ?_
            refine gg_istore dX7_reads_64 (Nat.le_of_ble_eq_true rfl) rfl ?_
            refine gg_iconst (v := 0) dX7_reads_66 (by decide) ?_
            refine gg_istore dX7_reads_67 (Nat.le_of_ble_eq_true rfl) rfl ?_
            have hp1 := dg_lt e1
            have hpos := rdg_pos (b := A 0) (n := j) 4 0 (p + 1) (by omega)
            obtain ⟨m, hm, em⟩ := rdg_num (b := A 0) (n := j) 4 0 (p + 1)
            have em : (rdg (A 0) j 4 (0, p + 1)).1 = nI m := em
            refine rd_dig (A := up2 A 2 dr) (fi := p + 1) hM hj x 4 (by decide) (p + 1) 0 (by omega) (by omega) (fun h9 => ?_) (fun h9 => ?_)
            · exact ⟨dr, hM, hf, Or.inr ⟨_, nI_ne0 (by omega) (by have := hpos.2; show 300 + (rdg (A 0) j 4 (0, p + 1)).2 < _; omega), rfl, rdL_3 hk e1 h9⟩⟩
            have h9 : dgB (A 0) j (rdg (A 0) j 4 (0, p + 1)).2 = false := h9
            show GG mX7_reads x _ 122 [some (.ref 70), some (.int (nI j)), some (.int (nI (rdg (A 0) j 4 (0, p + 1)).2)), some (.int (nI c)), some (.int (nI kd)), some (.int (nI (p + 1))), some (.int (rdg (A 0) j 4 (0, p + 1)).1)] [] S (0, 0)
            refine gg_iload dX7_reads_122 rfl ?_
            refine gg_iload dX7_reads_124 rfl ?_
            rw [em]
            refine gg_callS (sp_X7_canBe S (k := kd) (m := m) hkd (by omega)) dX7_reads_126 kw_X7_109 rfl rfl (Nat.le_of_ble_eq_true rfl) (Nat.le_of_ble_eq_true rfl) (Nat.le_of_ble_eq_true rfl) ⟨(Nat.le_of_ble_eq_true rfl), (Nat.le_of_ble_eq_true rfl)⟩ (fun r S1 hq => ?_)
            refine gg_k (k2 := (0, 0)) rfl ?_
            obtain ⟨e9, rfl⟩ := hq
            rw [e9, ← em]
            clear e9 S1
            refine gg_if_ne (tgt := 139) dX7_reads_129 (by decide) (fun c129 => ?_) (fun c129 => ?_)
            · have e2 : cbB kd (rdg (A 0) j 4 (0, p + 1)).1 = true := bI_nz c129
              refine gg_aload_n dX7_reads_139 rfl rfl ?_
              refine gf_X7_17 rfl dX7_reads_140 hM.1 rfl ?_
              refine gg_iload dX7_reads_143 rfl ?_
              refine gg_iload dX7_reads_145 rfl ?_
              refine gg_ast_i (kd) dX7_reads_147 hM.a2 rfl hkd (by decide) ?_
              refine MPs_2 hM hf (fun S hM hf => ?_)
              rw [up2_2, up2_s] at hM
              refine gg_iload_n dX7_reads_148 rfl rfl ?_
              refine gg_iload_n dX7_reads_149 rfl rfl ?_
              refine gg_icmp_ne (tgt := 155) dX7_reads_150 (by decide) (fun c150 => ?_) (fun c150 => ?_)
              · have hlt : (rdg (A 0) j 4 (0, p + 1)).2 < j := by
                  have := hpos.2
                  have h9 := n_ne c150
                  omega
                refine gg_aload_n dX7_reads_155 rfl rfl ?_
                refine gg_iload_n dX7_reads_156 rfl rfl ?_
                refine gg_iload_n dX7_reads_157 rfl rfl ?_
                refine gg_callV (sp_X7_at hM (p := (rdg (A 0) j 4 (0, p + 1)).2) (j := j) hj (by omega)) dX7_reads_158 kw_X7_101 rfl hM.1 rfl rfl (Nat.le_of_ble_eq_true rfl) (Nat.le_of_ble_eq_true rfl) (Nat.le_of_ble_eq_true rfl) ⟨(Nat.le_of_ble_eq_true rfl), (Nat.le_of_ble_eq_true rfl)⟩ (fun r S1 hq => ?_)
                refine gg_k (k2 := (0, 0)) rfl ?_
                obtain ⟨e9, rfl⟩ := hq
                rw [e9]
                clear e9 S1
                refine gg_bipush (v := 59) dX7_reads_161 (by decide) ?_
                refine gg_icmp_eq (tgt := 172) dX7_reads_163 (by decide) (fun c163 => ?_) (fun c163 => ?_)
                · have e3 : ccV (A 0) j (rdg (A 0) j 4 (0, p + 1)).2 = 59 := c163
                  refine gg_iinc (w := nI ((rdg (A 0) j 4 (0, p + 1)).2 + 1)) dX7_reads_172 rfl (nI_1 _) (Nat.le_of_ble_eq_true rfl) rfl ?_
                  refine gg_iinc (w := nI (c + 1)) dX7_reads_175 rfl (nI_1 c) (Nat.le_of_ble_eq_true rfl) rfl ?_
                  refine gg_goto (tgt := 11) dX7_reads_178 (by decide) ?_
                  refine gg_fg [true, true, true, true, false, false, false] ?_
                  rw [rdL_s hk e1 h9 e2 hlt e3]
                  exact ih (c + 1) ((rdg (A 0) j 4 (0, p + 1)).2 + 1) _ S (by omega) (by have := hpos.1; omega) (by omega) hM hf
                · have e3 : ccV (A 0) j (rdg (A 0) j 4 (0, p + 1)).2 ≠ 59 := c163
                  refine gg_sipush (v := 500) dX7_reads_166 (by decide) ?_
                  refine gg_iload_n dX7_reads_169 rfl rfl ?_
                  refine gg_iadd dX7_reads_170 ?_
                  rw [show (500 : Int32) + nI (rdg (A 0) j 4 (0, p + 1)).2 = nI (500 + (rdg (A 0) j 4 (0, p + 1)).2) from nI_add 500 _]
                  exact gg_ireturn dX7_reads_171 rfl rfl ⟨(Nat.le_of_ble_eq_true rfl), (Nat.le_of_ble_eq_true rfl)⟩ (⟨_, hM, hf, Or.inr ⟨_, nI_ne0 (by omega) (by omega), rfl, rdL_5 hk e1 h9 e2 hlt e3⟩⟩)
              · have hle : j ≤ (rdg (A 0) j 4 (0, p + 1)).2 := Nat.le_of_eq (n_eq c150 (by have := hpos.2; omega)).symm
                refine gg_iconst (v := 0) dX7_reads_153 (by decide) ?_
                exact gg_ireturn dX7_reads_154 rfl rfl ⟨(Nat.le_of_ble_eq_true rfl), (Nat.le_of_ble_eq_true rfl)⟩ (⟨_, hM, hf, Or.inl ⟨rfl, rdL_0 hk e1 h9 e2 hle⟩⟩)
            · have e2 : cbB kd (rdg (A 0) j 4 (0, p + 1)).1 = false := bI_z c129
              refine gg_sipush (v := 400) dX7_reads_132 (by decide) ?_
              refine gg_iload dX7_reads_135 rfl ?_
              refine gg_iadd dX7_reads_137 ?_
              rw [show (400 : Int32) + nI (p + 1) = nI (400 + (p + 1)) from nI_add 400 (p + 1)]
              exact gg_ireturn dX7_reads_138 rfl rfl ⟨(Nat.le_of_ble_eq_true rfl), (Nat.le_of_ble_eq_true rfl)⟩ (⟨dr, hM, hf, Or.inr ⟨_, nI_ne0 (by omega) (by omega), rfl, rdL_4 hk e1 h9 e2⟩⟩)
          · have e1 : dgB (A 0) j (p + 1) = false := bI_z c54
            refine gg_sipush (v := 200) dX7_reads_57 (by decide) ?_
            refine gg_iload_n dX7_reads_60 rfl rfl ?_
            refine gg_iadd dX7_reads_61 ?_
            rw [show (200 : Int32) + nI (p + 1) = nI (200 + (p + 1)) from nI_add 200 (p + 1)]
            exact gg_ireturn dX7_reads_62 rfl rfl ⟨(Nat.le_of_ble_eq_true rfl), (Nat.le_of_ble_eq_true rfl)⟩ (⟨dr, hM, hf, Or.inr ⟨_, nI_ne0 (by omega) (by omega), rfl, rdL_2 hk e1⟩⟩)
        · exact absurd c30 (nI_m1 (k := kd) (by omega))
theorem sp_X7_reads {S : gl_H} {A : Nat → Nat → Int32} {py : Nat → Int64} {n day tc gc vs : Nat} {fr mt mc : Int32} (hM : MPR S (A) (py) (n) (day) (tc) (gc) (vs) (fr) (mt) (mc)) {j : Nat} (hj : j ≤ 60) : Sp mX7_reads yX7_reads [.ref 70, .int (nI j)] S (fun r S1 => ∃ dr', MPR S1 (up2 A 2 dr') (py) (n) (day) (tc) (gc) (vs) (fr) (mt) (mc) ∧ Fr 70 95 S S1 ∧ ((r = some (.int 0) ∧ rdL (A 0) j (j + 1) 0 (atF (A 2)) = (0, some dr')) ∨ ∃ v, ¬ v = 0 ∧ r = some (.int v) ∧ rdL (A 0) j (j + 1) 0 (atF (A 2)) = (v, none))) := by
  refine gl_enter (j := 5) (by decide +kernel) rfl (fun h => absurd h (by decide)) (Nat.le_of_ble_eq_true rfl) rfl (fun x => ?_)
  have hf : Fr 70 95 S S := Fr.rf
  refine gg_aload_n dX7_reads_0 rfl rfl ?_
  refine gf_X7_17 rfl dX7_reads_1 hM.1 rfl ?_
  refine gg_callS (sp_X7_asAtFirst hM.a2) dX7_reads_4 kw_X7_85 rfl rfl (Nat.le_of_ble_eq_true rfl) (Nat.le_of_ble_eq_true rfl) (Nat.le_of_ble_eq_true rfl) ⟨(Nat.le_of_ble_eq_true rfl), (Nat.le_of_ble_eq_true rfl)⟩ (fun r S1 hq => ?_)
  refine gg_k (k2 := (0, 0)) rfl ?_
  obtain ⟨rfl, rfl⟩ := hq
  refine MPs_2 hM hf (fun S hM hf => ?_)
  refine gg_iconst (v := 0) dX7_reads_7 (by decide) ?_
  refine gg_istore_n dX7_reads_8 rfl (Nat.le_of_ble_eq_true rfl) rfl ?_
  refine gg_iconst (v := 0) dX7_reads_9 (by decide) ?_
  refine gg_istore_n dX7_reads_10 rfl (Nat.le_of_ble_eq_true rfl) rfl ?_
  exact rd_loop hj x (j + 1) 0 0 (atF (A 2)) S (by omega) (by omega) (by omega) hM hf
def cpN (f g : Nat → Int32) (n : Nat) : Nat → Int32 := fun j => if j < n then g j else f j
theorem cpN_0 (f g : Nat → Int32) : cpN f g 0 = f := funext (fun j => if_neg (Nat.not_lt_zero j))
theorem cpN_s (f g : Nat → Int32) (n : Nat) : upd (cpN f g n) n (g n) = cpN f g (n + 1) := funext (fun j => by
  unfold cpN
  by_cases h : j = n
  · subst h
    rw [pk_us, if_pos (Nat.lt_succ_self j)]
  · rw [pk_un h]
    by_cases h2 : j < n
    · rw [if_pos h2, if_pos (by omega)]
    · rw [if_neg h2, if_neg (by omega)])
theorem ru_loop {S0 : gl_H} {A : Nat → Nat → Int32} {f : Nat → Int32} {py : Nat → Int64} {n day tc gc vs : Nat} {fr mt mc : Int32} {v0 : Int32} (x : gl_X) : ∀ (m i : Nat) (S : gl_H), i + m = 7 → MPR S (up2 A 1 (cpN f (A 2) i)) (py) (n) (day) (tc) (gc) (vs) (fr) (mt) (mc) → Fr 70 95 S0 S → GG mX7_rules x (gl_Z mX7_rules x (fun r S1 => r = some (.int 0) ∧ MPR S1 (up2 A 1 (cpN f (A 2) 7)) (py) (n) (day) (tc) (gc) (vs) (0) (mt) (mc) ∧ Fr 70 95 S0 S1)) 27 [some (.ref 70), some (.int v0), some (.int 0), some (.int (nI i))] [] S (0, 0) := by
  intro m
  induction m with
  | zero =>
    intro i S h1 hM hf
    have e : i = 7 := by omega
    subst e
    refine gg_iload_n dX7_rules_27 rfl rfl ?_
    refine gg_bipush (v := 7) dX7_rules_28 (by decide) ?_
    refine gg_icmp_ge (tgt := 55) dX7_rules_30 (by decide) (fun c30 => ?_) (fun c30 => ?_)
    · refine gg_aload_n dX7_rules_55 rfl rfl ?_
      refine gg_iconst (v := 0) dX7_rules_56 (by decide) ?_
      refine pf_X7_116 rfl dX7_rules_57 hM.1 (Nat.le_of_ble_eq_true rfl) rfl rfl ?_
      refine MPs_fr hM hf (fun S hM hf => ?_)
      refine gg_iload_n dX7_rules_60 rfl rfl ?_
      exact gg_ireturn dX7_rules_61 rfl rfl ⟨(Nat.le_of_ble_eq_true rfl), (Nat.le_of_ble_eq_true rfl)⟩ (⟨rfl, hM, hf⟩)
    · exact absurd (nI_le (Nat.le_refl 7) (by omega)) c30
  | succ m ih =>
    intro i S h1 hM hf
    refine gg_iload_n dX7_rules_27 rfl rfl ?_
    refine gg_bipush (v := 7) dX7_rules_28 (by decide) ?_
    refine gg_icmp_ge (tgt := 55) dX7_rules_30 (by decide) (fun c30 => ?_) (fun c30 => ?_)
    · exact absurd (n_le (a := 7) (b := i) c30) (by omega)
    · refine gg_iload_n dX7_rules_33 rfl rfl ?_
      refine gg_if_ne (tgt := 55) dX7_rules_34 (by decide) (fun h => absurd rfl h) (fun _ => ?_)
      refine gg_aload_n dX7_rules_37 rfl rfl ?_
      refine gf_X7_13 rfl dX7_rules_38 hM.1 rfl ?_
      refine gg_iload_n dX7_rules_41 rfl rfl ?_
      refine gg_aload_n dX7_rules_42 rfl rfl ?_
      refine gf_X7_17 rfl dX7_rules_43 hM.1 rfl ?_
      refine gg_iload_n dX7_rules_46 rfl rfl ?_
      refine gg_ald_i (i) dX7_rules_47 hM.a2 rfl (by omega) (by decide) ?_
      refine gg_ast_i (i) dX7_rules_48 hM.a1 rfl (by omega) (by decide) ?_
      refine MPs_1 hM hf (fun S hM hf => ?_)
      rw [up2_2, up2_s, show (up2 A 1 (cpN f (A 2) i)) 2 = A 2 from rfl, cpN_s] at hM
      refine gg_iinc (w := nI (i + 1)) dX7_rules_49 rfl (nI_1 i) (Nat.le_of_ble_eq_true rfl) rfl ?_
      refine gg_goto (tgt := 27) dX7_rules_52 (by decide) ?_
      exact ih (i + 1) S (by omega) hM hf
theorem sp_X7_rules_n {S : gl_H} {A : Nat → Nat → Int32} {py : Nat → Int64} {n day tc gc vs : Nat} {fr mt mc : Int32} (hM : MPR S (A) (py) (n) (day) (tc) (gc) (vs) (fr) (mt) (mc)) (hn : n ≤ 60) {v : Int32} (hv : ¬ (0 ≤ v ∧ v ≤ nI n)) : Sp mX7_rules yX7_rules [.ref 70, .int v] S (fun r S1 => S1 = S ∧ r = some (.int (-1))) := by
  refine gl_enter (j := 2) (by decide +kernel) rfl (fun h => absurd h (by decide)) (Nat.le_of_ble_eq_true rfl) rfl (fun x => ?_)
  refine gg_iload_n dX7_rules_0 rfl rfl ?_
  refine gg_if_lt (tgt := 12) dX7_rules_1 (by decide) (fun c1 => ?_) (fun c1 => ?_)
  · refine gg_iconst (v := -1) dX7_rules_12 (by decide) ?_
    exact gg_ireturn dX7_rules_13 rfl rfl ⟨(Nat.le_of_ble_eq_true rfl), (Nat.le_of_ble_eq_true rfl)⟩ (⟨rfl, rfl⟩)
  · refine gg_iload_n dX7_rules_4 rfl rfl ?_
    refine gg_aload_n dX7_rules_5 rfl rfl ?_
    refine gf_X7_89 rfl dX7_rules_6 hM.1 rfl ?_
    refine gg_icmp_le (tgt := 14) dX7_rules_9 (by decide) (fun c9 => ?_) (fun c9 => ?_)
    · exact absurd ⟨Int32.not_lt.mp c1, c9⟩ hv
    · refine gg_iconst (v := -1) dX7_rules_12 (by decide) ?_
      exact gg_ireturn dX7_rules_13 rfl rfl ⟨(Nat.le_of_ble_eq_true rfl), (Nat.le_of_ble_eq_true rfl)⟩ (⟨rfl, rfl⟩)
theorem sp_X7_rules_y {S : gl_H} {A : Nat → Nat → Int32} {py : Nat → Int64} {n day tc gc vs : Nat} {fr mt mc : Int32} (hM : MPR S (A) (py) (n) (day) (tc) (gc) (vs) (fr) (mt) (mc)) (hn : n ≤ 60) {j : Nat} (hj : j ≤ n) : Sp mX7_rules yX7_rules [.ref 70, .int (nI j)] S (fun r S1 => ∃ A', MPR S1 (A') (py) (0) (day) (tc) (gc) (vs) (0) (mt) (mc) ∧ Fr 70 95 S S1 ∧ (∀ i, i ≠ 1 → i ≠ 2 → A' i = A i) ∧ r = some (.int (rdA (A 0) j).1) ∧ ∀ i, i < 7 → A' 1 i = ((rdA (A 0) j).2.getD (A 1)) i) := by
  refine gl_enter (j := 2) (by decide +kernel) rfl (fun h => absurd h (by decide)) (Nat.le_of_ble_eq_true rfl) rfl (fun x => ?_)
  have hf : Fr 70 95 S S := Fr.rf
  refine gg_iload_n dX7_rules_0 rfl rfl ?_
  refine gg_if_lt (tgt := 12) dX7_rules_1 (by decide) (fun c1 => ?_) (fun c1 => ?_)
  · exact absurd c1 (nI_pos (by omega))
  · refine gg_iload_n dX7_rules_4 rfl rfl ?_
    refine gg_aload_n dX7_rules_5 rfl rfl ?_
    refine gf_X7_89 rfl dX7_rules_6 hM.1 rfl ?_
    refine gg_icmp_le (tgt := 14) dX7_rules_9 (by decide) (fun c9 => ?_) (fun c9 => ?_)
    · refine gg_aload_n dX7_rules_14 rfl rfl ?_
      refine gg_iconst (v := 0) dX7_rules_15 (by decide) ?_
      refine pf_X7_89 rfl dX7_rules_16 hM.1 (Nat.le_of_ble_eq_true rfl) ?_
      refine MPs_n 0 rfl hM hf (fun S hM hf => ?_)
      refine gg_aload_n dX7_rules_19 rfl rfl ?_
      refine gg_iload_n dX7_rules_20 rfl rfl ?_
      refine gg_callV (sp_X7_reads hM (j := j) (by omega)) dX7_rules_21 kw_X7_113 rfl hM.1 rfl rfl (Nat.le_of_ble_eq_true rfl) (Nat.le_of_ble_eq_true rfl) (Nat.le_of_ble_eq_true rfl) ⟨(Nat.le_of_ble_eq_true rfl), (Nat.le_of_ble_eq_true rfl)⟩ (fun r S1 hq => ?_)
      refine gg_k (k2 := (0, 0)) rfl ?_
      obtain ⟨dr, hM1, hf1, hres⟩ := hq
      have hf := hf.tr hf1
      have hc := rdL_cong (b := A 0) (n := j) (j + 1) 0 (atF_j (A 2))
      rcases hres with ⟨rfl, hr⟩ | ⟨v, hv, rfl, hr⟩
      · rw [hr] at hc
        refine gg_k (k2 := (0, 0)) rfl ?_
        refine gg_istore_n dX7_rules_24 rfl (Nat.le_of_ble_eq_true rfl) rfl ?_
        refine gg_iconst (v := 0) dX7_rules_25 (by decide) ?_
        refine gg_istore_n dX7_rules_26 rfl (Nat.le_of_ble_eq_true rfl) rfl ?_
        have h0 : MPR S1 (up2 (up2 A 2 dr) 1 (cpN (A 1) ((up2 A 2 dr) 2) 0)) py 0 day tc gc vs fr mt mc := by
          rw [cpN_0, show (A 1) = (up2 A 2 dr) 1 from rfl, up2_id]
          exact hM1
        refine gg_Q ?_ (ru_loop (A := up2 A 2 dr) (f := A 1) x 7 0 S1 (by omega) h0 hf)
        rintro r S2 ⟨rfl, q1, q2⟩
        refine ⟨_, q1, q2, fun i h1 h2 => by rw [up2_n _ _ h1, up2_n _ _ h2], ?_, fun i hi => ?_⟩
        · rw [show rdA (A 0) j = rdL (A 0) j (j + 1) 0 gl_AT from rfl, ← hc.1]
        · rw [up2_s, show cpN (A 1) ((up2 A 2 dr) 2) 7 i = dr i from if_pos hi, show rdA (A 0) j = rdL (A 0) j (j + 1) 0 gl_AT from rfl]
          exact hc.2 (A 1) (A 1) (fun _ _ => rfl) i hi
      have hM := hM1
      rw [hr] at hc
      refine gg_istore_n dX7_rules_24 rfl (Nat.le_of_ble_eq_true rfl) rfl ?_
      refine gg_iconst (v := 0) dX7_rules_25 (by decide) ?_
      refine gg_istore_n dX7_rules_26 rfl (Nat.le_of_ble_eq_true rfl) rfl ?_
      refine gg_iload_n dX7_rules_27 rfl rfl ?_
      refine gg_bipush (v := 7) dX7_rules_28 (by decide) ?_
      refine gg_icmp_ge (tgt := 55) dX7_rules_30 (by decide) (fun c30 => ?_) (fun c30 => ?_)
      · exact absurd (n_le (a := 7) (b := 0) c30) (by decide)
      · refine gg_iload_n dX7_rules_33 rfl rfl ?_
        refine gg_if_ne (tgt := 55) dX7_rules_34 (by decide) (fun c34 => ?_) (fun c34 => ?_)
        · refine gg_aload_n dX7_rules_55 rfl rfl ?_
          refine gg_iconst (v := 0) dX7_rules_56 (by decide) ?_
          refine pf_X7_116 rfl dX7_rules_57 hM.1 (Nat.le_of_ble_eq_true rfl) rfl rfl ?_
          refine MPs_fr hM hf (fun S hM hf => ?_)
          refine gg_iload_n dX7_rules_60 rfl rfl ?_
          exact gg_ireturn dX7_rules_61 rfl rfl ⟨(Nat.le_of_ble_eq_true rfl), (Nat.le_of_ble_eq_true rfl)⟩ (⟨_, hM, hf, fun i h1 h2 => up2_n _ _ h2, by rw [show rdA (A 0) j = rdL (A 0) j (j + 1) 0 gl_AT from rfl, ← hc.1], fun i hi => by
            rw [show rdA (A 0) j = rdL (A 0) j (j + 1) 0 gl_AT from rfl]
            exact hc.2 (A 1) (A 1) (fun _ _ => rfl) i hi⟩)
        · exact absurd c34 hv
    · exact absurd (nI_le hj (by omega)) c9
