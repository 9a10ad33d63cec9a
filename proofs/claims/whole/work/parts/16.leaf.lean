/-! small methods that touch no cell -/
theorem wi_t {a b c : Int32} (h1 : ¬ a < b) (h2 : ¬ c < a) : (if b ≤ a ∧ a ≤ c then (1 : Int32) else 0) = 1 := if_pos ⟨Int32.not_lt.mp h1, Int32.not_lt.mp h2⟩
theorem wi_f1 {a b c : Int32} (h : a < b) : (if b ≤ a ∧ a ≤ c then (1 : Int32) else 0) = 0 := if_neg (fun q => Int32.not_lt.mpr q.1 h)
theorem wi_f2 {a b c : Int32} (h : c < a) : (if b ≤ a ∧ a ≤ c then (1 : Int32) else 0) = 0 := if_neg (fun q => Int32.not_lt.mpr q.2 h)
def hb_ (a b : Int32) : Bool := decide ((a >>> (b &&& 31)) &&& 1 = 1)
theorem gg_ab {M : gl_M} {x : gl_X} {Z : State → Prop} {pc : Nat} {ls : List (Option Value)} {st : List Value} {S : gl_H} {k : Nat × Nat} {P : gl_H → Prop} (h : P S) (K : ∀ S1, P S1 → GG M x Z pc ls st S1 k) : GG M x Z pc ls st S k := K S h
theorem sp_X6_within (S : gl_H) (a b c : Int32) : Sp mX6_within yX6_within [.int a, .int b, .int c] S (fun r S1 => S1 = S ∧ r = some (.int (if b ≤ a ∧ a ≤ c then 1 else 0))) := by
  refine gl_enter (j := 0) (by decide +kernel) rfl (fun h => absurd h (by decide)) (Nat.le_of_ble_eq_true rfl) rfl (fun x => ?_)
  refine gg_iload_n dX6_within_0 rfl rfl ?_
  refine gg_iload_n dX6_within_1 rfl rfl ?_
  refine gg_icmp_lt (tgt := 14) dX6_within_2 (by decide) (fun c2 => ?_) (fun c2 => ?_)
  · refine gg_iconst (v := 0) dX6_within_14 (by decide) ?_
    exact gg_ireturn dX6_within_15 rfl rfl ⟨(Nat.le_of_ble_eq_true rfl), (Nat.le_of_ble_eq_true rfl)⟩ (⟨rfl, by first | rw [wi_t c2 c7] | rw [wi_f1 c2] | rw [wi_f2 c7]⟩)
  · refine gg_iload_n dX6_within_5 rfl rfl ?_
    refine gg_iload_n dX6_within_6 rfl rfl ?_
    refine gg_icmp_gt (tgt := 14) dX6_within_7 (by decide) (fun c7 => ?_) (fun c7 => ?_)
    · refine gg_iconst (v := 0) dX6_within_14 (by decide) ?_
      exact gg_ireturn dX6_within_15 rfl rfl ⟨(Nat.le_of_ble_eq_true rfl), (Nat.le_of_ble_eq_true rfl)⟩ (⟨rfl, by first | rw [wi_t c2 c7] | rw [wi_f1 c2] | rw [wi_f2 c7]⟩)
    · refine gg_iconst (v := 1) dX6_within_10 (by decide) ?_
      refine gg_goto (tgt := 15) dX6_within_11 (by decide) ?_
      exact gg_ireturn dX6_within_15 rfl rfl ⟨(Nat.le_of_ble_eq_true rfl), (Nat.le_of_ble_eq_true rfl)⟩ (⟨rfl, by first | rw [wi_t c2 c7] | rw [wi_f1 c2] | rw [wi_f2 c7]⟩)
theorem sp_X7_lies (S : gl_H) (a b c : Int32) : Sp mX7_lies yX7_lies [.int a, .int b, .int c] S (fun r S1 => S1 = S ∧ r = some (.int (if b ≤ a ∧ a ≤ c then 1 else 0))) := by
  refine gl_enter (j := 0) (by decide +kernel) rfl (fun h => absurd h (by decide)) (Nat.le_of_ble_eq_true rfl) rfl (fun x => ?_)
  refine gg_iload_n dX7_lies_0 rfl rfl ?_
  refine gg_iload_n dX7_lies_1 rfl rfl ?_
  refine gg_icmp_lt (tgt := 14) dX7_lies_2 (by decide) (fun c2 => ?_) (fun c2 => ?_)
  · refine gg_iconst (v := 0) dX7_lies_14 (by decide) ?_
    exact gg_ireturn dX7_lies_15 rfl rfl ⟨(Nat.le_of_ble_eq_true rfl), (Nat.le_of_ble_eq_true rfl)⟩ (⟨rfl, by first | rw [wi_t c2 c7] | rw [wi_f1 c2] | rw [wi_f2 c7]⟩)
  · refine gg_iload_n dX7_lies_5 rfl rfl ?_
    refine gg_iload_n dX7_lies_6 rfl rfl ?_
    refine gg_icmp_gt (tgt := 14) dX7_lies_7 (by decide) (fun c7 => ?_) (fun c7 => ?_)
    · refine gg_iconst (v := 0) dX7_lies_14 (by decide) ?_
      exact gg_ireturn dX7_lies_15 rfl rfl ⟨(Nat.le_of_ble_eq_true rfl), (Nat.le_of_ble_eq_true rfl)⟩ (⟨rfl, by first | rw [wi_t c2 c7] | rw [wi_f1 c2] | rw [wi_f2 c7]⟩)
    · refine gg_iconst (v := 1) dX7_lies_10 (by decide) ?_
      refine gg_goto (tgt := 15) dX7_lies_11 (by decide) ?_
      exact gg_ireturn dX7_lies_15 rfl rfl ⟨(Nat.le_of_ble_eq_true rfl), (Nat.le_of_ble_eq_true rfl)⟩ (⟨rfl, by first | rw [wi_t c2 c7] | rw [wi_f1 c2] | rw [wi_f2 c7]⟩)
theorem sp_X6_hasBit (S : gl_H) (a b : Int32) : Sp mX6_hasBit yX6_hasBit [.int a, .int b] S (fun r S1 => S1 = S ∧ r = some (.int (if hb_ a b then 1 else 0))) := by
  refine gl_enter (j := 0) (by decide +kernel) rfl (fun h => absurd h (by decide)) (Nat.le_of_ble_eq_true rfl) rfl (fun x => ?_)
  refine gg_iload_n dX6_hasBit_0 rfl rfl ?_
  refine gg_iload_n dX6_hasBit_1 rfl rfl ?_
  refine gg_ishr dX6_hasBit_2 ?_
  refine gg_iconst (v := 1) dX6_hasBit_3 (by decide) ?_
  refine gg_iand dX6_hasBit_4 ?_
  refine gg_iconst (v := 1) dX6_hasBit_5 (by decide) ?_
  refine gg_icmp_ne (tgt := 13) dX6_hasBit_6 (by decide) (fun c6 => ?_) (fun c6 => ?_)
  · refine gg_iconst (v := 0) dX6_hasBit_13 (by decide) ?_
    exact gg_ireturn dX6_hasBit_14 rfl rfl ⟨(Nat.le_of_ble_eq_true rfl), (Nat.le_of_ble_eq_true rfl)⟩ (⟨rfl, by simp [hb_, c6]⟩)
  · refine gg_iconst (v := 1) dX6_hasBit_9 (by decide) ?_
    refine gg_goto (tgt := 14) dX6_hasBit_10 (by decide) ?_
    exact gg_ireturn dX6_hasBit_14 rfl rfl ⟨(Nat.le_of_ble_eq_true rfl), (Nat.le_of_ble_eq_true rfl)⟩ (⟨rfl, by simp [hb_, c6]⟩)
theorem sp_X7_has (S : gl_H) (a b : Int32) : Sp mX7_has yX7_has [.int a, .int b] S (fun r S1 => S1 = S ∧ r = some (.int (if hb_ a b then 1 else 0))) := by
  refine gl_enter (j := 0) (by decide +kernel) rfl (fun h => absurd h (by decide)) (Nat.le_of_ble_eq_true rfl) rfl (fun x => ?_)
  refine gg_iload_n dX7_has_0 rfl rfl ?_
  refine gg_iload_n dX7_has_1 rfl rfl ?_
  refine gg_ishr dX7_has_2 ?_
  refine gg_iconst (v := 1) dX7_has_3 (by decide) ?_
  refine gg_iand dX7_has_4 ?_
  refine gg_iconst (v := 1) dX7_has_5 (by decide) ?_
  refine gg_icmp_ne (tgt := 13) dX7_has_6 (by decide) (fun c6 => ?_) (fun c6 => ?_)
  · refine gg_iconst (v := 0) dX7_has_13 (by decide) ?_
    exact gg_ireturn dX7_has_14 rfl rfl ⟨(Nat.le_of_ble_eq_true rfl), (Nat.le_of_ble_eq_true rfl)⟩ (⟨rfl, by simp [hb_, c6]⟩)
  · refine gg_iconst (v := 1) dX7_has_9 (by decide) ?_
    refine gg_goto (tgt := 14) dX7_has_10 (by decide) ?_
    exact gg_ireturn dX7_has_14 rfl rfl ⟨(Nat.le_of_ble_eq_true rfl), (Nat.le_of_ble_eq_true rfl)⟩ (⟨rfl, by simp [hb_, c6]⟩)
