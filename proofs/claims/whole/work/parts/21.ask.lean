/-! what fills and asks the match -/
def dgE (g t : Int32) : Int64 := t.toInt64 <<< ((4 * (9 - g)).toInt64 &&& 63)
theorem sp_X1_digit (S : gl_H) (g t : Int32) : Sp mX1_digit yX1_digit [.int g, .int t] S (fun r S1 => S1 = S ∧ r = some (.long (dgE g t))) := by
  refine gl_enter (j := 0) (by decide +kernel) rfl (fun h => absurd h (by decide)) (Nat.le_of_ble_eq_true rfl) rfl (fun x => ?_)
  refine gg_iload_n dX1_digit_0 rfl rfl ?_
  refine gg_i2l dX1_digit_1 ?_
  refine gg_iconst (v := 4) dX1_digit_2 (by decide) ?_
  refine gg_bipush (v := 9) dX1_digit_3 (by decide) ?_
  refine gg_iload_n dX1_digit_5 rfl rfl ?_
  refine gg_isub dX1_digit_6 ?_
  refine gg_imul dX1_digit_7 ?_
  refine gg_lshl dX1_digit_8 ?_
  exact gg_lreturn dX1_digit_9 rfl ⟨(Nat.le_of_ble_eq_true rfl), (Nat.le_of_ble_eq_true rfl)⟩ (⟨rfl, rfl⟩)
def clW (w : Nat → Nat → Int64) (n : Nat) : Nat → Nat → Int64 := fun g => if g < n then fillN (w g) 13 (-1) else w g
theorem clW_s (w : Nat → Nat → Int64) (n : Nat) : va_up (clW w n) n (fillN (clW w n n) 13 (-1)) = clW w (n + 1) := funext (fun g => by
  unfold va_up clW
  by_cases h : g = n
  · subst h
    rw [if_pos rfl, if_neg (Nat.lt_irrefl _), if_pos (Nat.lt_succ_self _)]
  · rw [if_neg h]
    by_cases h2 : g < n
    · rw [if_pos h2, if_pos (by omega)]
    · rw [if_neg h2, if_neg (by omega)])
theorem clW_0 (w : Nat → Nat → Int64) : clW w 0 = w := funext (fun g => if_neg (Nat.not_lt_zero g))
theorem cl_loop {S0 : gl_H} {og tk : Int32} {w : Nat → Nat → Int64} {tks to : Nat → Int32} {tl : Nat → Int64} {lt : Nat → Int32} {Z : State → Prop} (x : gl_X) (K : ∀ S, PM S og tk (clW w 10) tks to tl lt → Fr 12 30 S0 S → GG mX1_clear x Z 26 [some (.ref 12), none] [] S (0, 0)) : ∀ (m g : Nat), g + m = 10 → ∀ S, PM S og tk (clW w g) tks to tl lt → Fr 12 30 S0 S → GG mX1_clear x Z 2 [some (.ref 12), some (.int (nI g))] [] S (0, 0) := by
  intro m
  induction m with
  | zero =>
    intro g hm S hp hf
    have e : g = 10 := by omega
    subst e
    refine gg_iload_n dX1_clear_2 rfl rfl ?_
    refine gg_bipush (v := 10) dX1_clear_3 (by decide) ?_
    refine gg_icmp_ge (tgt := 26) dX1_clear_5 (by decide) (fun c5 => ?_) (fun c5 => ?_)
    · refine gg_fg [true, false] ?_
      exact K S hp hf
    · exact absurd (nI_le (Nat.le_refl 10) (by omega)) c5
  | succ m ih =>
    intro g hm S hp hf
    have hg : g < 10 := by omega
    refine gg_iload_n dX1_clear_2 rfl rfl ?_
    refine gg_bipush (v := 10) dX1_clear_3 (by decide) ?_
    refine gg_icmp_ge (tgt := 26) dX1_clear_5 (by decide) (fun c5 => ?_) (fun c5 => ?_)
    · exact absurd (n_le (a := 10) c5) (by omega)
    · refine gg_aload_n dX1_clear_8 rfl rfl ?_
      refine gf_X1_13 rfl dX1_clear_9 hp.1 rfl ?_
      refine gg_iload_n dX1_clear_12 rfl rfl ?_
      refine gg_ald_r (g) dX1_clear_13 hp.2.1 rfl hg (by decide) (if_pos hg) ?_
      refine gg_ldc2 (v := -1) dX1_clear_14 kq_30 ?_
      refine gg_callS (sp_J7_fill_d0a16 (by decide) (hp.2.2.1 g hg) (-1)) dX1_clear_17 kw_X1_32 rfl rfl (Nat.le_of_ble_eq_true rfl) (Nat.le_of_ble_eq_true rfl) (Nat.le_of_ble_eq_true rfl) ⟨(Nat.le_of_ble_eq_true rfl), (Nat.le_of_ble_eq_true rfl)⟩ (fun r S1 hq => ?_)
      refine gg_k (k2 := (0, 0)) rfl ?_
      obtain ⟨rfl, e9⟩ := hq
      rw [e9]
      clear e9 S1
      refine PMs_row hg hp hf (fun S hp hf => ?_)
      rw [clW_s] at hp
      refine gg_iinc (w := nI (g + 1)) dX1_clear_20 rfl (nI_1 g) (Nat.le_of_ble_eq_true rfl) rfl ?_
      refine gg_goto (tgt := 2) dX1_clear_23 (by decide) ?_
      exact ih (g + 1) (by omega) S hp hf
theorem sp_X1_clear {S : gl_H} {og tk : Int32} {w : Nat → Nat → Int64} {tks : Nat → Int32} {a : Nat → Nat} {tl : Nat → Int64} {lt : Nat → Int32} (hp : PM S og tk w tks (fun i => nI (a i)) tl lt) : Sp mX1_clear yX1_clear [.ref 12] S (fun r S1 => r = none ∧ PM S1 0 0 (clW w 10) (fillN tks 10 0) (fun i => nI (fillN a 10 12 i)) tl lt ∧ Fr 12 30 S S1) := by
  refine gl_enter (j := 1) (by decide +kernel) rfl (fun h => absurd h (by decide)) (Nat.le_of_ble_eq_true rfl) rfl (fun x => ?_)
  refine gg_iconst (v := 0) dX1_clear_0 (by decide) ?_
  refine gg_istore_n dX1_clear_1 rfl (Nat.le_of_ble_eq_true rfl) rfl ?_
  refine cl_loop (S0 := S) x (fun S hp hf => ?_) 10 0 rfl S (by rw [clW_0]; exact hp) Fr.rf
  refine gg_aload_n dX1_clear_26 rfl rfl ?_
  refine gf_X1_16 rfl dX1_clear_27 hp.1 rfl ?_
  refine gg_iconst (v := 0) dX1_clear_30 (by decide) ?_
  refine gg_callS (sp_J7_fill_53178 (by decide) hp.2.2.2.1 0) dX1_clear_31 kw_X1_38 rfl rfl (Nat.le_of_ble_eq_true rfl) (Nat.le_of_ble_eq_true rfl) (Nat.le_of_ble_eq_true rfl) ⟨(Nat.le_of_ble_eq_true rfl), (Nat.le_of_ble_eq_true rfl)⟩ (fun r S1 hq => ?_)
  refine gg_k (k2 := (0, 0)) rfl ?_
  obtain ⟨rfl, e9⟩ := hq
  rw [e9]
  clear e9 S1
  refine PMs_tks hp hf (fun S hp hf => ?_)
  refine gg_aload_n dX1_clear_34 rfl rfl ?_
  refine gf_X1_20 rfl dX1_clear_35 hp.1 rfl ?_
  refine gg_bipush (v := 12) dX1_clear_38 (by decide) ?_
  refine gg_callS (sp_J7_fill_53178 (by decide) hp.2.2.2.2.1 12) dX1_clear_40 kw_X1_38 rfl rfl (Nat.le_of_ble_eq_true rfl) (Nat.le_of_ble_eq_true rfl) (Nat.le_of_ble_eq_true rfl) ⟨(Nat.le_of_ble_eq_true rfl), (Nat.le_of_ble_eq_true rfl)⟩ (fun r S1 hq => ?_)
  refine gg_k (k2 := (0, 0)) rfl ?_
  obtain ⟨rfl, e9⟩ := hq
  rw [e9]
  clear e9 S1
  refine PMs_to hp hf (fun S hp hf => ?_)
  rw [show fillN (fun i => nI (a i)) 10 12 = fun i => nI (fillN a 10 12 i) from fillN_F nI a 10 12] at hp
  refine gg_aload_n dX1_clear_43 rfl rfl ?_
  refine gg_iconst (v := 0) dX1_clear_44 (by decide) ?_
  refine pf_X1_41 rfl dX1_clear_45 hp.1 (Nat.le_of_ble_eq_true rfl) ?_
  refine PMs_og hp hf (fun S hp hf => ?_)
  refine gg_aload_n dX1_clear_48 rfl rfl ?_
  refine gg_iconst (v := 0) dX1_clear_49 (by decide) ?_
  refine pf_X1_45 rfl dX1_clear_50 hp.1 (Nat.le_of_ble_eq_true rfl) ?_
  refine PMs_tk hp hf (fun S hp hf => ?_)
  exact gg_return dX1_clear_53 rfl ⟨(Nat.le_of_ble_eq_true rfl), (Nat.le_of_ble_eq_true rfl)⟩ (⟨rfl, hp, hf⟩)
def mUNF : Int64 := 2305843009213693952
set_option maxRecDepth 20000 in
theorem kq_52 : Cond.constantLong RX1 52 mUNF ∈ gl_T := (gl_T_in (by decide +kernel) (by decide +kernel))
theorem sp_X1_open {S : gl_H} {og tk : Int32} {w : Nat → Nat → Int64} {tks to : Nat → Int32} {tl : Nat → Int64} {lt : Nat → Int32} (hp : PM S og tk w tks to tl lt) {g : Nat} (hg : g < 10) : Sp mX1_open yX1_open [.ref 12, .int (nI g)] S (fun r S1 => r = none ∧ PM S1 (og ||| ((1 : Int32) <<< (nI g &&& 31))) tk (va_up w g (vp_updL (w g) 12 (mUNF + dgE (nI g) 12))) tks to tl lt ∧ Fr 12 30 S S1) := by
  refine gl_enter (j := 0) (by decide +kernel) rfl (fun h => absurd h (by decide)) (Nat.le_of_ble_eq_true rfl) rfl (fun x => ?_)
  have hf : Fr 12 30 S S := Fr.rf
  refine gg_iload_n dX1_open_0 rfl rfl ?_
  refine gg_callS (sp_X1_isGap_y S hg) dX1_open_1 kw_X1_48 rfl rfl (Nat.le_of_ble_eq_true rfl) (Nat.le_of_ble_eq_true rfl) (Nat.le_of_ble_eq_true rfl) ⟨(Nat.le_of_ble_eq_true rfl), (Nat.le_of_ble_eq_true rfl)⟩ (fun r S1 hq => ?_)
  refine gg_k (k2 := (0, 0)) rfl ?_
  obtain ⟨e9, rfl⟩ := hq
  rw [e9]
  clear e9 S1
  refine gg_if_eq (tgt := 38) dX1_open_4 (by decide) (fun c4 => ?_) (fun c4 => ?_)
  · exact absurd c4 (by decide)
  · refine gg_aload_n dX1_open_7 rfl rfl ?_
    refine gg_dup dX1_open_8 rfl ?_
    refine gf_X1_41 rfl dX1_open_9 hp.1 rfl ?_
    refine gg_iconst (v := 1) dX1_open_12 (by decide) ?_
    refine gg_iload_n dX1_open_13 rfl rfl ?_
    refine gg_ishl dX1_open_14 ?_
    refine gg_ior dX1_open_15 ?_
    refine pf_X1_41 rfl dX1_open_16 hp.1 (Nat.le_of_ble_eq_true rfl) ?_
    refine PMs_og hp hf (fun S hp hf => ?_)
    refine gg_aload_n dX1_open_19 rfl rfl ?_
    refine gf_X1_13 rfl dX1_open_20 hp.1 rfl ?_
    refine gg_iload_n dX1_open_23 rfl rfl ?_
    refine gg_ald_r (g) dX1_open_24 hp.2.1 rfl hg (by decide) (if_pos hg) ?_
    refine gg_bipush (v := 12) dX1_open_25 (by decide) ?_
    refine gg_ldc2 (v := mUNF) dX1_open_27 kq_52 ?_
    refine gg_iload_n dX1_open_30 rfl rfl ?_
    refine gg_bipush (v := 12) dX1_open_31 (by decide) ?_
    refine gg_callS (sp_X1_digit S (nI g) 12) dX1_open_33 kw_X1_54 rfl rfl (Nat.le_of_ble_eq_true rfl) (Nat.le_of_ble_eq_true rfl) (Nat.le_of_ble_eq_true rfl) ⟨(Nat.le_of_ble_eq_true rfl), (Nat.le_of_ble_eq_true rfl)⟩ (fun r S1 hq => ?_)
    refine gg_k (k2 := (0, 0)) rfl ?_
    obtain ⟨e9, rfl⟩ := hq
    rw [e9]
    clear e9 S1
    refine gg_ladd dX1_open_36 ?_
    refine gg_ast_l (12) dX1_open_37 (hp.2.2.1 g hg) rfl (by decide) (by decide) ?_
    refine PMs_row hg hp hf (fun S hp hf => ?_)
    exact gg_return dX1_open_38 rfl ⟨(Nat.le_of_ble_eq_true rfl), (Nat.le_of_ble_eq_true rfl)⟩ (⟨rfl, hp, hf⟩)
def wtE (g t : Nat) (c : Int32) : Int64 := (c.toInt64 <<< ((40 : Int32).toInt64 &&& 63)) + dgE (nI g) (nI t)
theorem sp_X1_offer {S : gl_H} {og tk : Int32} {w : Nat → Nat → Int64} {tks to : Nat → Int32} {tl : Nat → Int64} {lt : Nat → Int32} (hp : PM S og tk w tks to tl lt) {g t : Nat} (hg : g < 10) (ht : t < 12) (c : Int32) : Sp mX1_offer yX1_offer [.ref 12, .int (nI g), .int (nI t), .int c] S (fun r S1 => r = none ∧ PM S1 og tk (va_up w g (vp_updL (w g) t (wtE g t c))) (upd tks g (tks g ||| ((1 : Int32) <<< (nI t &&& 31)))) to tl lt ∧ Fr 12 30 S S1) := by
  refine gl_enter (j := 0) (by decide +kernel) rfl (fun h => absurd h (by decide)) (Nat.le_of_ble_eq_true rfl) rfl (fun x => ?_)
  have hf : Fr 12 30 S S := Fr.rf
  refine gg_iload_n dX1_offer_0 rfl rfl ?_
  refine gg_callS (sp_X1_isGap_y S hg) dX1_offer_1 kw_X1_48 rfl rfl (Nat.le_of_ble_eq_true rfl) (Nat.le_of_ble_eq_true rfl) (Nat.le_of_ble_eq_true rfl) ⟨(Nat.le_of_ble_eq_true rfl), (Nat.le_of_ble_eq_true rfl)⟩ (fun r S1 hq => ?_)
  refine gg_k (k2 := (0, 0)) rfl ?_
  obtain ⟨e9, rfl⟩ := hq
  rw [e9]
  clear e9 S1
  refine gg_if_eq (tgt := 48) dX1_offer_4 (by decide) (fun c4 => ?_) (fun c4 => ?_)
  · exact absurd c4 (by decide)
  · refine gg_iload_n dX1_offer_7 rfl rfl ?_
    refine gg_if_lt (tgt := 48) dX1_offer_8 (by decide) (fun c8 => ?_) (fun c8 => ?_)
    · exact absurd c8 (nI_pos (by omega))
    · refine gg_iload_n dX1_offer_11 rfl rfl ?_
      refine gg_bipush (v := 12) dX1_offer_12 (by decide) ?_
      refine gg_icmp_ge (tgt := 48) dX1_offer_14 (by decide) (fun c14 => ?_) (fun c14 => ?_)
      · exact absurd (n_le (a := 12) c14) (by omega)
      · refine gg_aload_n dX1_offer_17 rfl rfl ?_
        refine gf_X1_13 rfl dX1_offer_18 hp.1 rfl ?_
        refine gg_iload_n dX1_offer_21 rfl rfl ?_
        refine gg_ald_r (g) dX1_offer_22 hp.2.1 rfl hg (by decide) (if_pos hg) ?_
        refine gg_iload_n dX1_offer_23 rfl rfl ?_
        refine gg_iload_n dX1_offer_24 rfl rfl ?_
        refine gg_i2l dX1_offer_25 ?_
        refine gg_bipush (v := 40) dX1_offer_26 (by decide) ?_
        refine gg_lshl dX1_offer_28 ?_
        refine gg_iload_n dX1_offer_29 rfl rfl ?_
        refine gg_iload_n dX1_offer_30 rfl rfl ?_
        refine gg_callS (sp_X1_digit S (nI g) (nI t)) dX1_offer_31 kw_X1_54 rfl rfl (Nat.le_of_ble_eq_true rfl) (Nat.le_of_ble_eq_true rfl) (Nat.le_of_ble_eq_true rfl) ⟨(Nat.le_of_ble_eq_true rfl), (Nat.le_of_ble_eq_true rfl)⟩ (fun r S1 hq => ?_)
        refine gg_k (k2 := (0, 0)) rfl ?_
        obtain ⟨e9, rfl⟩ := hq
        rw [e9]
        clear e9 S1
        refine gg_ladd dX1_offer_34 ?_
        refine gg_ast_l (t) dX1_offer_35 (hp.2.2.1 g hg) rfl (show t < 13 by omega) (by decide) ?_
        refine PMs_row hg hp hf (fun S hp hf => ?_)
        refine gg_aload_n dX1_offer_36 rfl rfl ?_
        refine gf_X1_16 rfl dX1_offer_37 hp.1 rfl ?_
        refine gg_iload_n dX1_offer_40 rfl rfl ?_
        refine gg_dup2 dX1_offer_41 rfl rfl ?_
        refine gg_ald_i (g) dX1_offer_42 hp.2.2.2.1 rfl hg (by decide) ?_
        refine gg_iconst (v := 1) dX1_offer_43 (by decide) ?_
        refine gg_iload_n dX1_offer_44 rfl rfl ?_
        refine gg_ishl dX1_offer_45 ?_
        refine gg_ior dX1_offer_46 ?_
        refine gg_ast_i (g) dX1_offer_47 hp.2.2.2.1 rfl hg (by decide) ?_
        refine PMs_tks hp hf (fun S hp hf => ?_)
        exact gg_return dX1_offer_48 rfl ⟨(Nat.le_of_ble_eq_true rfl), (Nat.le_of_ble_eq_true rfl)⟩ (⟨rfl, hp, hf⟩)
def tfO (a : Nat → Nat) (g : Nat) : Option Nat := if a g = 12 then none else some (a g)
theorem sp_X1_teacherFor {S : gl_H} {og tk : Int32} {w : Nat → Nat → Int64} {tks : Nat → Int32} {a : Nat → Nat} {tl : Nat → Int64} {lt : Nat → Int32} (hp : PM S og tk w tks (fun i => nI (a i)) tl lt) (ha : ∀ i, a i ≤ 12) {g : Nat} (hg : g < 10) : Sp mX1_teacherFor yX1_teacherFor [.ref 12, .int (nI g)] S (fun r S1 => S1 = S ∧ r = some (.int (oI (tfO a g)))) := by
  refine gl_enter (j := 0) (by decide +kernel) rfl (fun h => absurd h (by decide)) (Nat.le_of_ble_eq_true rfl) rfl (fun x => ?_)
  have hag := ha g
  refine gg_iload_n dX1_teacherFor_0 rfl rfl ?_
  refine gg_callS (sp_X1_isGap_y S hg) dX1_teacherFor_1 kw_X1_48 rfl rfl (Nat.le_of_ble_eq_true rfl) (Nat.le_of_ble_eq_true rfl) (Nat.le_of_ble_eq_true rfl) ⟨(Nat.le_of_ble_eq_true rfl), (Nat.le_of_ble_eq_true rfl)⟩ (fun r S1 hq => ?_)
  refine gg_k (k2 := (0, 0)) rfl ?_
  obtain ⟨e9, rfl⟩ := hq
  rw [e9]
  clear e9 S1
  refine gg_if_eq (tgt := 27) dX1_teacherFor_4 (by decide) (fun c4 => ?_) (fun c4 => ?_)
  · exact absurd c4 (by decide)
  · refine gg_aload_n dX1_teacherFor_7 rfl rfl ?_
    refine gf_X1_20 rfl dX1_teacherFor_8 hp.1 rfl ?_
    refine gg_iload_n dX1_teacherFor_11 rfl rfl ?_
    refine gg_ald_i (g) dX1_teacherFor_12 hp.2.2.2.2.1 rfl hg (by decide) ?_
    refine gg_bipush (v := 12) dX1_teacherFor_13 (by decide) ?_
    refine gg_icmp_eq (tgt := 27) dX1_teacherFor_15 (by decide) (fun c15 => ?_) (fun c15 => ?_)
    · have e : tfO a g = none := if_pos (n_eq (b := 12) c15)
      refine gg_iconst (v := -1) dX1_teacherFor_27 (by decide) ?_
      exact gg_ireturn dX1_teacherFor_28 rfl rfl ⟨(Nat.le_of_ble_eq_true rfl), (Nat.le_of_ble_eq_true rfl)⟩ (⟨rfl, by rw [e]; rfl⟩)
    · have e : tfO a g = some (a g) := if_neg (n_ne (b := 12) c15)
      refine gg_aload_n dX1_teacherFor_18 rfl rfl ?_
      refine gf_X1_20 rfl dX1_teacherFor_19 hp.1 rfl ?_
      refine gg_iload_n dX1_teacherFor_22 rfl rfl ?_
      refine gg_ald_i (g) dX1_teacherFor_23 hp.2.2.2.2.1 rfl hg (by decide) ?_
      refine gg_goto (tgt := 28) dX1_teacherFor_24 (by decide) ?_
      exact gg_ireturn dX1_teacherFor_28 rfl rfl ⟨(Nat.le_of_ble_eq_true rfl), (Nat.le_of_ble_eq_true rfl)⟩ (⟨rfl, by rw [e]; rfl⟩)
def ffst (p : Nat → Bool) : Nat → Nat → Option Nat
  | _, 0 => none
  | g, m + 1 => if p g then some g else ffst p (g + 1) m
theorem gf_loop {S : gl_H} {og tk : Int32} {w : Nat → Nat → Int64} {tks : Nat → Int32} {a : Nat → Nat} {tl : Nat → Int64} {lt : Nat → Int32} (hp : PM S og tk w tks (fun i => nI (a i)) tl lt) (ha : ∀ i, a i ≤ 12) {t : Nat} (ht : t < 12) (x : gl_X) {Q : Option Value → gl_H → Prop} : ∀ (m g : Nat), g + m = 10 → Q (some (.int (oI (ffst (fun i => !(a i == 12) && a i == t) g m)))) S → GG mX1_gapFor x (gl_Z mX1_gapFor x Q) 2 [some (.ref 12), some (.int (nI t)), some (.int (nI g))] [] S (0, 0) := by
  intro m
  induction m with
  | zero =>
    intro g hm hQ
    have e : g = 10 := by omega
    subst e
    refine gg_iload_n dX1_gapFor_2 rfl rfl ?_
    refine gg_bipush (v := 10) dX1_gapFor_3 (by decide) ?_
    refine gg_icmp_ge (tgt := 37) dX1_gapFor_5 (by decide) (fun c5 => ?_) (fun c5 => ?_)
    · refine gg_iconst (v := -1) dX1_gapFor_37 (by decide) ?_
      exact gg_ireturn dX1_gapFor_38 rfl rfl ⟨(Nat.le_of_ble_eq_true rfl), (Nat.le_of_ble_eq_true rfl)⟩ (hQ)
    · exact absurd (nI_le (Nat.le_refl 10) (by omega)) c5
  | succ m ih =>
    intro g hm hQ
    have hg : g < 10 := by omega
    have hag := ha g
    have e0 : ffst (fun i => !(a i == 12) && a i == t) g (m + 1) = if (!(a g == 12) && a g == t) then some g else ffst (fun i => !(a i == 12) && a i == t) (g + 1) m := rfl
    rw [e0] at hQ
    refine gg_iload_n dX1_gapFor_2 rfl rfl ?_
    refine gg_bipush (v := 10) dX1_gapFor_3 (by decide) ?_
    refine gg_icmp_ge (tgt := 37) dX1_gapFor_5 (by decide) (fun c5 => ?_) (fun c5 => ?_)
    · exact absurd (n_le (a := 10) c5) (by omega)
    · refine gg_aload_n dX1_gapFor_8 rfl rfl ?_
      refine gf_X1_20 rfl dX1_gapFor_9 hp.1 rfl ?_
      refine gg_iload_n dX1_gapFor_12 rfl rfl ?_
      refine gg_ald_i (g) dX1_gapFor_13 hp.2.2.2.2.1 rfl hg (by decide) ?_
      refine gg_bipush (v := 12) dX1_gapFor_14 (by decide) ?_
      refine gg_icmp_eq (tgt := 31) dX1_gapFor_16 (by decide) (fun c16 => ?_) (fun c16 => ?_)
      · have e : ¬ (!(a g == 12) && a g == t) = true := by simp [n_eq (b := 12) c16]
        refine gg_iinc (w := nI (g + 1)) dX1_gapFor_31 rfl (nI_1 g) (Nat.le_of_ble_eq_true rfl) rfl ?_
        refine gg_goto (tgt := 2) dX1_gapFor_34 (by decide) ?_
        exact ih (g + 1) (by omega) (by rw [if_neg e] at hQ; exact hQ)
      · have c16 := n_ne (b := 12) c16
        refine gg_aload_n dX1_gapFor_19 rfl rfl ?_
        refine gf_X1_20 rfl dX1_gapFor_20 hp.1 rfl ?_
        refine gg_iload_n dX1_gapFor_23 rfl rfl ?_
        refine gg_ald_i (g) dX1_gapFor_24 hp.2.2.2.2.1 rfl hg (by decide) ?_
        refine gg_iload_n dX1_gapFor_25 rfl rfl ?_
        refine gg_icmp_ne (tgt := 31) dX1_gapFor_26 (by decide) (fun c26 => ?_) (fun c26 => ?_)
        · have e : ¬ (!(a g == 12) && a g == t) = true := by simp [n_ne c26]
          refine gg_iinc (w := nI (g + 1)) dX1_gapFor_31 rfl (nI_1 g) (Nat.le_of_ble_eq_true rfl) rfl ?_
          refine gg_goto (tgt := 2) dX1_gapFor_34 (by decide) ?_
          exact ih (g + 1) (by omega) (by rw [if_neg e] at hQ; exact hQ)
        · have e : (!(a g == 12) && a g == t) = true := by simp [n_eq c26]; omega
          rw [if_pos e] at hQ
          refine gg_iload_n dX1_gapFor_29 rfl rfl ?_
          exact gg_ireturn dX1_gapFor_30 rfl rfl ⟨(Nat.le_of_ble_eq_true rfl), (Nat.le_of_ble_eq_true rfl)⟩ (hQ)
theorem sp_X1_gapFor {S : gl_H} {og tk : Int32} {w : Nat → Nat → Int64} {tks : Nat → Int32} {a : Nat → Nat} {tl : Nat → Int64} {lt : Nat → Int32} (hp : PM S og tk w tks (fun i => nI (a i)) tl lt) (ha : ∀ i, a i ≤ 12) {t : Nat} (ht : t < 12) : Sp mX1_gapFor yX1_gapFor [.ref 12, .int (nI t)] S (fun r S1 => S1 = S ∧ r = some (.int (oI (ffst (fun i => !(a i == 12) && a i == t) 0 10)))) := by
  refine gl_enter (j := 1) (by decide +kernel) rfl (fun h => absurd h (by decide)) (Nat.le_of_ble_eq_true rfl) rfl (fun x => ?_)
  refine gg_iconst (v := 0) dX1_gapFor_0 (by decide) ?_
  refine gg_istore_n dX1_gapFor_1 rfl (Nat.le_of_ble_eq_true rfl) rfl ?_
  exact gf_loop hp ha ht x 10 0 rfl ⟨rfl, rfl⟩
def cntN (p : Nat → Bool) : Nat → Nat
  | 0 => 0
  | n + 1 => if p n then cntN p n + 1 else cntN p n
theorem cntN_le (p : Nat → Bool) : ∀ n, cntN p n ≤ n
  | 0 => Nat.le_refl 0
  | n + 1 => by
    have := cntN_le p n
    show (if p n then cntN p n + 1 else cntN p n) ≤ n + 1
    split <;> omega
def ciF (w : Nat → Nat → Int64) (a : Nat → Nat) : Nat → Int32
  | 0 => 0
  | g + 1 => if a g = 12 then ciF w a g else ciF w a g + (w g (a g) >>> ((40 : Int32).toInt64 &&& 63)).toInt32
theorem fi_loop {S : gl_H} {og tk : Int32} {w : Nat → Nat → Int64} {tks : Nat → Int32} {a : Nat → Nat} {tl : Nat → Int64} {lt : Nat → Int32} (hp : PM S og tk w tks (fun i => nI (a i)) tl lt) (ha : ∀ i, a i ≤ 12) (x : gl_X) : ∀ (m g : Nat), g + m = 10 → GG mX1_filled x (gl_Z mX1_filled x (fun r S1 => S1 = S ∧ r = some (.int (nI (cntN (fun i => !(a i == 12)) 10))))) 4 [some (.ref 12), some (.int (nI (cntN (fun i => !(a i == 12)) g))), some (.int (nI g))] [] S (0, 0) := by
  intro m
  induction m with
  | zero =>
    intro g hm
    have e : g = 10 := by omega
    subst e
    refine gg_iload_n dX1_filled_4 rfl rfl ?_
    refine gg_bipush (v := 10) dX1_filled_5 (by decide) ?_
    refine gg_icmp_ge (tgt := 30) dX1_filled_7 (by decide) (fun c7 => ?_) (fun c7 => ?_)
    · refine gg_iload_n dX1_filled_30 rfl rfl ?_
      exact gg_ireturn dX1_filled_31 rfl rfl ⟨(Nat.le_of_ble_eq_true rfl), (Nat.le_of_ble_eq_true rfl)⟩ (⟨rfl, rfl⟩)
    · exact absurd (nI_le (Nat.le_refl 10) (by omega)) c7
  | succ m ih =>
    intro g hm
    have hg : g < 10 := by omega
    have hag := ha g
    have hc := cntN_le (fun i => !(a i == 12)) g
    refine gg_iload_n dX1_filled_4 rfl rfl ?_
    refine gg_bipush (v := 10) dX1_filled_5 (by decide) ?_
    refine gg_icmp_ge (tgt := 30) dX1_filled_7 (by decide) (fun c7 => ?_) (fun c7 => ?_)
    · exact absurd (n_le (a := 10) c7) (by omega)
    · refine gg_aload_n dX1_filled_10 rfl rfl ?_
      refine gf_X1_20 rfl dX1_filled_11 hp.1 rfl ?_
      refine gg_iload_n dX1_filled_14 rfl rfl ?_
      refine gg_ald_i (g) dX1_filled_15 hp.2.2.2.2.1 rfl hg (by decide) ?_
      refine gg_bipush (v := 12) dX1_filled_16 (by decide) ?_
      refine gg_icmp_eq (tgt := 24) dX1_filled_18 (by decide) (fun c18 => ?_) (fun c18 => ?_)
      · have e : cntN (fun i => !(a i == 12)) (g + 1) = cntN (fun i => !(a i == 12)) g := if_neg (by simp [n_eq (b := 12) c18])
        refine gg_iinc (w := nI (g + 1)) dX1_filled_24 rfl (nI_1 g) (Nat.le_of_ble_eq_true rfl) rfl ?_
        refine gg_goto (tgt := 4) dX1_filled_27 (by decide) ?_
        have h9 := ih (g + 1) (by omega)
        rw [e] at h9
        exact h9
      · have e : cntN (fun i => !(a i == 12)) (g + 1) = cntN (fun i => !(a i == 12)) g + 1 := if_pos (by simp [n_ne (b := 12) c18])
        refine gg_iinc (w := nI (cntN (fun i => !(a i == 12)) g + 1)) dX1_filled_21 rfl (nI_1 _) (Nat.le_of_ble_eq_true rfl) rfl ?_
        refine gg_iinc (w := nI (g + 1)) dX1_filled_24 rfl (nI_1 g) (Nat.le_of_ble_eq_true rfl) rfl ?_
        refine gg_goto (tgt := 4) dX1_filled_27 (by decide) ?_
        have h9 := ih (g + 1) (by omega)
        rw [e] at h9
        exact h9
theorem sp_X1_filled {S : gl_H} {og tk : Int32} {w : Nat → Nat → Int64} {tks : Nat → Int32} {a : Nat → Nat} {tl : Nat → Int64} {lt : Nat → Int32} (hp : PM S og tk w tks (fun i => nI (a i)) tl lt) (ha : ∀ i, a i ≤ 12) : Sp mX1_filled yX1_filled [.ref 12] S (fun r S1 => S1 = S ∧ r = some (.int (nI (cntN (fun i => !(a i == 12)) 10)))) := by
  refine gl_enter (j := 2) (by decide +kernel) rfl (fun h => absurd h (by decide)) (Nat.le_of_ble_eq_true rfl) rfl (fun x => ?_)
  refine gg_iconst (v := 0) dX1_filled_0 (by decide) ?_
  refine gg_istore_n dX1_filled_1 rfl (Nat.le_of_ble_eq_true rfl) rfl ?_
  refine gg_iconst (v := 0) dX1_filled_2 (by decide) ?_
  refine gg_istore_n dX1_filled_3 rfl (Nat.le_of_ble_eq_true rfl) rfl ?_
  exact fi_loop hp ha x 10 0 rfl
theorem ci_loop {S : gl_H} {og tk : Int32} {w : Nat → Nat → Int64} {tks : Nat → Int32} {a : Nat → Nat} {tl : Nat → Int64} {lt : Nat → Int32} (hp : PM S og tk w tks (fun i => nI (a i)) tl lt) (ha : ∀ i, a i ≤ 12) (x : gl_X) : ∀ (m g : Nat), g + m = 10 → GG mX1_costInAll x (gl_Z mX1_costInAll x (fun r S1 => S1 = S ∧ r = some (.int (ciF w a 10)))) 4 [some (.ref 12), some (.int (ciF w a g)), some (.int (nI g))] [] S (0, 0) := by
  intro m
  induction m with
  | zero =>
    intro g hm
    have e : g = 10 := by omega
    subst e
    refine gg_iload_n dX1_costInAll_4 rfl rfl ?_
    refine gg_bipush (v := 10) dX1_costInAll_5 (by decide) ?_
    refine gg_icmp_ge (tgt := 45) dX1_costInAll_7 (by decide) (fun c7 => ?_) (fun c7 => ?_)
    · refine gg_iload_n dX1_costInAll_45 rfl rfl ?_
      exact gg_ireturn dX1_costInAll_46 rfl rfl ⟨(Nat.le_of_ble_eq_true rfl), (Nat.le_of_ble_eq_true rfl)⟩ (⟨rfl, rfl⟩)
    · exact absurd (nI_le (Nat.le_refl 10) (by omega)) c7
  | succ m ih =>
    intro g hm
    have hg : g < 10 := by omega
    have hag := ha g
    refine gg_iload_n dX1_costInAll_4 rfl rfl ?_
    refine gg_bipush (v := 10) dX1_costInAll_5 (by decide) ?_
    refine gg_icmp_ge (tgt := 45) dX1_costInAll_7 (by decide) (fun c7 => ?_) (fun c7 => ?_)
    · exact absurd (n_le (a := 10) c7) (by omega)
    · refine gg_aload_n dX1_costInAll_10 rfl rfl ?_
      refine gf_X1_20 rfl dX1_costInAll_11 hp.1 rfl ?_
      refine gg_iload_n dX1_costInAll_14 rfl rfl ?_
      refine gg_ald_i (g) dX1_costInAll_15 hp.2.2.2.2.1 rfl hg (by decide) ?_
      refine gg_bipush (v := 12) dX1_costInAll_16 (by decide) ?_
      refine gg_icmp_eq (tgt := 39) dX1_costInAll_18 (by decide) (fun c18 => ?_) (fun c18 => ?_)
      · have e : ciF w a (g + 1) = ciF w a g := if_pos (n_eq (b := 12) c18)
        refine gg_iinc (w := nI (g + 1)) dX1_costInAll_39 rfl (nI_1 g) (Nat.le_of_ble_eq_true rfl) rfl ?_
        refine gg_goto (tgt := 4) dX1_costInAll_42 (by decide) ?_
        have h9 := ih (g + 1) (by omega)
        rw [e] at h9
        exact h9
      · have e : ciF w a (g + 1) = ciF w a g + (w g (a g) >>> ((40 : Int32).toInt64 &&& 63)).toInt32 := if_neg (n_ne (b := 12) c18)
        refine gg_iload_n dX1_costInAll_21 rfl rfl ?_
        refine gg_aload_n dX1_costInAll_22 rfl rfl ?_
        refine gg_iload_n dX1_costInAll_23 rfl rfl ?_
        refine gg_aload_n dX1_costInAll_24 rfl rfl ?_
        refine gf_X1_20 rfl dX1_costInAll_25 hp.1 rfl ?_
        refine gg_iload_n dX1_costInAll_28 rfl rfl ?_
        refine gg_ald_i (g) dX1_costInAll_29 hp.2.2.2.2.1 rfl hg (by decide) ?_
        refine gg_callV (sp_X1_weightOf hp hg (show a g < 13 by omega)) dX1_costInAll_30 kw_X1_66 rfl hp.1 rfl rfl (Nat.le_of_ble_eq_true rfl) (Nat.le_of_ble_eq_true rfl) (Nat.le_of_ble_eq_true rfl) ⟨(Nat.le_of_ble_eq_true rfl), (Nat.le_of_ble_eq_true rfl)⟩ (fun r S1 hq => ?_)
        refine gg_k (k2 := (0, 0)) rfl ?_
        obtain ⟨e9, rfl⟩ := hq
        rw [e9]
        clear e9 S1
        refine gg_bipush (v := 40) dX1_costInAll_33 (by decide) ?_
        refine gg_lshr dX1_costInAll_35 ?_
        refine gg_l2i dX1_costInAll_36 ?_
        refine gg_iadd dX1_costInAll_37 ?_
        refine gg_istore_n dX1_costInAll_38 rfl (Nat.le_of_ble_eq_true rfl) rfl ?_
        refine gg_iinc (w := nI (g + 1)) dX1_costInAll_39 rfl (nI_1 g) (Nat.le_of_ble_eq_true rfl) rfl ?_
        refine gg_goto (tgt := 4) dX1_costInAll_42 (by decide) ?_
        have h9 := ih (g + 1) (by omega)
        rw [e] at h9
        exact h9
theorem sp_X1_costInAll {S : gl_H} {og tk : Int32} {w : Nat → Nat → Int64} {tks : Nat → Int32} {a : Nat → Nat} {tl : Nat → Int64} {lt : Nat → Int32} (hp : PM S og tk w tks (fun i => nI (a i)) tl lt) (ha : ∀ i, a i ≤ 12) : Sp mX1_costInAll yX1_costInAll [.ref 12] S (fun r S1 => S1 = S ∧ r = some (.int (ciF w a 10))) := by
  refine gl_enter (j := 2) (by decide +kernel) rfl (fun h => absurd h (by decide)) (Nat.le_of_ble_eq_true rfl) rfl (fun x => ?_)
  refine gg_iconst (v := 0) dX1_costInAll_0 (by decide) ?_
  refine gg_istore_n dX1_costInAll_1 rfl (Nat.le_of_ble_eq_true rfl) rfl ?_
  refine gg_iconst (v := 0) dX1_costInAll_2 (by decide) ?_
  refine gg_istore_n dX1_costInAll_3 rfl (Nat.le_of_ble_eq_true rfl) rfl ?_
  exact ci_loop hp ha x 10 0 rfl
def tkF (tks : Nat → Int32) (set : Int32) : Nat → Int32
  | 0 => 0
  | g + 1 => if hb_ set (nI g) then tkF tks set g ||| tks g else tkF tks set g
theorem to_loop {S : gl_H} {og tk : Int32} {w : Nat → Nat → Int64} {tks to : Nat → Int32} {tl : Nat → Int64} {lt : Nat → Int32} (hp : PM S og tk w tks to tl lt) (set : Int32) (x : gl_X) : ∀ (m g : Nat), g + m = 10 → GG mX1_takersOf x (gl_Z mX1_takersOf x (fun r S1 => S1 = S ∧ r = some (.int (tkF tks set 10)))) 4 [some (.ref 12), some (.int set), some (.int (tkF tks set g)), some (.int (nI g))] [] S (0, 0) := by
  intro m
  induction m with
  | zero =>
    intro g hm
    have e : g = 10 := by omega
    subst e
    refine gg_iload_n dX1_takersOf_4 rfl rfl ?_
    refine gg_bipush (v := 10) dX1_takersOf_5 (by decide) ?_
    refine gg_icmp_ge (tgt := 33) dX1_takersOf_7 (by decide) (fun c7 => ?_) (fun c7 => ?_)
    · refine gg_iload_n dX1_takersOf_33 rfl rfl ?_
      exact gg_ireturn dX1_takersOf_34 rfl rfl ⟨(Nat.le_of_ble_eq_true rfl), (Nat.le_of_ble_eq_true rfl)⟩ (⟨rfl, rfl⟩)
    · exact absurd (nI_le (Nat.le_refl 10) (by omega)) c7
  | succ m ih =>
    intro g hm
    have hg : g < 10 := by omega
    refine gg_iload_n dX1_takersOf_4 rfl rfl ?_
    refine gg_bipush (v := 10) dX1_takersOf_5 (by decide) ?_
    refine gg_icmp_ge (tgt := 33) dX1_takersOf_7 (by decide) (fun c7 => ?_) (fun c7 => ?_)
    · exact absurd (n_le (a := 10) c7) (by omega)
    · refine gg_iload_n dX1_takersOf_10 rfl rfl ?_
      refine gg_iload_n dX1_takersOf_11 rfl rfl ?_
      refine gg_callSN (host := RX6) (sp_X6_hasBit S set (nI g)) dX1_takersOf_12 (fun _ _ _ _ h => h.2.2.2.2.2.2.2.2.2) kw_X1_58 rfl rfl (Nat.le_of_ble_eq_true rfl) (Nat.le_of_ble_eq_true rfl) (Nat.le_of_ble_eq_true rfl) ⟨(Nat.le_of_ble_eq_true rfl), (Nat.le_of_ble_eq_true rfl)⟩ (fun r S1 hq => ?_)
      refine gg_k (k2 := (0, 0)) rfl ?_
      obtain ⟨e9, rfl⟩ := hq
      rw [e9]
      clear e9 S1
      refine gg_if_eq (tgt := 27) dX1_takersOf_15 (by decide) (fun c15 => ?_) (fun c15 => ?_)
      · have e : tkF tks set (g + 1) = tkF tks set g := if_neg (by rw [bI_z c15]; decide)
        refine gg_iinc (w := nI (g + 1)) dX1_takersOf_27 rfl (nI_1 g) (Nat.le_of_ble_eq_true rfl) rfl ?_
        refine gg_goto (tgt := 4) dX1_takersOf_30 (by decide) ?_
        have h9 := ih (g + 1) (by omega)
        rw [e] at h9
        exact h9
      · have e : tkF tks set (g + 1) = tkF tks set g ||| tks g := if_pos (bI_nz c15)
        refine gg_iload_n dX1_takersOf_18 rfl rfl ?_
        refine gg_aload_n dX1_takersOf_19 rfl rfl ?_
        refine gf_X1_16 rfl dX1_takersOf_20 hp.1 rfl ?_
        refine gg_iload_n dX1_takersOf_23 rfl rfl ?_
        refine gg_ald_i (g) dX1_takersOf_24 hp.2.2.2.1 rfl hg (by decide) ?_
        refine gg_ior dX1_takersOf_25 ?_
        refine gg_istore_n dX1_takersOf_26 rfl (Nat.le_of_ble_eq_true rfl) rfl ?_
        refine gg_iinc (w := nI (g + 1)) dX1_takersOf_27 rfl (nI_1 g) (Nat.le_of_ble_eq_true rfl) rfl ?_
        refine gg_goto (tgt := 4) dX1_takersOf_30 (by decide) ?_
        have h9 := ih (g + 1) (by omega)
        rw [e] at h9
        exact h9
theorem sp_X1_takersOf {S : gl_H} {og tk : Int32} {w : Nat → Nat → Int64} {tks to : Nat → Int32} {tl : Nat → Int64} {lt : Nat → Int32} (hp : PM S og tk w tks to tl lt) (set : Int32) : Sp mX1_takersOf yX1_takersOf [.ref 12, .int set] S (fun r S1 => S1 = S ∧ r = some (.int (tkF tks set 10))) := by
  refine gl_enter (j := 2) (by decide +kernel) rfl (fun h => absurd h (by decide)) (Nat.le_of_ble_eq_true rfl) rfl (fun x => ?_)
  refine gg_iconst (v := 0) dX1_takersOf_0 (by decide) ?_
  refine gg_istore_n dX1_takersOf_1 rfl (Nat.le_of_ble_eq_true rfl) rfl ?_
  refine gg_iconst (v := 0) dX1_takersOf_2 (by decide) ?_
  refine gg_istore_n dX1_takersOf_3 rfl (Nat.le_of_ble_eq_true rfl) rfl ?_
  exact to_loop hp set x 10 0 rfl
set_option maxRecDepth 20000 in
theorem kq_J265 : Cond.constant RJ6 265 1431655765 ∈ gl_T := (gl_T_in (by decide +kernel) (by decide +kernel))
set_option maxRecDepth 20000 in
theorem kq_J266 : Cond.constant RJ6 266 858993459 ∈ gl_T := (gl_T_in (by decide +kernel) (by decide +kernel))
set_option maxRecDepth 20000 in
theorem kq_J267 : Cond.constant RJ6 267 252645135 ∈ gl_T := (gl_T_in (by decide +kernel) (by decide +kernel))
def bc1 (a : Int32) : Int32 := a - ((a.toUInt32 >>> (((1 : Int32)).toUInt32 &&& Int32.toUInt32 31)).toInt32 &&& 1431655765)
def bc2 (a : Int32) : Int32 := ((bc1 a) &&& 858993459) + (((bc1 a).toUInt32 >>> (((2 : Int32)).toUInt32 &&& Int32.toUInt32 31)).toInt32 &&& 858993459)
def bc3 (a : Int32) : Int32 := ((bc2 a) + ((bc2 a).toUInt32 >>> (((4 : Int32)).toUInt32 &&& Int32.toUInt32 31)).toInt32) &&& 252645135
def bc4 (a : Int32) : Int32 := (bc3 a) + ((bc3 a).toUInt32 >>> (((8 : Int32)).toUInt32 &&& Int32.toUInt32 31)).toInt32
def bc5 (a : Int32) : Int32 := (bc4 a) + ((bc4 a).toUInt32 >>> (((16 : Int32)).toUInt32 &&& Int32.toUInt32 31)).toInt32
def bcv (a : Int32) : Int32 := (bc5 a) &&& 63
theorem sp_J6_bitCount_0f7a4 (S : gl_H) (a : Int32) : Sp mJ6_bitCount_0f7a4 yJ6_bitCount_0f7a4 [.int a] S (fun r S1 => S1 = S ∧ r = some (.int (bcv a))) := by
  refine gl_enter (j := 0) (by decide +kernel) rfl (fun h => absurd h (by decide)) (Nat.le_of_ble_eq_true rfl) rfl (fun x => ?_)
  refine gg_iload_n dJ6_bitCount_0f7a4_0 rfl rfl ?_
  refine gg_iload_n dJ6_bitCount_0f7a4_1 rfl rfl ?_
  refine gg_iconst (v := 1) dJ6_bitCount_0f7a4_2 (by decide) ?_
  refine gg_iushr dJ6_bitCount_0f7a4_3 ?_
  refine gg_ldc_w (v := 1431655765) dJ6_bitCount_0f7a4_4 kq_J265 ?_
  refine gg_iand dJ6_bitCount_0f7a4_7 ?_
  refine gg_isub dJ6_bitCount_0f7a4_8 ?_
  refine gg_istore_n (ls2 := [some (.int (bc1 a))]) dJ6_bitCount_0f7a4_9 rfl (Nat.le_of_ble_eq_true rfl) rfl ?_
  refine gg_iload_n dJ6_bitCount_0f7a4_10 rfl rfl ?_
  refine gg_ldc_w (v := 858993459) dJ6_bitCount_0f7a4_11 kq_J266 ?_
  refine gg_iand dJ6_bitCount_0f7a4_14 ?_
  refine gg_iload_n dJ6_bitCount_0f7a4_15 rfl rfl ?_
  refine gg_iconst (v := 2) dJ6_bitCount_0f7a4_16 (by decide) ?_
  refine gg_iushr dJ6_bitCount_0f7a4_17 ?_
  refine gg_ldc_w (v := 858993459) dJ6_bitCount_0f7a4_18 kq_J266 ?_
  refine gg_iand dJ6_bitCount_0f7a4_21 ?_
  refine gg_iadd dJ6_bitCount_0f7a4_22 ?_
  refine gg_istore_n (ls2 := [some (.int (bc2 a))]) dJ6_bitCount_0f7a4_23 rfl (Nat.le_of_ble_eq_true rfl) rfl ?_
  refine gg_iload_n dJ6_bitCount_0f7a4_24 rfl rfl ?_
  refine gg_iload_n dJ6_bitCount_0f7a4_25 rfl rfl ?_
  refine gg_iconst (v := 4) dJ6_bitCount_0f7a4_26 (by decide) ?_
  refine gg_iushr dJ6_bitCount_0f7a4_27 ?_
  refine gg_iadd dJ6_bitCount_0f7a4_28 ?_
  refine gg_ldc_w (v := 252645135) dJ6_bitCount_0f7a4_29 kq_J267 ?_
  refine gg_iand dJ6_bitCount_0f7a4_32 ?_
  refine gg_istore_n (ls2 := [some (.int (bc3 a))]) dJ6_bitCount_0f7a4_33 rfl (Nat.le_of_ble_eq_true rfl) rfl ?_
  refine gg_iload_n dJ6_bitCount_0f7a4_34 rfl rfl ?_
  refine gg_iload_n dJ6_bitCount_0f7a4_35 rfl rfl ?_
  refine gg_bipush (v := 8) dJ6_bitCount_0f7a4_36 (by decide) ?_
  refine gg_iushr dJ6_bitCount_0f7a4_38 ?_
  refine gg_iadd dJ6_bitCount_0f7a4_39 ?_
  refine gg_istore_n (ls2 := [some (.int (bc4 a))]) dJ6_bitCount_0f7a4_40 rfl (Nat.le_of_ble_eq_true rfl) rfl ?_
  refine gg_iload_n dJ6_bitCount_0f7a4_41 rfl rfl ?_
  refine gg_iload_n dJ6_bitCount_0f7a4_42 rfl rfl ?_
  refine gg_bipush (v := 16) dJ6_bitCount_0f7a4_43 (by decide) ?_
  refine gg_iushr dJ6_bitCount_0f7a4_45 ?_
  refine gg_iadd dJ6_bitCount_0f7a4_46 ?_
  refine gg_istore_n (ls2 := [some (.int (bc5 a))]) dJ6_bitCount_0f7a4_47 rfl (Nat.le_of_ble_eq_true rfl) rfl ?_
  refine gg_iload_n dJ6_bitCount_0f7a4_48 rfl rfl ?_
  refine gg_bipush (v := 63) dJ6_bitCount_0f7a4_49 (by decide) ?_
  refine gg_iand dJ6_bitCount_0f7a4_51 ?_
  exact gg_ireturn dJ6_bitCount_0f7a4_52 rfl rfl ⟨(Nat.le_of_ble_eq_true rfl), (Nat.le_of_ble_eq_true rfl)⟩ (⟨rfl, rfl⟩)
abbrev fu_T : Type := Nat × Int32
def fuS (tks : Nat → Int32) (og : Int32) (s : Nat) (q : fu_T) : fu_T := if nI s &&& og = nI s ∧ bcv (nI s) < q.2 ∧ bcv (tkF tks (nI s) 10) < bcv (nI s) then (s, bcv (nI s)) else q
/-- the sets 1 .. n -/
def fuF (tks : Nat → Int32) (og : Int32) : Nat → fu_T
  | 0 => (0, 11)
  | n + 1 => fuS tks og (n + 1) (fuF tks og n)
theorem fu_loop {S : gl_H} {o9 : Nat} {tk : Int32} {w : Nat → Nat → Int64} {tks to : Nat → Int32} {tl : Nat → Int64} {lt : Nat → Int32} (hp : PM S (nI o9) tk w tks to tl lt) (ho : o9 < 1024) (x : gl_X) : ∀ (m s : Nat), s + m = o9 → GG mX1_fewestUnfillable x (gl_Z mX1_fewestUnfillable x (fun r S1 => S1 = S ∧ r = some (.int (nI (fuF tks (nI o9) o9).1)))) 7 [some (.ref 12), some (.int (nI (fuF tks (nI o9) s).1)), some (.int (fuF tks (nI o9) s).2), some (.int (nI (s + 1))), none] [] S (0, 0) := by
  intro m
  induction m with
  | zero =>
    intro s hm
    have e : s = o9 := by omega
    subst e
    refine gg_iload_n dX1_fewestUnfillable_7 rfl rfl ?_
    refine gg_aload_n dX1_fewestUnfillable_8 rfl rfl ?_
    refine gf_X1_41 rfl dX1_fewestUnfillable_9 hp.1 rfl ?_
    refine gg_icmp_gt (tgt := 64) dX1_fewestUnfillable_12 (by decide) (fun c12 => ?_) (fun c12 => ?_)
    · refine gg_iload_n dX1_fewestUnfillable_64 rfl rfl ?_
      exact gg_ireturn dX1_fewestUnfillable_65 rfl rfl ⟨(Nat.le_of_ble_eq_true rfl), (Nat.le_of_ble_eq_true rfl)⟩ (⟨rfl, rfl⟩)
    · exact absurd (nI_lt (Nat.lt_succ_self s) (by omega)) c12
  | succ m ih =>
    intro s hm
    generalize hs : fuF tks (nI o9) s = q
    refine gg_iload_n dX1_fewestUnfillable_7 rfl rfl ?_
    refine gg_aload_n dX1_fewestUnfillable_8 rfl rfl ?_
    refine gf_X1_41 rfl dX1_fewestUnfillable_9 hp.1 rfl ?_
    refine gg_icmp_gt (tgt := 64) dX1_fewestUnfillable_12 (by decide) (fun c12 => ?_) (fun c12 => ?_)
    · exact absurd (n_lt c12) (by omega)
    · refine gg_iload_n dX1_fewestUnfillable_15 rfl rfl ?_
      refine gg_aload_n dX1_fewestUnfillable_16 rfl rfl ?_
      refine gf_X1_41 rfl dX1_fewestUnfillable_17 hp.1 rfl ?_
      refine gg_iand dX1_fewestUnfillable_20 ?_
      refine gg_iload_n dX1_fewestUnfillable_21 rfl rfl ?_
      refine gg_icmp_eq (tgt := 28) dX1_fewestUnfillable_22 (by decide) (fun c22 => ?_) (fun c22 => ?_)
      · refine gg_iload_n dX1_fewestUnfillable_28 rfl rfl ?_
        refine gg_callS (sp_J6_bitCount_0f7a4 S (nI (s + 1))) dX1_fewestUnfillable_29 kw_X1_69 rfl rfl (Nat.le_of_ble_eq_true rfl) (Nat.le_of_ble_eq_true rfl) (Nat.le_of_ble_eq_true rfl) ⟨(Nat.le_of_ble_eq_true rfl), (Nat.le_of_ble_eq_true rfl)⟩ (fun r S1 hq => ?_)
        refine gg_k (k2 := (0, 0)) rfl ?_
        obtain ⟨e9, rfl⟩ := hq
        rw [e9]
        clear e9 S1
        refine gg_istore dX1_fewestUnfillable_32 (Nat.le_of_ble_eq_true rfl) rfl ?_
        refine gg_iload dX1_fewestUnfillable_34 rfl ?_
        refine gg_iload_n dX1_fewestUnfillable_36 rfl rfl ?_
        refine gg_icmp_ge (tgt := 58) dX1_fewestUnfillable_37 (by decide) (fun c37 => ?_) (fun c37 => ?_)
        · have e : fuS tks (nI o9) (s + 1) q = q := if_neg (fun z => Int32.not_lt.mpr c37 z.2.1)
          refine gg_iinc (w := nI (s + 1 + 1)) dX1_fewestUnfillable_58 rfl (nI_1 (s + 1)) (Nat.le_of_ble_eq_true rfl) rfl ?_
          refine gg_goto (tgt := 7) dX1_fewestUnfillable_61 (by decide) ?_
          have e3 : fuF tks (nI o9) (s + 1) = _ := (congrArg (fuS tks (nI o9) (s + 1)) hs).trans e
          refine gg_fg [true, true, true, true, false] ?_
          have h9 := ih (s + 1) (by omega)
          rw [e3] at h9
          exact h9
        · have c37 := Int32.not_le.mp c37
          refine gg_aload_n dX1_fewestUnfillable_40 rfl rfl ?_
          refine gg_iload_n dX1_fewestUnfillable_41 rfl rfl ?_
          refine gg_callV (sp_X1_takersOf hp (nI (s + 1))) dX1_fewestUnfillable_42 kw_X1_75 rfl hp.1 rfl rfl (Nat.le_of_ble_eq_true rfl) (Nat.le_of_ble_eq_true rfl) (Nat.le_of_ble_eq_true rfl) ⟨(Nat.le_of_ble_eq_true rfl), (Nat.le_of_ble_eq_true rfl)⟩ (fun r S1 hq => ?_)
          refine gg_k (k2 := (0, 0)) rfl ?_
          obtain ⟨e9, rfl⟩ := hq
          rw [e9]
          clear e9 S1
          refine gg_callS (sp_J6_bitCount_0f7a4 S (tkF tks (nI (s + 1)) 10)) dX1_fewestUnfillable_45 kw_X1_69 rfl rfl (Nat.le_of_ble_eq_true rfl) (Nat.le_of_ble_eq_true rfl) (Nat.le_of_ble_eq_true rfl) ⟨(Nat.le_of_ble_eq_true rfl), (Nat.le_of_ble_eq_true rfl)⟩ (fun r S1 hq => ?_)
          refine gg_k (k2 := (0, 0)) rfl ?_
          obtain ⟨e9, rfl⟩ := hq
          rw [e9]
          clear e9 S1
          refine gg_iload dX1_fewestUnfillable_48 rfl ?_
          refine gg_icmp_ge (tgt := 58) dX1_fewestUnfillable_50 (by decide) (fun c50 => ?_) (fun c50 => ?_)
          · have e : fuS tks (nI o9) (s + 1) q = q := if_neg (fun z => Int32.not_lt.mpr c50 z.2.2)
            refine gg_iinc (w := nI (s + 1 + 1)) dX1_fewestUnfillable_58 rfl (nI_1 (s + 1)) (Nat.le_of_ble_eq_true rfl) rfl ?_
            refine gg_goto (tgt := 7) dX1_fewestUnfillable_61 (by decide) ?_
            have e3 : fuF tks (nI o9) (s + 1) = _ := (congrArg (fuS tks (nI o9) (s + 1)) hs).trans e
            refine gg_fg [true, true, true, true, false] ?_
            have h9 := ih (s + 1) (by omega)
            rw [e3] at h9
            exact h9
          · have e : fuS tks (nI o9) (s + 1) q = (s + 1, bcv (nI (s + 1))) := if_pos ⟨c22, c37, Int32.not_le.mp c50⟩
            refine gg_iload_n dX1_fewestUnfillable_53 rfl rfl ?_
            refine gg_istore_n dX1_fewestUnfillable_54 rfl (Nat.le_of_ble_eq_true rfl) rfl ?_
            refine gg_iload dX1_fewestUnfillable_55 rfl ?_
            refine gg_istore_n dX1_fewestUnfillable_57 rfl (Nat.le_of_ble_eq_true rfl) rfl ?_
            refine gg_iinc (w := nI (s + 1 + 1)) dX1_fewestUnfillable_58 rfl (nI_1 (s + 1)) (Nat.le_of_ble_eq_true rfl) rfl ?_
            refine gg_goto (tgt := 7) dX1_fewestUnfillable_61 (by decide) ?_
            have e3 : fuF tks (nI o9) (s + 1) = _ := (congrArg (fuS tks (nI o9) (s + 1)) hs).trans e
            refine gg_fg [true, true, true, true, false] ?_
            have h9 := ih (s + 1) (by omega)
            rw [e3] at h9
            exact h9
      · have e : fuS tks (nI o9) (s + 1) q = q := if_neg (fun z => c22 z.1)
        refine gg_goto (tgt := 58) dX1_fewestUnfillable_25 (by decide) ?_
        refine gg_iinc (w := nI (s + 1 + 1)) dX1_fewestUnfillable_58 rfl (nI_1 (s + 1)) (Nat.le_of_ble_eq_true rfl) rfl ?_
        refine gg_goto (tgt := 7) dX1_fewestUnfillable_61 (by decide) ?_
        have e3 : fuF tks (nI o9) (s + 1) = _ := (congrArg (fuS tks (nI o9) (s + 1)) hs).trans e
        refine gg_fg [true, true, true, true, false] ?_
        have h9 := ih (s + 1) (by omega)
        rw [e3] at h9
        exact h9
theorem sp_X1_fewestUnfillable {S : gl_H} {o9 : Nat} {tk : Int32} {w : Nat → Nat → Int64} {tks to : Nat → Int32} {tl : Nat → Int64} {lt : Nat → Int32} (hp : PM S (nI o9) tk w tks to tl lt) (ho : o9 < 1024) : Sp mX1_fewestUnfillable yX1_fewestUnfillable [.ref 12] S (fun r S1 => S1 = S ∧ r = some (.int (nI (fuF tks (nI o9) o9).1))) := by
  refine gl_enter (j := 4) (by decide +kernel) rfl (fun h => absurd h (by decide)) (Nat.le_of_ble_eq_true rfl) rfl (fun x => ?_)
  refine gg_iconst (v := 0) dX1_fewestUnfillable_0 (by decide) ?_
  refine gg_istore_n dX1_fewestUnfillable_1 rfl (Nat.le_of_ble_eq_true rfl) rfl ?_
  refine gg_bipush (v := 11) dX1_fewestUnfillable_2 (by decide) ?_
  refine gg_istore_n dX1_fewestUnfillable_4 rfl (Nat.le_of_ble_eq_true rfl) rfl ?_
  refine gg_iconst (v := 1) dX1_fewestUnfillable_5 (by decide) ?_
  refine gg_istore_n dX1_fewestUnfillable_6 rfl (Nat.le_of_ble_eq_true rfl) rfl ?_
  exact fu_loop hp ho x o9 0 (by omega)
