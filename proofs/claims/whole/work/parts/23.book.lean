/-! THE TAPE (3, 4) AND THE RULE BOOK (5, 6, 7) -/
def PT (S : gl_H) (b : Nat → Int32) (n : Nat) : Prop := S 3 = some (.inr (3, [.ref 4, .int (nI n)])) ∧ S 4 = some (.inl (2, 60, .inl b))
def PB (S : gl_H) (num dr : Nat → Int32) (pl : Nat) : Prop := S 5 = some (.inr (2, [.ref 6, .ref 7, .int (nI pl)])) ∧ S 6 = some (.inl (0, 7, .inl num)) ∧ S 7 = some (.inl (0, 7, .inl dr))
/-- a weaker end -/
theorem gl_Z_mono {M : gl_M} {x : gl_X} {Q Q2 : Option Value → gl_H → Prop} (h : ∀ r S1, Q r S1 → Q2 r S1) (t : State) (ht : gl_Z M x Q t) : gl_Z M x Q2 t := by
  obtain ⟨p, l, e, R, s, m, args, below, meth, c, D, Kc, A, ad0, S0⟩ := x
  obtain ⟨o, h1, h2, ⟨⟨r, S1, ad1, e1, e2, e3⟩, h4⟩, h5⟩ := ht
  exact ⟨o, h1, h2, ⟨⟨r, S1, ad1, e1, h _ _ e2, e3⟩, h4⟩, h5⟩
theorem gg_Q {M : gl_M} {x : gl_X} {Q Q2 : Option Value → gl_H → Prop} {pc : Nat} {ls : List (Option Value)} {st : List Value} {S : gl_H} {k : Nat × Nat} (h : ∀ r S1, Q r S1 → Q2 r S1) (K : GG M x (gl_Z M x Q) pc ls st S k) : GG M x (gl_Z M x Q2) pc ls st S k := by
  obtain ⟨p, l, e, R, s, m, args, below, meth, c, D, Kc, A, ad0, S0⟩ := x
  intro ok ad H locs LS hR hS hAg hst hls hLS T hT X
  obtain ⟨t, a1, b1⟩ := K ok ad H locs LS hR hS hAg hst hls hLS T hT X
  exact ⟨t, a1, gl_Z_mono (x := (p, l, e, R, s, m, args, below, meth, c, D, Kc, A, ad0, S0)) h t b1⟩
section PBS
variable {M : gl_M} {x : gl_X} {Z : State → Prop} {pc : Nat} {ls : List (Option Value)} {st : List Value} {S S0 : gl_H} {k : Nat × Nat} {b num dr : Nat → Int32} {n pl : Nat}
theorem PTs_b {v : Nat → Int32} (h : PT S b n) (hf : Fr 3 5 S0 S) (K : ∀ S1, PT S1 v n → Fr 3 5 S0 S1 → GG M x Z pc ls st S1 k) : GG M x Z pc ls st (gl_pu S 4 (.inl (2, 60, .inl v))) k := K _ ⟨(gl_pu_n S _ (by decide)).trans h.1, gl_pu_s S _ _⟩ (hf.pu (by decide) (by decide))
theorem PTs_n {v : Int32} (m : Nat) (hv : v = nI m) (h : PT S b n) (hf : Fr 3 5 S0 S) (K : ∀ S1, PT S1 b m → Fr 3 5 S0 S1 → GG M x Z pc ls st S1 k) : GG M x Z pc ls st (gl_pu S 3 (.inr (3, [.ref 4, .int v]))) k := by
  subst hv
  exact K _ ⟨gl_pu_s S _ _, (gl_pu_n S _ (by decide)).trans h.2⟩ (hf.pu (by decide) (by decide))
theorem PBs_pl {v : Int32} (m : Nat) (hv : v = nI m) (h : PB S num dr pl) (hf : Fr 5 8 S0 S) (K : ∀ S1, PB S1 num dr m → Fr 5 8 S0 S1 → GG M x Z pc ls st S1 k) : GG M x Z pc ls st (gl_pu S 5 (.inr (2, [.ref 6, .ref 7, .int v]))) k := by
  subst hv
  exact K _ ⟨gl_pu_s S _ _, (gl_pu_n S _ (by decide)).trans h.2.1, (gl_pu_n S _ (by decide)).trans h.2.2⟩ (hf.pu (by decide) (by decide))
theorem PBs_num {v : Nat → Int32} (h : PB S num dr pl) (hf : Fr 5 8 S0 S) (K : ∀ S1, PB S1 v dr pl → Fr 5 8 S0 S1 → GG M x Z pc ls st S1 k) : GG M x Z pc ls st (gl_pu S 6 (.inl (0, 7, .inl v))) k := K _ ⟨(gl_pu_n S _ (by decide)).trans h.1, gl_pu_s S _ _, (gl_pu_n S _ (by decide)).trans h.2.2⟩ (hf.pu (by decide) (by decide))
theorem PBs_dr {v : Nat → Int32} (h : PB S num dr pl) (hf : Fr 5 8 S0 S) (K : ∀ S1, PB S1 num v pl → Fr 5 8 S0 S1 → GG M x Z pc ls st S1 k) : GG M x Z pc ls st (gl_pu S 7 (.inl (0, 7, .inl v))) k := K _ ⟨(gl_pu_n S _ (by decide)).trans h.1, (gl_pu_n S _ (by decide)).trans h.2.1, gl_pu_s S _ _⟩ (hf.pu (by decide) (by decide))
end PBS
theorem sp_X3_hasRoom {S : gl_H} {b : Nat → Int32} {n : Nat} (hT : PT S b n) (hn : n ≤ 60) : Sp mX3_hasRoom yX3_hasRoom [.ref 3] S (fun r S1 => S1 = S ∧ r = some (.int (bI (decide (n ≤ 40))))) := by
  refine gl_enter (j := 0) (by decide +kernel) rfl (fun h => absurd h (by decide)) (Nat.le_of_ble_eq_true rfl) rfl (fun x => ?_)
  refine gg_aload_n dX3_hasRoom_0 rfl rfl ?_
  refine gf_X3_15 rfl dX3_hasRoom_1 hT.1 rfl ?_
  refine gg_bipush (v := 20) dX3_hasRoom_4 (by decide) ?_
  refine gg_iadd dX3_hasRoom_6 ?_
  refine gg_bipush (v := 60) dX3_hasRoom_7 (by decide) ?_
  refine gg_icmp_gt (tgt := 16) dX3_hasRoom_9 (by decide) (fun c9 => ?_) (fun c9 => ?_)
  · have c9 : nI 60 < nI (n + 20) := by rw [← nI_add]; exact c9
    have e : decide (n ≤ 40) = false := by have := n_lt c9; simp; omega
    refine gg_iconst (v := 0) dX3_hasRoom_16 (by decide) ?_
    exact gg_ireturn dX3_hasRoom_17 rfl rfl ⟨(Nat.le_of_ble_eq_true rfl), (Nat.le_of_ble_eq_true rfl)⟩ (⟨rfl, by rw [e]; rfl⟩)
  · have c9 : ¬ nI 60 < nI (n + 20) := by rw [← nI_add]; exact c9
    have e : decide (n ≤ 40) = true := by have := n_nlt c9; simp; omega
    refine gg_iconst (v := 1) dX3_hasRoom_12 (by decide) ?_
    refine gg_goto (tgt := 17) dX3_hasRoom_13 (by decide) ?_
    exact gg_ireturn dX3_hasRoom_17 rfl rfl ⟨(Nat.le_of_ble_eq_true rfl), (Nat.le_of_ble_eq_true rfl)⟩ (⟨rfl, by rw [e]; rfl⟩)
def ap1 (b : Nat → Int32) (n : Nat) (v s : Int32) : Nat → Int32 := upd b n (v >>> (s &&& 31)).toInt8.toInt32
def ap4 (b : Nat → Int32) (n : Nat) (v : Int32) : Nat → Int32 := ap1 (ap1 (ap1 (ap1 b n v 24) (n + 1) v 16) (n + 1 + 1) v 8) (n + 1 + 1 + 1) v 0
theorem ap_step {S0 S : gl_H} {b : Nat → Int32} {n : Nat} {v s : Int32} {Z : State → Prop} (hT : PT S b n) (hf : Fr 3 5 S0 S) (hn : n < 60) (hs : ¬ s < 0) (x : gl_X) (K : ∀ S1, PT S1 (ap1 b n v s) (n + 1) → Fr 3 5 S0 S1 → GG mX3_append x Z 3 [some (.ref 3), some (.int v), some (.int (s + Int32.ofInt (-8)))] [] S1 (0, 0)) : GG mX3_append x Z 3 [some (.ref 3), some (.int v), some (.int s)] [] S (0, 0) := by
  refine gg_iload_n dX3_append_3 rfl rfl ?_
  refine gg_if_lt (tgt := 45) dX3_append_4 (by decide) (fun c4 => ?_) (fun c4 => ?_)
  · exact absurd c4 hs
  · refine gg_aload_n dX3_append_7 rfl rfl ?_
    refine gf_X3_15 rfl dX3_append_8 hT.1 rfl ?_
    refine gg_bipush (v := 60) dX3_append_11 (by decide) ?_
    refine gg_icmp_ge (tgt := 45) dX3_append_13 (by decide) (fun c13 => ?_) (fun c13 => ?_)
    · exact absurd (n_le (a := 60) c13) (by omega)
    · refine gg_aload_n dX3_append_16 rfl rfl ?_
      refine gf_X3_11 rfl dX3_append_17 hT.1 rfl ?_
      refine gg_aload_n dX3_append_20 rfl rfl ?_
      refine gf_X3_15 rfl dX3_append_21 hT.1 rfl ?_
      refine gg_iload_n dX3_append_24 rfl rfl ?_
      refine gg_iload_n dX3_append_25 rfl rfl ?_
      refine gg_ishr dX3_append_26 ?_
      refine gg_i2b dX3_append_27 ?_
      refine gg_ast_b (n) dX3_append_28 hT.2 rfl hn (by decide) ?_
      rw [pk_vb]
      refine PTs_b hT hf (fun S hT hf => ?_)
      refine gg_aload_n dX3_append_29 rfl rfl ?_
      refine gg_dup dX3_append_30 rfl ?_
      refine gf_X3_15 rfl dX3_append_31 hT.1 rfl ?_
      refine gg_iconst (v := 1) dX3_append_34 (by decide) ?_
      refine gg_iadd dX3_append_35 ?_
      refine pf_X3_15 rfl dX3_append_36 hT.1 (Nat.le_of_ble_eq_true rfl) ?_
      refine PTs_n (n + 1) (nI_1 n) hT hf (fun S hT hf => ?_)
      refine gg_iinc (w := _) dX3_append_39 rfl rfl (Nat.le_of_ble_eq_true rfl) rfl ?_
      refine gg_goto (tgt := 3) dX3_append_42 (by decide) ?_
      exact K S hT hf
theorem sp_X3_append {S : gl_H} {b : Nat → Int32} {n : Nat} (hT : PT S b n) (hn : n + 4 ≤ 60) (v : Int32) : Sp mX3_append yX3_append [.ref 3, .int v] S (fun r S1 => r = none ∧ PT S1 (ap4 b n v) (n + 4) ∧ Fr 3 5 S S1) := by
  refine gl_enter (j := 1) (by decide +kernel) rfl (fun h => absurd h (by decide)) (Nat.le_of_ble_eq_true rfl) rfl (fun x => ?_)
  refine gg_bipush (v := 24) dX3_append_0 (by decide) ?_
  refine gg_istore_n dX3_append_2 rfl (Nat.le_of_ble_eq_true rfl) rfl ?_
  refine ap_step (v := v) (s := 24) hT Fr.rf (by omega) (by decide) x (fun S hT hf => ?_)
  refine ap_step (v := v) (s := 16) hT hf (by omega) (by decide) x (fun S hT hf => ?_)
  refine ap_step (v := v) (s := 8) hT hf (by omega) (by decide) x (fun S hT hf => ?_)
  refine ap_step (v := v) (s := 0) hT hf (by omega) (by decide) x (fun S hT hf => ?_)
  refine gg_iload_n dX3_append_3 rfl rfl ?_
  refine gg_if_lt (tgt := 45) dX3_append_4 (by decide) (fun c4 => ?_) (fun c4 => absurd (by decide) c4)
  exact gg_return dX3_append_45 rfl ⟨(Nat.le_of_ble_eq_true rfl), (Nat.le_of_ble_eq_true rfl)⟩ ⟨rfl, hT, hf⟩
def ccV (b : Nat → Int32) (n p : Nat) : Int32 := if p < n then b p &&& 255 else 0
def sgV (b : Nat → Int32) (n p : Nat) : Int32 := if p < n then b p &&& 255 else -1
def dgB (b : Nat → Int32) (n p : Nat) : Bool := decide (48 ≤ ccV b n p ∧ ccV b n p ≤ 57)
def kdO (x : Int32) : Option Nat := ffst (fun k => gl_LT k == x) 0 7
theorem sg_dig (b : Nat → Int32) (n p : Nat) : (if 48 ≤ sgV b n p ∧ sgV b n p ≤ 57 then (1 : Int32) else 0) = bI (dgB b n p) := by
  unfold dgB sgV ccV bI
  by_cases h : p < n
  · rw [if_pos h, if_pos h]
    by_cases c : 48 ≤ b p &&& 255 ∧ b p &&& 255 ≤ 57
    · rw [if_pos c, decide_eq_true c]; rfl
    · rw [if_neg c, decide_eq_false c]; rfl
  · rw [if_neg h, if_neg h]; decide
theorem sg_kd (b : Nat → Int32) (n p : Nat) : kdO (sgV b n p) = kdO (ccV b n p) := by
  unfold sgV ccV
  by_cases h : p < n
  · rw [if_pos h, if_pos h]
  · rw [if_neg h, if_neg h]; decide
theorem dg_lt {b : Nat → Int32} {n p : Nat} (h : dgB b n p = true) : p < n := by
  by_cases c : p < n
  · exact c
  · unfold dgB ccV at h
    rw [if_neg c] at h
    exact absurd h (by decide)
theorem sg_cc {b : Nat → Int32} {n p : Nat} (h : p < n) : sgV b n p = ccV b n p := by
  unfold sgV ccV
  rw [if_pos h, if_pos h]
theorem sp_X3_signAt {S : gl_H} {b : Nat → Int32} {t : Nat} (hT : PT S b t) {n p : Nat} (hn : n ≤ 60) (hp : p < 2 ^ 30) : Sp mX3_signAt yX3_signAt [.ref 3, .int (nI p), .int (nI n)] S (fun r S1 => S1 = S ∧ r = some (.int (sgV b n p))) := by
  refine gl_enter (j := 0) (by decide +kernel) rfl (fun h => absurd h (by decide)) (Nat.le_of_ble_eq_true rfl) rfl (fun x => ?_)
  refine gg_iload_n dX3_signAt_0 rfl rfl ?_
  refine gg_if_lt (tgt := 28) dX3_signAt_1 (by decide) (fun c1 => ?_) (fun c1 => ?_)
  · exact absurd c1 (nI_pos (by omega))
  · refine gg_iload_n dX3_signAt_4 rfl rfl ?_
    refine gg_iload_n dX3_signAt_5 rfl rfl ?_
    refine gg_icmp_ge (tgt := 28) dX3_signAt_6 (by decide) (fun c6 => ?_) (fun c6 => ?_)
    · have e : sgV b n p = -1 := if_neg (by have := n_le c6; omega)
      refine gg_iconst (v := -1) dX3_signAt_28 (by decide) ?_
      exact gg_ireturn dX3_signAt_29 rfl rfl ⟨(Nat.le_of_ble_eq_true rfl), (Nat.le_of_ble_eq_true rfl)⟩ (⟨rfl, by rw [e]⟩)
    · have c6 := n_nle c6
      have e : sgV b n p = b p &&& 255 := if_pos c6
      refine gg_iload_n dX3_signAt_9 rfl rfl ?_
      refine gg_bipush (v := 60) dX3_signAt_10 (by decide) ?_
      refine gg_icmp_ge (tgt := 28) dX3_signAt_12 (by decide) (fun c12 => ?_) (fun c12 => ?_)
      · exact absurd (n_le (a := 60) c12) (by omega)
      · refine gg_aload_n dX3_signAt_15 rfl rfl ?_
        refine gf_X3_11 rfl dX3_signAt_16 hT.1 rfl ?_
        refine gg_iload_n dX3_signAt_19 rfl rfl ?_
        refine gg_ald_b (p) dX3_signAt_20 hT.2 rfl (by omega) (by decide) ?_
        refine gg_sipush (v := 255) dX3_signAt_21 (by decide) ?_
        refine gg_iand dX3_signAt_24 ?_
        refine gg_goto (tgt := 29) dX3_signAt_25 (by decide) ?_
        exact gg_ireturn dX3_signAt_29 rfl rfl ⟨(Nat.le_of_ble_eq_true rfl), (Nat.le_of_ble_eq_true rfl)⟩ (⟨rfl, by rw [e]⟩)
theorem sp_X2_isDigit (S : gl_H) (a : Int32) : Sp mX2_isDigit yX2_isDigit [.int a] S (fun r S1 => S1 = S ∧ r = some (.int (if 48 ≤ a ∧ a ≤ 57 then 1 else 0))) := by
  refine gl_enter (j := 0) (by decide +kernel) rfl (fun h => absurd h (by decide)) (Nat.le_of_ble_eq_true rfl) rfl (fun x => ?_)
  refine gg_iload_n dX2_isDigit_0 rfl rfl ?_
  refine gg_bipush (v := 48) dX2_isDigit_1 (by decide) ?_
  refine gg_icmp_lt (tgt := 16) dX2_isDigit_3 (by decide) (fun c3 => ?_) (fun c3 => ?_)
  · refine gg_iconst (v := 0) dX2_isDigit_16 (by decide) ?_
    exact gg_ireturn dX2_isDigit_17 rfl rfl ⟨(Nat.le_of_ble_eq_true rfl), (Nat.le_of_ble_eq_true rfl)⟩ (⟨rfl, by first | rw [wi_t c3 c9] | rw [wi_f1 c3] | rw [wi_f2 c9]⟩)
  · refine gg_iload_n dX2_isDigit_6 rfl rfl ?_
    refine gg_bipush (v := 57) dX2_isDigit_7 (by decide) ?_
    refine gg_icmp_gt (tgt := 16) dX2_isDigit_9 (by decide) (fun c9 => ?_) (fun c9 => ?_)
    · refine gg_iconst (v := 0) dX2_isDigit_16 (by decide) ?_
      exact gg_ireturn dX2_isDigit_17 rfl rfl ⟨(Nat.le_of_ble_eq_true rfl), (Nat.le_of_ble_eq_true rfl)⟩ (⟨rfl, by first | rw [wi_t c3 c9] | rw [wi_f1 c3] | rw [wi_f2 c9]⟩)
    · refine gg_iconst (v := 1) dX2_isDigit_12 (by decide) ?_
      refine gg_goto (tgt := 17) dX2_isDigit_13 (by decide) ?_
      exact gg_ireturn dX2_isDigit_17 rfl rfl ⟨(Nat.le_of_ble_eq_true rfl), (Nat.le_of_ble_eq_true rfl)⟩ (⟨rfl, by first | rw [wi_t c3 c9] | rw [wi_f1 c3] | rw [wi_f2 c9]⟩)
set_option maxRecDepth 20000 in
theorem lks_18 : Cond.fieldLink RX2 18 RX2 "AT_FIRST" "[I" ∈ gl_T := (gl_T_in (by decide +kernel) (by decide +kernel))
set_option maxRecDepth 20000 in
theorem lks_52 : Cond.fieldLink RX2 52 RX2 "LEAST" "[I" ∈ gl_T := (gl_T_in (by decide +kernel) (by decide +kernel))
set_option maxRecDepth 20000 in
theorem lks_55 : Cond.fieldLink RX2 55 RX2 "MOST" "[I" ∈ gl_T := (gl_T_in (by decide +kernel) (by decide +kernel))
set_option maxRecDepth 20000 in
theorem lks_58 : Cond.fieldLink RX2 58 RX2 "LETTERS" "[C" ∈ gl_T := (gl_T_in (by decide +kernel) (by decide +kernel))
theorem kd_loop {S : gl_H} {a : Int32} (x : gl_X) {Q : Option Value → gl_H → Prop} : ∀ (m g : Nat), g + m = 7 → Q (some (.int (oI (ffst (fun k => gl_LT k == a) g m)))) S → GG mX2_kindOf x (gl_Z mX2_kindOf x Q) 2 [some (.int a), some (.int (nI g))] [] S (0, 0) := by
  intro m
  induction m with
  | zero =>
    intro g hm hQ
    have e : g = 7 := by omega
    subst e
    refine gg_iload_n dX2_kindOf_2 rfl rfl ?_
    refine gg_bipush (v := 7) dX2_kindOf_3 (by decide) ?_
    refine gg_icmp_ge (tgt := 25) dX2_kindOf_5 (by decide) (fun c5 => ?_) (fun c5 => ?_)
    · refine gg_iconst (v := -1) dX2_kindOf_25 (by decide) ?_
      exact gg_ireturn dX2_kindOf_26 rfl rfl ⟨(Nat.le_of_ble_eq_true rfl), (Nat.le_of_ble_eq_true rfl)⟩ (hQ)
    · exact absurd (nI_le (Nat.le_refl 7) (by omega)) c5
  | succ m ih =>
    intro g hm hQ
    have hg : g < 7 := by omega
    have e0 : ffst (fun k => gl_LT k == a) g (m + 1) = if (gl_LT g == a) then some g else ffst (fun k => gl_LT k == a) (g + 1) m := rfl
    rw [e0] at hQ
    refine gg_iload_n dX2_kindOf_2 rfl rfl ?_
    refine gg_bipush (v := 7) dX2_kindOf_3 (by decide) ?_
    refine gg_icmp_ge (tgt := 25) dX2_kindOf_5 (by decide) (fun c5 => ?_) (fun c5 => ?_)
    · exact absurd (n_le (a := 7) c5) (by omega)
    · refine gg_getst 1000003 dX2_kindOf_8 lks_58 (by decide) (fun _ _ _ _ h => h.2.2.2.1.1) ?_
      refine gg_iload_n dX2_kindOf_11 rfl rfl ?_
      refine gg_tald_c 1000003 (g) (by decide) (fun _ _ _ _ h => h.2.2.2.1.2) dX2_kindOf_12 rfl hg ?_
      refine gg_iload_n dX2_kindOf_13 rfl rfl ?_
      refine gg_icmp_ne (tgt := 19) dX2_kindOf_14 (by decide) (fun c14 => ?_) (fun c14 => ?_)
      · have e : ¬ (gl_LT g == a) = true := by simp [c14]
        refine gg_iinc (w := nI (g + 1)) dX2_kindOf_19 rfl (nI_1 g) (Nat.le_of_ble_eq_true rfl) rfl ?_
        refine gg_goto (tgt := 2) dX2_kindOf_22 (by decide) ?_
        exact ih (g + 1) (by omega) (by rw [if_neg e] at hQ; exact hQ)
      · have e : (gl_LT g == a) = true := by simp [c14]
        rw [if_pos e] at hQ
        refine gg_iload_n dX2_kindOf_17 rfl rfl ?_
        exact gg_ireturn dX2_kindOf_18 rfl rfl ⟨(Nat.le_of_ble_eq_true rfl), (Nat.le_of_ble_eq_true rfl)⟩ (hQ)
theorem sp_X2_kindOf (S : gl_H) (a : Int32) : Sp mX2_kindOf yX2_kindOf [.int a] S (fun r S1 => S1 = S ∧ r = some (.int (oI (kdO a)))) := by
  refine gl_enter (j := 1) (by decide +kernel) rfl (fun h => absurd h (by decide)) (Nat.le_of_ble_eq_true rfl) rfl (fun x => ?_)
  refine gg_iconst (v := 0) dX2_kindOf_0 (by decide) ?_
  refine gg_istore_n dX2_kindOf_1 rfl (Nat.le_of_ble_eq_true rfl) rfl ?_
  exact kd_loop x 7 0 rfl ⟨rfl, rfl⟩
theorem sp_X2_number {S : gl_H} {num dr : Nat → Int32} {pl : Nat} (hB : PB S num dr pl) {k : Nat} (hk : k < 7) : Sp mX2_number yX2_number [.ref 5, .int (nI k)] S (fun r S1 => S1 = S ∧ r = some (.int (num k))) := by
  refine gl_enter (j := 0) (by decide +kernel) rfl (fun h => absurd h (by decide)) (Nat.le_of_ble_eq_true rfl) rfl (fun x => ?_)
  refine gg_iload_n dX2_number_0 rfl rfl ?_
  refine gg_if_lt (tgt := 19) dX2_number_1 (by decide) (fun c1 => ?_) (fun c1 => ?_)
  · exact absurd c1 (nI_pos (by omega))
  · refine gg_iload_n dX2_number_4 rfl rfl ?_
    refine gg_bipush (v := 7) dX2_number_5 (by decide) ?_
    refine gg_icmp_ge (tgt := 19) dX2_number_7 (by decide) (fun c7 => ?_) (fun c7 => ?_)
    · exact absurd (n_le (a := 7) c7) (by omega)
    · refine gg_aload_n dX2_number_10 rfl rfl ?_
      refine gf_X2_11 rfl dX2_number_11 hB.1 rfl ?_
      refine gg_iload_n dX2_number_14 rfl rfl ?_
      refine gg_ald_i (k) dX2_number_15 hB.2.1 rfl hk (by decide) ?_
      refine gg_goto (tgt := 20) dX2_number_16 (by decide) ?_
      exact gg_ireturn dX2_number_20 rfl rfl ⟨(Nat.le_of_ble_eq_true rfl), (Nat.le_of_ble_eq_true rfl)⟩ (⟨rfl, rfl⟩)
def rdg (b : Nat → Int32) (n : Nat) : Nat → Int32 × Nat → Int32 × Nat
  | 0, s => s
  | m + 1, s => if dgB b n s.2 then rdg b n m (10 * s.1 + ccV b n s.2 - 48, s.2 + 1) else s
theorem PT.fr {S0 S : gl_H} {b : Nat → Int32} {t : Nat} (h : PT S0 b t) (hf : Fr 5 8 S0 S) : PT S b t := ⟨(hf 3 (by decide)).trans h.1, (hf 4 (by decide)).trans h.2⟩
theorem rg_loop {S0 : gl_H} {b num dr : Nat → Int32} {t n : Nat} (hT0 : PT S0 b t) (hn : n ≤ 60) (x : gl_X) {Q : Option Value → gl_H → Prop} : ∀ (m d : Nat), d + m = 4 → ∀ (v : Int32) (p : Nat) (S : gl_H), p + m < 1000 → PB S num dr p → Fr 5 8 S0 S → (∀ S1, PB S1 num dr (rdg b n m (v, p)).2 → Fr 5 8 S0 S1 → Q (some (.int (rdg b n m (v, p)).1)) S1) → GG mX2_readDigits x (gl_Z mX2_readDigits x Q) 5 [some (.ref 5), some (.ref 3), some (.int (nI n)), some (.int v), some (.int (nI d))] [] S (0, 0) := by
  intro m
  induction m with
  | zero =>
    intro d hm v p S hp hB hf hQ
    have e : d = 4 := by omega
    subst e
    refine gg_iload dX2_readDigits_5 rfl ?_
    refine gg_iconst (v := 4) dX2_readDigits_7 (by decide) ?_
    refine gg_icmp_ge (tgt := 60) dX2_readDigits_8 (by decide) (fun c8 => ?_) (fun c8 => ?_)
    · refine gg_iload_n dX2_readDigits_60 rfl rfl ?_
      exact gg_ireturn dX2_readDigits_61 rfl rfl ⟨(Nat.le_of_ble_eq_true rfl), (Nat.le_of_ble_eq_true rfl)⟩ (hQ S hB hf)
    · exact absurd (nI_le (Nat.le_refl 4) (by omega)) c8
  | succ m ih =>
    intro d hm v p S hp hB hf hQ
    have hT := hT0.fr hf
    have hT3 := hT.1
    have hT4 := hT.2
    have e0 : rdg b n (m + 1) (v, p) = if dgB b n p then rdg b n m (10 * v + ccV b n p - 48, p + 1) else (v, p) := rfl
    rw [e0] at hQ
    refine gg_iload dX2_readDigits_5 rfl ?_
    refine gg_iconst (v := 4) dX2_readDigits_7 (by decide) ?_
    refine gg_icmp_ge (tgt := 60) dX2_readDigits_8 (by decide) (fun c8 => ?_) (fun c8 => ?_)
    · exact absurd (n_le (a := 4) c8) (by omega)
    · refine gg_aload_n dX2_readDigits_11 rfl rfl ?_
      refine gg_aload_n dX2_readDigits_12 rfl rfl ?_
      refine gf_X2_27 rfl dX2_readDigits_13 hB.1 rfl ?_
      refine gg_iload_n dX2_readDigits_16 rfl rfl ?_
      refine gg_callV (sp_X3_signAt hT hn (show p < 2 ^ 30 by omega)) dX2_readDigits_17 kw_X2_35 rfl hT3 rfl rfl (Nat.le_of_ble_eq_true rfl) (Nat.le_of_ble_eq_true rfl) (Nat.le_of_ble_eq_true rfl) ⟨(Nat.le_of_ble_eq_true rfl), (Nat.le_of_ble_eq_true rfl)⟩ (fun r S1 hq => ?_)
      refine gg_k (k2 := (0, 0)) rfl ?_
      obtain ⟨e9, rfl⟩ := hq
      rw [e9]
      clear e9 S1
      refine gg_callS (sp_X2_isDigit S (sgV b n p)) dX2_readDigits_20 kw_X2_45 rfl rfl (Nat.le_of_ble_eq_true rfl) (Nat.le_of_ble_eq_true rfl) (Nat.le_of_ble_eq_true rfl) ⟨(Nat.le_of_ble_eq_true rfl), (Nat.le_of_ble_eq_true rfl)⟩ (fun r S1 hq => ?_)
      refine gg_k (k2 := (0, 0)) rfl ?_
      obtain ⟨e9, rfl⟩ := hq
      rw [e9, sg_dig]
      clear e9 S1
      refine gg_if_eq (tgt := 60) dX2_readDigits_23 (by decide) (fun c23 => ?_) (fun c23 => ?_)
      · have c23 := bI_z c23
        rw [if_neg (by rw [c23]; decide)] at hQ
        refine gg_iload_n dX2_readDigits_60 rfl rfl ?_
        exact gg_ireturn dX2_readDigits_61 rfl rfl ⟨(Nat.le_of_ble_eq_true rfl), (Nat.le_of_ble_eq_true rfl)⟩ (hQ S hB hf)
      · have c23 := bI_nz c23
        refine gg_bipush (v := 10) dX2_readDigits_26 (by decide) ?_
        refine gg_iload_n dX2_readDigits_28 rfl rfl ?_
        refine gg_imul dX2_readDigits_29 ?_
        refine gg_aload_n dX2_readDigits_30 rfl rfl ?_
        refine gg_aload_n dX2_readDigits_31 rfl rfl ?_
        refine gf_X2_27 rfl dX2_readDigits_32 hB.1 rfl ?_
        refine gg_iload_n dX2_readDigits_35 rfl rfl ?_
        refine gg_callV (sp_X3_signAt hT hn (show p < 2 ^ 30 by omega)) dX2_readDigits_36 kw_X2_35 rfl hT3 rfl rfl (Nat.le_of_ble_eq_true rfl) (Nat.le_of_ble_eq_true rfl) (Nat.le_of_ble_eq_true rfl) ⟨(Nat.le_of_ble_eq_true rfl), (Nat.le_of_ble_eq_true rfl)⟩ (fun r S1 hq => ?_)
        refine gg_k (k2 := (0, 0)) rfl ?_
        obtain ⟨e9, rfl⟩ := hq
        rw [e9, sg_cc (dg_lt c23)]
        clear e9 S1
        refine gg_iadd dX2_readDigits_39 ?_
        refine gg_bipush (v := 48) dX2_readDigits_40 (by decide) ?_
        refine gg_isub dX2_readDigits_42 ?_
        refine gg_istore_n dX2_readDigits_43 rfl (Nat.le_of_ble_eq_true rfl) rfl ?_
        refine gg_aload_n dX2_readDigits_44 rfl rfl ?_
        refine gg_dup dX2_readDigits_45 rfl ?_
        refine gf_X2_27 rfl dX2_readDigits_46 hB.1 rfl ?_
        refine gg_iconst (v := 1) dX2_readDigits_49 (by decide) ?_
        refine gg_iadd dX2_readDigits_50 ?_
        refine pf_X2_27 rfl dX2_readDigits_51 hB.1 (Nat.le_of_ble_eq_true rfl) ?_
        refine PBs_pl (p + 1) (nI_1 p) hB hf (fun S hB hf => ?_)
        refine gg_iinc (w := nI (d + 1)) dX2_readDigits_54 rfl (nI_1 d) (Nat.le_of_ble_eq_true rfl) rfl ?_
        refine gg_goto (tgt := 5) dX2_readDigits_57 (by decide) ?_
        refine ih (d + 1) (by omega) (10 * v + ccV b n p - 48) (p + 1) S (by omega) hB hf ?_
        rw [if_pos c23] at hQ
        exact hQ
theorem sp_X2_readDigits {S : gl_H} {b num dr : Nat → Int32} {t n p : Nat} (hT : PT S b t) (hB : PB S num dr p) (hn : n ≤ 60) (hp : p < 900) : Sp mX2_readDigits yX2_readDigits [.ref 5, .ref 3, .int (nI n)] S (fun r S1 => r = some (.int (rdg b n 4 (0, p)).1) ∧ PB S1 num dr (rdg b n 4 (0, p)).2 ∧ Fr 5 8 S S1) := by
  refine gl_enter (j := 2) (by decide +kernel) rfl (fun h => absurd h (by decide)) (Nat.le_of_ble_eq_true rfl) rfl (fun x => ?_)
  refine gg_iconst (v := 0) dX2_readDigits_0 (by decide) ?_
  refine gg_istore_n dX2_readDigits_1 rfl (Nat.le_of_ble_eq_true rfl) rfl ?_
  refine gg_iconst (v := 0) dX2_readDigits_2 (by decide) ?_
  refine gg_istore dX2_readDigits_3 (Nat.le_of_ble_eq_true rfl) rfl ?_
  exact rg_loop hT hn x 4 0 rfl 0 p S (by omega) hB Fr.rf (fun S1 h1 h2 => ⟨rfl, h1, h2⟩)
def clQ (b : Nat → Int32) (n p : Nat) (dr : Nat → Int32) (k : Nat) (r : Int32 × Nat) : Nat × Nat × (Nat → Int32) := if dgB b n (p + 1) = false then (2, p + 1, dr) else if dgB b n r.2 then (3, r.2, dr) else if r.1 < gl_LE k ∨ gl_MO k < r.1 then (4, p + 1, dr) else if r.2 < n ∧ ccV b n r.2 ≠ 59 then (5, r.2, upd dr k r.1) else (0, r.2, upd dr k r.1)
def clR (b : Nat → Int32) (n p : Nat) (dr : Nat → Int32) : Nat × Nat × (Nat → Int32) :=
  match kdO (ccV b n p) with
  | none => (1, p, dr)
  | some k => clQ b n p dr k (rdg b n 4 (0, p + 1))
theorem rdg_le (b : Nat → Int32) (n : Nat) : ∀ (m : Nat) (s : Int32 × Nat), s.2 ≤ (rdg b n m s).2 ∧ (rdg b n m s).2 ≤ s.2 + m ∧ (s.2 ≤ n → (rdg b n m s).2 ≤ n)
  | 0, s => ⟨Nat.le_refl _, Nat.le_refl _, id⟩
  | m + 1, s => by
    show s.2 ≤ (if dgB b n s.2 then rdg b n m (10 * s.1 + ccV b n s.2 - 48, s.2 + 1) else s).2 ∧ (if dgB b n s.2 then rdg b n m (10 * s.1 + ccV b n s.2 - 48, s.2 + 1) else s).2 ≤ s.2 + (m + 1) ∧ (s.2 ≤ n → (if dgB b n s.2 then rdg b n m (10 * s.1 + ccV b n s.2 - 48, s.2 + 1) else s).2 ≤ n)
    by_cases h : dgB b n s.2 = true
    · rw [if_pos h]
      have ih := rdg_le b n m (10 * s.1 + ccV b n s.2 - 48, s.2 + 1)
      have hl := dg_lt h
      have i1 : s.2 + 1 ≤ (rdg b n m (10 * s.1 + ccV b n s.2 - 48, s.2 + 1)).2 := ih.1
      have i2 : (rdg b n m (10 * s.1 + ccV b n s.2 - 48, s.2 + 1)).2 ≤ s.2 + 1 + m := ih.2.1
      exact ⟨by omega, by omega, fun _ => ih.2.2 (show s.2 + 1 ≤ n by omega)⟩
    · rw [if_neg h]
      exact ⟨Nat.le_refl _, by omega, id⟩
theorem ffst_lt {p : Nat → Bool} : ∀ {m g k : Nat}, ffst p g m = some k → g ≤ k ∧ k < g + m ∧ p k = true
  | 0, g, k, h => by cases h
  | m + 1, g, k, h => by
    have h' : (if p g then some g else ffst p (g + 1) m) = some k := h
    by_cases c : p g = true
    · rw [if_pos c] at h'
      cases h'
      exact ⟨Nat.le_refl _, by omega, c⟩
    · rw [if_neg c] at h'
      obtain ⟨h1, h2, h3⟩ := ffst_lt h'
      exact ⟨by omega, by omega, h3⟩
theorem nI_m1 {k : Nat} (h : k < 2 ^ 31) : ¬ nI k = -1 := fun e => nI_pos h (by rw [e]; decide)
theorem sp_X2_readClause {S : gl_H} {b num dr : Nat → Int32} {t n p : Nat} (hT : PT S b t) (hB : PB S num dr p) (hn : n ≤ 60) (hp : p ≤ 800) : Sp mX2_readClause yX2_readClause [.ref 5, .ref 3, .int (nI n)] S (fun r S1 => r = some (.int (nI (clR b n p dr).1)) ∧ PB S1 num (clR b n p dr).2.2 (clR b n p dr).2.1 ∧ Fr 5 8 S S1) := by
  refine gl_enter (j := 3) (by decide +kernel) rfl (fun h => absurd h (by decide)) (Nat.le_of_ble_eq_true rfl) rfl (fun x => ?_)
  have hf : Fr 5 8 S S := Fr.rf
  have hT0 := hT
  have hT3 := hT.1
  have hT4 := hT.2
  cases hk : kdO (ccV b n p) with
  | none =>
    have ec : clR b n p dr = (1, p, dr) := by unfold clR; rw [hk]
    rw [ec]
    refine gg_aload_n dX2_readClause_0 rfl rfl ?_
    refine gg_aload_n dX2_readClause_1 rfl rfl ?_
    refine gf_X2_27 rfl dX2_readClause_2 hB.1 rfl ?_
    refine gg_iload_n dX2_readClause_5 rfl rfl ?_
    refine gg_callV (sp_X3_signAt hT hn (show p < 2 ^ 30 by omega)) dX2_readClause_6 kw_X2_35 rfl hT3 rfl rfl (Nat.le_of_ble_eq_true rfl) (Nat.le_of_ble_eq_true rfl) (Nat.le_of_ble_eq_true rfl) ⟨(Nat.le_of_ble_eq_true rfl), (Nat.le_of_ble_eq_true rfl)⟩ (fun r S1 hq => ?_)
    refine gg_k (k2 := (0, 0)) rfl ?_
    obtain ⟨e9, rfl⟩ := hq
    rw [e9]
    clear e9 S1
    refine gg_callS (sp_X2_kindOf S (sgV b n p)) dX2_readClause_9 kw_X2_41 rfl rfl (Nat.le_of_ble_eq_true rfl) (Nat.le_of_ble_eq_true rfl) (Nat.le_of_ble_eq_true rfl) ⟨(Nat.le_of_ble_eq_true rfl), (Nat.le_of_ble_eq_true rfl)⟩ (fun r S1 hq => ?_)
    refine gg_k (k2 := (0, 0)) rfl ?_
    obtain ⟨e9, rfl⟩ := hq
    rw [e9, sg_kd, hk]
    clear e9 S1
    refine gg_istore_n dX2_readClause_12 rfl (Nat.le_of_ble_eq_true rfl) rfl ?_
    refine gg_iload_n dX2_readClause_13 rfl rfl ?_
    refine gg_iconst (v := -1) dX2_readClause_14 (by decide) ?_
    refine gg_icmp_ne (tgt := 20) dX2_readClause_15 (by decide) (fun c15 => ?_) (fun c15 => ?_)
    · exact absurd rfl c15
    · refine gg_iconst (v := 1) dX2_readClause_18 (by decide) ?_
      exact gg_ireturn dX2_readClause_19 rfl rfl ⟨(Nat.le_of_ble_eq_true rfl), (Nat.le_of_ble_eq_true rfl)⟩ (⟨rfl, hB, hf⟩)
  | some k =>
    have hk7 : k < 7 := (ffst_lt hk).2.1
    have hrl := rdg_le b n 4 (0, p + 1)
    have ec : clR b n p dr = clQ b n p dr k (rdg b n 4 (0, p + 1)) := by unfold clR; rw [hk]
    rw [ec]
    refine gg_aload_n dX2_readClause_0 rfl rfl ?_
    refine gg_aload_n dX2_readClause_1 rfl rfl ?_
    refine gf_X2_27 rfl dX2_readClause_2 hB.1 rfl ?_
    refine gg_iload_n dX2_readClause_5 rfl rfl ?_
    refine gg_callV (sp_X3_signAt hT hn (show p < 2 ^ 30 by omega)) dX2_readClause_6 kw_X2_35 rfl hT3 rfl rfl (Nat.le_of_ble_eq_true rfl) (Nat.le_of_ble_eq_true rfl) (Nat.le_of_ble_eq_true rfl) ⟨(Nat.le_of_ble_eq_true rfl), (Nat.le_of_ble_eq_true rfl)⟩ (fun r S1 hq => ?_)
    refine gg_k (k2 := (0, 0)) rfl ?_
    obtain ⟨e9, rfl⟩ := hq
    rw [e9]
    clear e9 S1
    refine gg_callS (sp_X2_kindOf S (sgV b n p)) dX2_readClause_9 kw_X2_41 rfl rfl (Nat.le_of_ble_eq_true rfl) (Nat.le_of_ble_eq_true rfl) (Nat.le_of_ble_eq_true rfl) ⟨(Nat.le_of_ble_eq_true rfl), (Nat.le_of_ble_eq_true rfl)⟩ (fun r S1 hq => ?_)
    refine gg_k (k2 := (0, 0)) rfl ?_
    obtain ⟨e9, rfl⟩ := hq
    rw [e9, sg_kd, hk]
    clear e9 S1
    refine gg_istore_n dX2_readClause_12 rfl (Nat.le_of_ble_eq_true rfl) rfl ?_
    refine gg_iload_n dX2_readClause_13 rfl rfl ?_
    refine gg_iconst (v := -1) dX2_readClause_14 (by decide) ?_
    refine gg_icmp_ne (tgt := 20) dX2_readClause_15 (by decide) (fun c15 => ?_) (fun c15 => ?_)
    · refine gg_aload_n dX2_readClause_20 rfl rfl ?_
      refine gg_dup dX2_readClause_21 rfl ?_
      refine gf_X2_27 rfl dX2_readClause_22 hB.1 rfl ?_
      refine gg_iconst (v := 1) dX2_readClause_25 (by decide) ?_
      refine gg_iadd dX2_readClause_26 ?_
      refine pf_X2_27 rfl dX2_readClause_27 hB.1 (Nat.le_of_ble_eq_true rfl) ?_
      refine PBs_pl (p + 1) (nI_1 p) hB hf (fun S hB hf => ?_)
      have hT := hT0.fr hf
      have hT3 := hT.1
      have hT4 := hT.2
      refine gg_aload_n dX2_readClause_30 rfl rfl ?_
      refine gg_aload_n dX2_readClause_31 rfl rfl ?_
      refine gf_X2_27 rfl dX2_readClause_32 hB.1 rfl ?_
      refine gg_iload_n dX2_readClause_35 rfl rfl ?_
      refine gg_callV (sp_X3_signAt hT hn (show p + 1 < 2 ^ 30 by omega)) dX2_readClause_36 kw_X2_35 rfl hT3 rfl rfl (Nat.le_of_ble_eq_true rfl) (Nat.le_of_ble_eq_true rfl) (Nat.le_of_ble_eq_true rfl) ⟨(Nat.le_of_ble_eq_true rfl), (Nat.le_of_ble_eq_true rfl)⟩ (fun r S1 hq => ?_)
      refine gg_k (k2 := (0, 0)) rfl ?_
      obtain ⟨e9, rfl⟩ := hq
      rw [e9]
      clear e9 S1
      refine gg_callS (sp_X2_isDigit S (sgV b n (p + 1))) dX2_readClause_39 kw_X2_45 rfl rfl (Nat.le_of_ble_eq_true rfl) (Nat.le_of_ble_eq_true rfl) (Nat.le_of_ble_eq_true rfl) ⟨(Nat.le_of_ble_eq_true rfl), (Nat.le_of_ble_eq_true rfl)⟩ (fun r S1 hq => ?_)
      refine gg_k (k2 := (0, 0)) rfl ?_
      obtain ⟨e9, rfl⟩ := hq
      rw [e9, sg_dig]
      clear e9 S1
      refine gg_if_ne (tgt := 47) dX2_readClause_42 (by decide) (fun c42 => ?_) (fun c42 => ?_)
      · have c42 := bI_nz c42
        refine gg_aload_n dX2_readClause_47 rfl rfl ?_
        refine gf_X2_27 rfl dX2_readClause_48 hB.1 rfl ?_
        refine gg_istore dX2_readClause_51 (Nat.le_of_ble_eq_true rfl) rfl ?_
        refine gg_aload_n dX2_readClause_53 rfl rfl ?_
        refine gg_aload_n dX2_readClause_54 rfl rfl ?_
        refine gg_iload_n dX2_readClause_55 rfl rfl ?_
        refine gg_callV (sp_X2_readDigits hT hB hn (show p + 1 < 900 by omega)) dX2_readClause_56 kw_X2_49 rfl hB.1 rfl rfl (Nat.le_of_ble_eq_true rfl) (Nat.le_of_ble_eq_true rfl) (Nat.le_of_ble_eq_true rfl) ⟨(Nat.le_of_ble_eq_true rfl), (Nat.le_of_ble_eq_true rfl)⟩ (fun r S1 hq => ?_)
        refine gg_k (k2 := (0, 0)) rfl ?_
        obtain ⟨rfl, hB, hf1⟩ := hq
        have hf := hf.tr hf1
        clear hf1
        generalize hrr : rdg b n 4 (0, p + 1) = rr at hB hrl ⊢
        obtain ⟨v, q⟩ := rr
        have hq1 : p + 1 ≤ q := hrl.1
        have hq2 : q ≤ p + 1 + 4 := hrl.2.1
        revert S1
        intro S hf hB
        have hT := hT0.fr hf
        have hT3 := hT.1
        have hT4 := hT.2
        refine gg_istore dX2_readClause_59 (Nat.le_of_ble_eq_true rfl) rfl ?_
        refine gg_aload_n dX2_readClause_61 rfl rfl ?_
        refine gg_aload_n dX2_readClause_62 rfl rfl ?_
        refine gf_X2_27 rfl dX2_readClause_63 hB.1 rfl ?_
        refine gg_iload_n dX2_readClause_66 rfl rfl ?_
        refine gg_callV (sp_X3_signAt hT hn (show q < 2 ^ 30 by omega)) dX2_readClause_67 kw_X2_35 rfl hT3 rfl rfl (Nat.le_of_ble_eq_true rfl) (Nat.le_of_ble_eq_true rfl) (Nat.le_of_ble_eq_true rfl) ⟨(Nat.le_of_ble_eq_true rfl), (Nat.le_of_ble_eq_true rfl)⟩ (fun r S1 hq => ?_)
        refine gg_k (k2 := (0, 0)) rfl ?_
        obtain ⟨e9, rfl⟩ := hq
        rw [e9]
        clear e9 S1
        refine gg_callS (sp_X2_isDigit S (sgV b n q)) dX2_readClause_70 kw_X2_45 rfl rfl (Nat.le_of_ble_eq_true rfl) (Nat.le_of_ble_eq_true rfl) (Nat.le_of_ble_eq_true rfl) ⟨(Nat.le_of_ble_eq_true rfl), (Nat.le_of_ble_eq_true rfl)⟩ (fun r S1 hq => ?_)
        refine gg_k (k2 := (0, 0)) rfl ?_
        obtain ⟨e9, rfl⟩ := hq
        rw [e9, sg_dig]
        clear e9 S1
        refine gg_if_eq (tgt := 78) dX2_readClause_73 (by decide) (fun c73 => ?_) (fun c73 => ?_)
        · have c73 := bI_z c73
          refine gg_iload dX2_readClause_78 rfl ?_
          refine gg_getst 1000001 dX2_readClause_80 lks_52 (by decide) (fun _ _ _ _ h => h.2.1.1) ?_
          refine gg_iload_n dX2_readClause_83 rfl rfl ?_
          refine gg_tald_i 1000001 (k) (by decide) (fun _ _ _ _ h => h.2.1.2) dX2_readClause_84 rfl hk7 ?_
          refine gg_icmp_lt (tgt := 98) dX2_readClause_85 (by decide) (fun c85 => ?_) (fun c85 => ?_)
          · have c85 : v < gl_LE k ∨ gl_MO k < v := Or.inl c85
            refine gg_aload_n dX2_readClause_98 rfl rfl ?_
            refine gg_iload dX2_readClause_99 rfl ?_
            refine pf_X2_27 rfl dX2_readClause_101 hB.1 (Nat.le_of_ble_eq_true rfl) ?_
            refine PBs_pl (p + 1) rfl hB hf (fun S hB hf => ?_)
            refine gg_iconst (v := 4) dX2_readClause_104 (by decide) ?_
            have e : clQ b n p dr k (v, q) = (4, p + 1, dr) := by unfold clQ; dsimp only; rw [if_neg (by rw [c42]; decide), if_neg (by rw [c73]; decide), if_pos c85]
            rw [e]
            exact gg_ireturn dX2_readClause_105 rfl rfl ⟨(Nat.le_of_ble_eq_true rfl), (Nat.le_of_ble_eq_true rfl)⟩ (⟨rfl, hB, hf⟩)
          · refine gg_iload dX2_readClause_88 rfl ?_
            refine gg_getst 1000002 dX2_readClause_90 lks_55 (by decide) (fun _ _ _ _ h => h.2.2.1.1) ?_
            refine gg_iload_n dX2_readClause_93 rfl rfl ?_
            refine gg_tald_i 1000002 (k) (by decide) (fun _ _ _ _ h => h.2.2.1.2) dX2_readClause_94 rfl hk7 ?_
            refine gg_icmp_le (tgt := 106) dX2_readClause_95 (by decide) (fun c95 => ?_) (fun c95 => ?_)
            · have c85 : ¬ (v < gl_LE k ∨ gl_MO k < v) := fun z => z.elim c85 (fun y => Int32.not_lt.mpr c95 y)
              refine gg_aload_n dX2_readClause_106 rfl rfl ?_
              refine gf_X2_15 rfl dX2_readClause_107 hB.1 rfl ?_
              refine gg_iload_n dX2_readClause_110 rfl rfl ?_
              refine gg_iload dX2_readClause_111 rfl ?_
              refine gg_ast_i (k) dX2_readClause_113 hB.2.2 rfl hk7 (by decide) ?_
              refine PBs_dr hB hf (fun S hB hf => ?_)
              have hT := hT0.fr hf
              have hT3 := hT.1
              have hT4 := hT.2
              refine gg_aload_n dX2_readClause_114 rfl rfl ?_
              refine gf_X2_27 rfl dX2_readClause_115 hB.1 rfl ?_
              refine gg_iload_n dX2_readClause_118 rfl rfl ?_
              refine gg_icmp_ge (tgt := 140) dX2_readClause_119 (by decide) (fun c119 => ?_) (fun c119 => ?_)
              · have e5 : ¬ (q < n ∧ ccV b n q ≠ 59) := fun z => absurd z.1 (by have := n_le c119; omega)
                refine gg_iconst (v := 0) dX2_readClause_140 (by decide) ?_
                first
                  | rw [show clQ b n p dr k (v, q) = (5, q, upd dr k v) by unfold clQ; dsimp only; rw [if_neg (by rw [c42]; decide), if_neg (by rw [c73]; decide), if_neg c85, if_pos e5]]
                  | rw [show clQ b n p dr k (v, q) = (0, q, upd dr k v) by unfold clQ; dsimp only; rw [if_neg (by rw [c42]; decide), if_neg (by rw [c73]; decide), if_neg c85, if_neg e5]]
                exact gg_ireturn dX2_readClause_141 rfl rfl ⟨(Nat.le_of_ble_eq_true rfl), (Nat.le_of_ble_eq_true rfl)⟩ (⟨rfl, hB, hf⟩)
              · have c119 := n_nle c119
                refine gg_aload_n dX2_readClause_122 rfl rfl ?_
                refine gg_aload_n dX2_readClause_123 rfl rfl ?_
                refine gf_X2_27 rfl dX2_readClause_124 hB.1 rfl ?_
                refine gg_iload_n dX2_readClause_127 rfl rfl ?_
                refine gg_callV (sp_X3_signAt hT hn (show q < 2 ^ 30 by omega)) dX2_readClause_128 kw_X2_35 rfl hT3 rfl rfl (Nat.le_of_ble_eq_true rfl) (Nat.le_of_ble_eq_true rfl) (Nat.le_of_ble_eq_true rfl) ⟨(Nat.le_of_ble_eq_true rfl), (Nat.le_of_ble_eq_true rfl)⟩ (fun r S1 hq => ?_)
                refine gg_k (k2 := (0, 0)) rfl ?_
                obtain ⟨e9, rfl⟩ := hq
                rw [e9, sg_cc c119]
                clear e9 S1
                refine gg_bipush (v := 59) dX2_readClause_131 (by decide) ?_
                refine gg_icmp_eq (tgt := 140) dX2_readClause_133 (by decide) (fun c133 => ?_) (fun c133 => ?_)
                · have e5 : ¬ (q < n ∧ ccV b n q ≠ 59) := fun z => z.2 c133
                  refine gg_iconst (v := 0) dX2_readClause_140 (by decide) ?_
                  first
                    | rw [show clQ b n p dr k (v, q) = (5, q, upd dr k v) by unfold clQ; dsimp only; rw [if_neg (by rw [c42]; decide), if_neg (by rw [c73]; decide), if_neg c85, if_pos e5]]
                    | rw [show clQ b n p dr k (v, q) = (0, q, upd dr k v) by unfold clQ; dsimp only; rw [if_neg (by rw [c42]; decide), if_neg (by rw [c73]; decide), if_neg c85, if_neg e5]]
                  exact gg_ireturn dX2_readClause_141 rfl rfl ⟨(Nat.le_of_ble_eq_true rfl), (Nat.le_of_ble_eq_true rfl)⟩ (⟨rfl, hB, hf⟩)
                · have e5 : q < n ∧ ccV b n q ≠ 59 := ⟨c119, c133⟩
                  refine gg_iconst (v := 5) dX2_readClause_136 (by decide) ?_
                  refine gg_goto (tgt := 141) dX2_readClause_137 (by decide) ?_
                  first
                    | rw [show clQ b n p dr k (v, q) = (5, q, upd dr k v) by unfold clQ; dsimp only; rw [if_neg (by rw [c42]; decide), if_neg (by rw [c73]; decide), if_neg c85, if_pos e5]]
                    | rw [show clQ b n p dr k (v, q) = (0, q, upd dr k v) by unfold clQ; dsimp only; rw [if_neg (by rw [c42]; decide), if_neg (by rw [c73]; decide), if_neg c85, if_neg e5]]
                  exact gg_ireturn dX2_readClause_141 rfl rfl ⟨(Nat.le_of_ble_eq_true rfl), (Nat.le_of_ble_eq_true rfl)⟩ (⟨rfl, hB, hf⟩)
            · have c85 : v < gl_LE k ∨ gl_MO k < v := Or.inr (Int32.not_le.mp c95)
              refine gg_aload_n dX2_readClause_98 rfl rfl ?_
              refine gg_iload dX2_readClause_99 rfl ?_
              refine pf_X2_27 rfl dX2_readClause_101 hB.1 (Nat.le_of_ble_eq_true rfl) ?_
              refine PBs_pl (p + 1) rfl hB hf (fun S hB hf => ?_)
              refine gg_iconst (v := 4) dX2_readClause_104 (by decide) ?_
              have e : clQ b n p dr k (v, q) = (4, p + 1, dr) := by unfold clQ; dsimp only; rw [if_neg (by rw [c42]; decide), if_neg (by rw [c73]; decide), if_pos c85]
              rw [e]
              exact gg_ireturn dX2_readClause_105 rfl rfl ⟨(Nat.le_of_ble_eq_true rfl), (Nat.le_of_ble_eq_true rfl)⟩ (⟨rfl, hB, hf⟩)
        · have c73 := bI_nz c73
          refine gg_iconst (v := 3) dX2_readClause_76 (by decide) ?_
          have e : clQ b n p dr k (v, q) = (3, q, dr) := by unfold clQ; dsimp only; rw [if_neg (by rw [c42]; decide), if_pos c73]
          rw [e]
          exact gg_ireturn dX2_readClause_77 rfl rfl ⟨(Nat.le_of_ble_eq_true rfl), (Nat.le_of_ble_eq_true rfl)⟩ (⟨rfl, hB, hf⟩)
      · have c42 := bI_z c42
        refine gg_iconst (v := 2) dX2_readClause_45 (by decide) ?_
        rw [show clQ b n p dr k (rdg b n 4 (0, p + 1)) = (2, p + 1, dr) from if_pos c42]
        exact gg_ireturn dX2_readClause_46 rfl rfl ⟨(Nat.le_of_ble_eq_true rfl), (Nat.le_of_ble_eq_true rfl)⟩ (⟨rfl, hB, hf⟩)
    · exact absurd c15 (nI_m1 (by omega))
def rdL (b : Nat → Int32) (n : Nat) : Nat → Nat → (Nat → Int32) → Int32 × Option (Nat → Int32)
  | 0, _, _ => (0, none)
  | f + 1, p, dr => if (clR b n p dr).1 ≠ 0 then (nI (100 * (clR b n p dr).1 + (clR b n p dr).2.1), none) else if n ≤ (clR b n p dr).2.1 then (0, some (clR b n p dr).2.2) else rdL b n f ((clR b n p dr).2.1 + 1) (clR b n p dr).2.2
theorem clR_pos (b : Nat → Int32) (n p : Nat) (dr : Nat → Int32) : (clR b n p dr).1 ≤ 5 ∧ p ≤ (clR b n p dr).2.1 ∧ (clR b n p dr).2.1 ≤ p + 5 ∧ ((clR b n p dr).1 = 0 → p + 2 ≤ (clR b n p dr).2.1 ∧ (clR b n p dr).2.1 ≤ n) := by
  unfold clR
  have hrl := rdg_le b n 4 (0, p + 1)
  have hd4 : dgB b n (p + 1) = true → p + 2 ≤ (rdg b n 4 (0, p + 1)).2 ∧ (rdg b n 4 (0, p + 1)).2 ≤ n := fun h => by
    have hl := dg_lt h
    have e : rdg b n 4 (0, p + 1) = rdg b n 3 (10 * 0 + ccV b n (p + 1) - 48, p + 1 + 1) := if_pos h
    rw [e]
    have h3 := rdg_le b n 3 (10 * 0 + ccV b n (p + 1) - 48, p + 1 + 1)
    exact ⟨h3.1, h3.2.2 hl⟩
  generalize rdg b n 4 (0, p + 1) = rr at hrl hd4
  obtain ⟨v, q⟩ := rr
  have hq1 : p + 1 ≤ q := hrl.1
  have hq2 : q ≤ p + 1 + 4 := hrl.2.1
  cases kdO (ccV b n p) with
  | none => exact ⟨Nat.le_of_ble_eq_true rfl, Nat.le_refl _, Nat.le_add_right _ _, fun z => by cases z⟩
  | some k =>
    dsimp only
    unfold clQ
    dsimp only
    by_cases c1 : dgB b n (p + 1) = false
    · rw [if_pos c1]; exact ⟨Nat.le_of_ble_eq_true rfl, Nat.le_add_right _ _, by show p + 1 ≤ p + 5; omega, fun z => by cases z⟩
    · rw [if_neg c1]
      have hd := hd4 (by cases h : dgB b n (p + 1); exact absurd h c1; rfl)
      split
      · exact ⟨Nat.le_of_ble_eq_true rfl, by show p ≤ q; omega, by show q ≤ p + 5; omega, fun z => by cases z⟩
      · split
        · exact ⟨Nat.le_of_ble_eq_true rfl, Nat.le_add_right _ _, by show p + 1 ≤ p + 5; omega, fun z => by cases z⟩
        · split
          · exact ⟨Nat.le_of_ble_eq_true rfl, by show p ≤ q; omega, by show q ≤ p + 5; omega, fun z => by cases z⟩
          · exact ⟨Nat.le_of_ble_eq_true rfl, by show p ≤ q; omega, by show q ≤ p + 5; omega, fun _ => hd⟩
theorem re_loop {S0 : gl_H} {b num : Nat → Int32} {t n : Nat} (hT0 : PT S0 b t) (hn : n ≤ 60) (x : gl_X) : ∀ (m c : Nat), c + m = n + 1 → ∀ (p : Nat) (dr : Nat → Int32) (S : gl_H), 3 * c ≤ p → p ≤ n → PB S num dr p → Fr 5 8 S0 S → GG mX2_read x (gl_Z mX2_read x (fun r S1 => r = some (.int (rdL b n m p dr).1) ∧ (∃ num1 dr1 pl1, (∀ j, j < 7 → num1 j = ((rdL b n m p dr).2.getD num) j) ∧ PB S1 num1 dr1 pl1) ∧ Fr 5 8 S0 S1)) 21 [some (.ref 5), some (.ref 3), some (.int (nI n)), some (.int (nI c)), none] [] S (0, 0) := by
  intro m
  induction m with
  | zero =>
    intro c hm p dr S h3 hpn hB hf
    omega
  | succ m ih =>
    intro c hm p dr S h3 hpn hB hf
    have hT := hT0.fr hf
    have hT3 := hT.1
    have hT4 := hT.2
    have hcl := clR_pos b n p dr
    have e0 : rdL b n (m + 1) p dr = if (clR b n p dr).1 ≠ 0 then (nI (100 * (clR b n p dr).1 + (clR b n p dr).2.1), none) else if n ≤ (clR b n p dr).2.1 then (0, some (clR b n p dr).2.2) else rdL b n m ((clR b n p dr).2.1 + 1) (clR b n p dr).2.2 := rfl
    rw [e0]
    refine gg_iload_n dX2_read_21 rfl rfl ?_
    refine gg_iload_n dX2_read_22 rfl rfl ?_
    refine gg_icmp_gt (tgt := 77) dX2_read_23 (by decide) (fun c23 => ?_) (fun c23 => ?_)
    · exact absurd (n_lt c23) (by omega)
    · refine gg_aload_n dX2_read_26 rfl rfl ?_
      refine gg_aload_n dX2_read_27 rfl rfl ?_
      refine gg_iload_n dX2_read_28 rfl rfl ?_
      refine gg_callV (sp_X2_readClause hT hB hn (show p ≤ 800 by omega)) dX2_read_29 kw_X2_31 rfl hB.1 rfl rfl (Nat.le_of_ble_eq_true rfl) (Nat.le_of_ble_eq_true rfl) (Nat.le_of_ble_eq_true rfl) ⟨(Nat.le_of_ble_eq_true rfl), (Nat.le_of_ble_eq_true rfl)⟩ (fun r S1 hq => ?_)
      refine gg_k (k2 := (0, 0)) rfl ?_
      obtain ⟨rfl, hB, hf1⟩ := hq
      have hf := hf.tr hf1
      clear hf1
      generalize hcc : clR b n p dr = cr at hB hcl ⊢
      obtain ⟨co, q, d2⟩ := cr
      have hc1 : co ≤ 5 := hcl.1
      have hc2 : p ≤ q := hcl.2.1
      have hc3 : q ≤ p + 5 := hcl.2.2.1
      have hc4 : co = 0 → p + 2 ≤ q ∧ q ≤ n := hcl.2.2.2
      revert S1
      intro S hf hB
      refine gg_istore dX2_read_32 (Nat.le_of_ble_eq_true rfl) rfl ?_
      refine gg_iload dX2_read_34 rfl ?_
      refine gg_if_eq (tgt := 50) dX2_read_36 (by decide) (fun c36 => ?_) (fun c36 => ?_)
      · have c36 : co = 0 := n_eq (b := 0) c36
        refine gg_aload_n dX2_read_50 rfl rfl ?_
        refine gf_X2_27 rfl dX2_read_51 hB.1 rfl ?_
        refine gg_iload_n dX2_read_54 rfl rfl ?_
        refine gg_icmp_lt (tgt := 61) dX2_read_55 (by decide) (fun c55 => ?_) (fun c55 => ?_)
        · have c55 : q < n := n_lt c55
          refine gg_aload_n dX2_read_61 rfl rfl ?_
          refine gg_dup dX2_read_62 rfl ?_
          refine gf_X2_27 rfl dX2_read_63 hB.1 rfl ?_
          refine gg_iconst (v := 1) dX2_read_66 (by decide) ?_
          refine gg_iadd dX2_read_67 ?_
          refine pf_X2_27 rfl dX2_read_68 hB.1 (Nat.le_of_ble_eq_true rfl) ?_
          refine PBs_pl (q + 1) (nI_1 q) hB hf (fun S hB hf => ?_)
          refine gg_iinc (w := nI (c + 1)) dX2_read_71 rfl (nI_1 c) (Nat.le_of_ble_eq_true rfl) rfl ?_
          refine gg_goto (tgt := 21) dX2_read_74 (by decide) ?_
          rw [if_neg (fun z => z c36), if_neg (Nat.not_le.mpr c55)]
          refine gg_fg [true, true, true, true, false] ?_
          exact ih (c + 1) (by omega) (q + 1) d2 S (by omega) (by omega) hB hf
        · have c55 : n ≤ q := n_nlt c55
          refine gg_goto (tgt := 77) dX2_read_58 (by decide) ?_
          refine gg_aload_n dX2_read_77 rfl rfl ?_
          refine gf_X2_15 rfl dX2_read_78 hB.1 rfl ?_
          refine gg_iconst (v := 0) dX2_read_81 (by decide) ?_
          refine gg_aload_n dX2_read_82 rfl rfl ?_
          refine gf_X2_11 rfl dX2_read_83 hB.1 rfl ?_
          refine gg_iconst (v := 0) dX2_read_86 (by decide) ?_
          refine gg_bipush (v := 7) dX2_read_87 (by decide) ?_
          refine gg_copyi 7 dX2_read_89 kw_X2_21 hB.2.2 hB.2.1 (by decide) (by decide) (by decide) (by decide) (Nat.le_of_ble_eq_true rfl) (Nat.le_of_ble_eq_true rfl) ?_
          refine PBs_num hB hf (fun S hB hf => ?_)
          refine gg_iconst (v := 0) dX2_read_92 (by decide) ?_
          exact gg_ireturn dX2_read_93 rfl rfl ⟨(Nat.le_of_ble_eq_true rfl), (Nat.le_of_ble_eq_true rfl)⟩ (by rw [if_neg (fun z => z c36), if_pos c55]; exact ⟨rfl, ⟨_, d2, q, fun j hj => by rw [pk_cpy_in (Nat.zero_le j) (by omega)]; show d2 _ = d2 j; congr 1; omega, hB⟩, hf⟩)
      · have c36 : co ≠ 0 := n_ne (b := 0) c36
        refine gg_bipush (v := 100) dX2_read_39 (by decide) ?_
        refine gg_iload dX2_read_41 rfl ?_
        refine gg_imul dX2_read_43 ?_
        refine gg_aload_n dX2_read_44 rfl rfl ?_
        refine gf_X2_27 rfl dX2_read_45 hB.1 rfl ?_
        refine gg_iadd dX2_read_48 ?_
        exact gg_ireturn dX2_read_49 rfl rfl ⟨(Nat.le_of_ble_eq_true rfl), (Nat.le_of_ble_eq_true rfl)⟩ (by rw [if_pos c36]; refine ⟨?_, ⟨num, d2, q, fun j hj => rfl, hB⟩, hf⟩; rw [← nI_add, ← pk_mul]; rfl)
theorem sp_X2_read {S : gl_H} {b num dr : Nat → Int32} {t n p : Nat} (hT : PT S b t) (hB : PB S num dr p) (hn : n ≤ 60) : Sp mX2_read yX2_read [.ref 5, .ref 3, .int (nI n)] S (fun r S1 => ∃ d0 : Nat → Int32, (∀ j, j < 7 → d0 j = gl_AT j) ∧ r = some (.int (rdL b n (n + 1) 0 d0).1) ∧ (∃ num1 dr1 pl1, (∀ j, j < 7 → num1 j = ((rdL b n (n + 1) 0 d0).2.getD num) j) ∧ PB S1 num1 dr1 pl1) ∧ Fr 5 8 S S1) := by
  refine gl_enter (j := 2) (by decide +kernel) rfl (fun h => absurd h (by decide)) (Nat.le_of_ble_eq_true rfl) rfl (fun x => ?_)
  have hf : Fr 5 8 S S := Fr.rf
  refine gg_getst 1000000 dX2_read_0 lks_18 (by decide) (fun _ _ _ _ h => h.1.1) ?_
  refine gg_iconst (v := 0) dX2_read_3 (by decide) ?_
  refine gg_aload_n dX2_read_4 rfl rfl ?_
  refine gf_X2_15 rfl dX2_read_5 hB.1 rfl ?_
  refine gg_iconst (v := 0) dX2_read_8 (by decide) ?_
  refine gg_bipush (v := 7) dX2_read_9 (by decide) ?_
  refine gg_copyx 1000000 (by decide) (fun _ _ _ _ h => h.1.2) dX2_read_11 kw_X2_21 hB.2.2 (by decide) (Nat.le_of_ble_eq_true rfl) (Nat.le_of_ble_eq_true rfl) ?_
  refine PBs_dr hB hf (fun S hB hf => ?_)
  refine gg_aload_n dX2_read_14 rfl rfl ?_
  refine gg_iconst (v := 0) dX2_read_15 (by decide) ?_
  refine pf_X2_27 rfl dX2_read_16 hB.1 (Nat.le_of_ble_eq_true rfl) ?_
  refine PBs_pl 0 rfl hB hf (fun S hB hf => ?_)
  refine gg_iconst (v := 0) dX2_read_19 (by decide) ?_
  refine gg_istore_n dX2_read_20 rfl (Nat.le_of_ble_eq_true rfl) rfl ?_
  refine gg_Q (fun r S1 h => ⟨va_cpy gl_AT dr 0 0 7, fun j hj => by rw [pk_cpy_in (Nat.zero_le j) (by omega)]; congr 1; omega, h⟩) ?_
  exact re_loop hT hn x (n + 1) 0 (by omega) 0 _ S (by omega) (by omega) hB hf
