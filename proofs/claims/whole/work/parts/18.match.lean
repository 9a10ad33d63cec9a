/-! THE MATCH: its cells, what its methods do, as functions -/
def PM (S : gl_H) (og tk : Int32) (w : Nat → Nat → Int64) (tks to : Nat → Int32) (tl : Nat → Int64) (lt : Nat → Int32) : Prop :=
  S 12 = some (.inr (1, [.ref 13, .ref 14, .int og, .ref 15, .int tk, .ref 16, .ref 17])) ∧
  S 13 = some (.inl (6, 10, .inr (.inr (.inr (.inr (fun j => if j < 10 then some (20 + j) else none)))))) ∧
  (∀ g, g < 10 → S (20 + g) = some (.inl (1, 13, .inr (.inl (w g))))) ∧
  S 14 = some (.inl (0, 10, .inl tks)) ∧ S 15 = some (.inl (0, 10, .inl to)) ∧ S 16 = some (.inl (1, 10, .inr (.inl tl))) ∧ S 17 = some (.inl (0, 10, .inl lt))
theorem PM.keep {S S1 : gl_H} {og tk : Int32} {w : Nat → Nat → Int64} {tks to : Nat → Int32} {tl : Nat → Int64} {lt : Nat → Int32} (h : PM S og tk w tks to tl lt) (hq : ∀ q, 12 ≤ q → q < 30 → S1 q = S q) : PM S1 og tk w tks to tl lt := ⟨(hq 12 (by omega) (by omega)).trans h.1, (hq 13 (by omega) (by omega)).trans h.2.1, fun g hg => (hq (20 + g) (by omega) (by omega)).trans (h.2.2.1 g hg), (hq 14 (by omega) (by omega)).trans h.2.2.2.1, (hq 15 (by omega) (by omega)).trans h.2.2.2.2.1, (hq 16 (by omega) (by omega)).trans h.2.2.2.2.2.1, (hq 17 (by omega) (by omega)).trans h.2.2.2.2.2.2⟩
def oI (r : Option Nat) : Int32 := match r with
  | none => -1
  | some h => nI h
def bI (b : Bool) : Int32 := if b then 1 else 0
theorem bI_nar (b : Bool) : narrow .boolean (.int (bI b)) = .int (bI b) := by cases b <;> rfl
theorem upd_F {α : Type} (F : α → Int32) (p : Nat → α) (k : Nat) (v : α) : upd (fun j => F (p j)) k (F v) = fun j => F (va_up p k v j) := funext (fun j => by
  unfold va_up
  by_cases h : j = k
  · rw [h, pk_us, if_pos rfl]
  · rw [pk_un h, if_neg h])
section PMS
variable {M : gl_M} {x : gl_X} {Z : State → Prop} {pc : Nat} {ls : List (Option Value)} {st : List Value} {S S0 : gl_H} {k : Nat × Nat} {og tk : Int32} {w : Nat → Nat → Int64} {tks to : Nat → Int32} {tl : Nat → Int64} {lt : Nat → Int32}
theorem PMs_og {v : Int32} (h : PM S og tk w tks to tl lt) (hf : Fr 12 30 S0 S) (K : ∀ S1, PM S1 v tk w tks to tl lt → Fr 12 30 S0 S1 → GG M x Z pc ls st S1 k) : GG M x Z pc ls st (gl_pu S 12 (.inr (1, [.ref 13, .ref 14, .int v, .ref 15, .int tk, .ref 16, .ref 17]))) k := K _ ⟨gl_pu_s S _ _, (gl_pu_n S _ (by decide)).trans h.2.1, fun g hg => (gl_pu_n S _ (by omega)).trans (h.2.2.1 g hg), (gl_pu_n S _ (by decide)).trans h.2.2.2.1, (gl_pu_n S _ (by decide)).trans h.2.2.2.2.1, (gl_pu_n S _ (by decide)).trans h.2.2.2.2.2.1, (gl_pu_n S _ (by decide)).trans h.2.2.2.2.2.2⟩ (hf.pu (by decide) (by decide))
theorem PMs_tk {v : Int32} (h : PM S og tk w tks to tl lt) (hf : Fr 12 30 S0 S) (K : ∀ S1, PM S1 og v w tks to tl lt → Fr 12 30 S0 S1 → GG M x Z pc ls st S1 k) : GG M x Z pc ls st (gl_pu S 12 (.inr (1, [.ref 13, .ref 14, .int og, .ref 15, .int v, .ref 16, .ref 17]))) k := K _ ⟨gl_pu_s S _ _, (gl_pu_n S _ (by decide)).trans h.2.1, fun g hg => (gl_pu_n S _ (by omega)).trans (h.2.2.1 g hg), (gl_pu_n S _ (by decide)).trans h.2.2.2.1, (gl_pu_n S _ (by decide)).trans h.2.2.2.2.1, (gl_pu_n S _ (by decide)).trans h.2.2.2.2.2.1, (gl_pu_n S _ (by decide)).trans h.2.2.2.2.2.2⟩ (hf.pu (by decide) (by decide))
theorem PMs_tks {v : Nat → Int32} (h : PM S og tk w tks to tl lt) (hf : Fr 12 30 S0 S) (K : ∀ S1, PM S1 og tk w v to tl lt → Fr 12 30 S0 S1 → GG M x Z pc ls st S1 k) : GG M x Z pc ls st (gl_pu S 14 (.inl (0, 10, .inl v))) k := K _ ⟨(gl_pu_n S _ (by decide)).trans h.1, (gl_pu_n S _ (by decide)).trans h.2.1, fun g hg => (gl_pu_n S _ (by omega)).trans (h.2.2.1 g hg), gl_pu_s S _ _, (gl_pu_n S _ (by decide)).trans h.2.2.2.2.1, (gl_pu_n S _ (by decide)).trans h.2.2.2.2.2.1, (gl_pu_n S _ (by decide)).trans h.2.2.2.2.2.2⟩ (hf.pu (by decide) (by decide))
theorem PMs_to {v : Nat → Int32} (h : PM S og tk w tks to tl lt) (hf : Fr 12 30 S0 S) (K : ∀ S1, PM S1 og tk w tks v tl lt → Fr 12 30 S0 S1 → GG M x Z pc ls st S1 k) : GG M x Z pc ls st (gl_pu S 15 (.inl (0, 10, .inl v))) k := K _ ⟨(gl_pu_n S _ (by decide)).trans h.1, (gl_pu_n S _ (by decide)).trans h.2.1, fun g hg => (gl_pu_n S _ (by omega)).trans (h.2.2.1 g hg), (gl_pu_n S _ (by decide)).trans h.2.2.2.1, gl_pu_s S _ _, (gl_pu_n S _ (by decide)).trans h.2.2.2.2.2.1, (gl_pu_n S _ (by decide)).trans h.2.2.2.2.2.2⟩ (hf.pu (by decide) (by decide))
theorem PMs_tl {v : Nat → Int64} (h : PM S og tk w tks to tl lt) (hf : Fr 12 30 S0 S) (K : ∀ S1, PM S1 og tk w tks to v lt → Fr 12 30 S0 S1 → GG M x Z pc ls st S1 k) : GG M x Z pc ls st (gl_pu S 16 (.inl (1, 10, .inr (.inl v)))) k := K _ ⟨(gl_pu_n S _ (by decide)).trans h.1, (gl_pu_n S _ (by decide)).trans h.2.1, fun g hg => (gl_pu_n S _ (by omega)).trans (h.2.2.1 g hg), (gl_pu_n S _ (by decide)).trans h.2.2.2.1, (gl_pu_n S _ (by decide)).trans h.2.2.2.2.1, gl_pu_s S _ _, (gl_pu_n S _ (by decide)).trans h.2.2.2.2.2.2⟩ (hf.pu (by decide) (by decide))
theorem PMs_lt {v : Nat → Int32} (h : PM S og tk w tks to tl lt) (hf : Fr 12 30 S0 S) (K : ∀ S1, PM S1 og tk w tks to tl v → Fr 12 30 S0 S1 → GG M x Z pc ls st S1 k) : GG M x Z pc ls st (gl_pu S 17 (.inl (0, 10, .inl v))) k := K _ ⟨(gl_pu_n S _ (by decide)).trans h.1, (gl_pu_n S _ (by decide)).trans h.2.1, fun g hg => (gl_pu_n S _ (by omega)).trans (h.2.2.1 g hg), (gl_pu_n S _ (by decide)).trans h.2.2.2.1, (gl_pu_n S _ (by decide)).trans h.2.2.2.2.1, (gl_pu_n S _ (by decide)).trans h.2.2.2.2.2.1, gl_pu_s S _ _⟩ (hf.pu (by decide) (by decide))
theorem PMs_row {g : Nat} (hg : g < 10) {v : Nat → Int64} (h : PM S og tk w tks to tl lt) (hf : Fr 12 30 S0 S) (K : ∀ S1, PM S1 og tk (va_up w g v) tks to tl lt → Fr 12 30 S0 S1 → GG M x Z pc ls st S1 k) : GG M x Z pc ls st (gl_pu S (20 + g) (.inl (1, 13, .inr (.inl v)))) k := K _ ⟨(gl_pu_n S _ (by omega)).trans h.1, (gl_pu_n S _ (by omega)).trans h.2.1, fun i hi => by
    by_cases e : i = g
    · subst e
      rw [gl_pu_s, va_up, if_pos rfl]
    · rw [gl_pu_n S _ (by omega), va_up, if_neg e]
      exact h.2.2.1 i hi, (gl_pu_n S _ (by omega)).trans h.2.2.2.1, (gl_pu_n S _ (by omega)).trans h.2.2.2.2.1, (gl_pu_n S _ (by omega)).trans h.2.2.2.2.2.1, (gl_pu_n S _ (by omega)).trans h.2.2.2.2.2.2⟩ (hf.pu (by omega) (by omega))
end PMS
set_option maxRecDepth 20000 in
theorem kq_30 : Cond.constantLong RX1 30 (-1) ∈ gl_T := (gl_T_in (by decide +kernel) (by decide +kernel))
def mFAR : Int64 := 9223372036854775807
set_option maxRecDepth 20000 in
theorem kq_81 : Cond.constantLong RX1 81 mFAR ∈ gl_T := (gl_T_in (by decide +kernel) (by decide +kernel))
theorem sp_X1_weightOf {S : gl_H} {og tk : Int32} {w : Nat → Nat → Int64} {tks to : Nat → Int32} {tl : Nat → Int64} {lt : Nat → Int32} (hp : PM S og tk w tks to tl lt) {g t : Nat} (hg : g < 10) (ht : t < 13) : Sp mX1_weightOf yX1_weightOf [.ref 12, .int (nI g), .int (nI t)] S (fun r S1 => S1 = S ∧ r = some (.long (w g t))) := by
  refine gl_enter (j := 0) (by decide +kernel) rfl (fun h => absurd h (by decide)) (Nat.le_of_ble_eq_true rfl) rfl (fun x => ?_)
  refine gg_iload_n dX1_weightOf_0 rfl rfl ?_
  refine gg_if_lt (tgt := 31) dX1_weightOf_1 (by decide) (fun c1 => ?_) (fun c1 => ?_)
  · exact absurd c1 (nI_pos (by omega))
  · refine gg_iload_n dX1_weightOf_4 rfl rfl ?_
    refine gg_bipush (v := 10) dX1_weightOf_5 (by decide) ?_
    refine gg_icmp_ge (tgt := 31) dX1_weightOf_7 (by decide) (fun c7 => ?_) (fun c7 => ?_)
    · exact absurd c7 (nI_ge (b := 10) hg (by omega))
    · refine gg_iload_n dX1_weightOf_10 rfl rfl ?_
      refine gg_if_lt (tgt := 31) dX1_weightOf_11 (by decide) (fun c11 => ?_) (fun c11 => ?_)
      · exact absurd c11 (nI_pos (by omega))
      · refine gg_iload_n dX1_weightOf_14 rfl rfl ?_
        refine gg_bipush (v := 12) dX1_weightOf_15 (by decide) ?_
        refine gg_icmp_gt (tgt := 31) dX1_weightOf_17 (by decide) (fun c17 => ?_) (fun c17 => ?_)
        · exact absurd c17 (nI_nlt (a := 12) (by omega) (by omega))
        · refine gg_aload_n dX1_weightOf_20 rfl rfl ?_
          refine gf_X1_13 rfl dX1_weightOf_21 hp.1 rfl ?_
          refine gg_iload_n dX1_weightOf_24 rfl rfl ?_
          refine gg_ald_r (g) dX1_weightOf_25 hp.2.1 rfl hg (by decide) (if_pos hg) ?_
          refine gg_iload_n dX1_weightOf_26 rfl rfl ?_
          refine gg_ald_l (t) dX1_weightOf_27 (hp.2.2.1 g hg) rfl ht (by decide) ?_
          refine gg_goto (tgt := 34) dX1_weightOf_28 (by decide) ?_
          exact gg_lreturn dX1_weightOf_34 rfl ⟨(Nat.le_of_ble_eq_true rfl), (Nat.le_of_ble_eq_true rfl)⟩ (⟨rfl, rfl⟩)
abbrev lc_T : Type := (Nat → Int64) × (Nat → Option Nat) × Bool
def lcS (w : Nat → Nat → Int64) (a : Nat → Nat) (g h : Nat) (s : lc_T) : lc_T := if a h = 12 ∨ w g (a h) = -1 then s else if s.1 g + w g (a h) - w h (a h) < s.1 h then (vp_updL s.1 h (s.1 g + w g (a h) - w h (a h)), va_up s.2.1 h (some g), true) else s
def lcF (w : Nat → Nat → Int64) (a : Nat → Nat) (g : Nat) : Nat → lc_T → lc_T
  | 0, s => s
  | h + 1, s => lcS w a g h (lcF w a g h s)
theorem lc_loop {S0 : gl_H} {og tk : Int32} {w : Nat → Nat → Int64} {tks : Nat → Int32} {a : Nat → Nat} {g n : Nat} {s0 : lc_T} (hn : n < 10) (hg : g < 10) (ha : ∀ h, h < 10 → a h ≤ 12) (x : gl_X) : ∀ (m h : Nat), h + m = n → ∀ S, PM S og tk w tks (fun i => nI (a i)) (lcF w a g h s0).1 (fun i => oI ((lcF w a g h s0).2.1 i)) → Fr 12 30 S0 S → GG mX1_lengthenChains x (gl_Z mX1_lengthenChains x (fun r S1 => r = some (.int (bI (lcF w a g n s0).2.2)) ∧ PM S1 og tk w tks (fun i => nI (a i)) (lcF w a g n s0).1 (fun i => oI ((lcF w a g n s0).2.1 i)) ∧ Fr 12 30 S0 S1)) 5 [some (.ref 12), some (.int (nI g)), some (.int (nI n)), some (.int (bI (lcF w a g h s0).2.2)), some (.int (nI h)), none, none, none] [] S (0, 0) := by
  intro m
  induction m with
  | zero =>
    intro h hm S hp hf
    have e : h = n := by omega
    subst e
    generalize hs : lcF w a g h s0 = s at hp ⊢
    refine gg_iload dX1_lengthenChains_5 rfl ?_
    refine gg_iload_n dX1_lengthenChains_7 rfl rfl ?_
    refine gg_icmp_ge (tgt := 114) dX1_lengthenChains_8 (by decide) (fun c8 => ?_) (fun c8 => ?_)
    · refine gg_iload_n dX1_lengthenChains_114 rfl rfl ?_
      exact gg_ireturn dX1_lengthenChains_115 rfl (bI_nar _) ⟨(Nat.le_of_ble_eq_true rfl), (Nat.le_of_ble_eq_true rfl)⟩ (⟨rfl, hp, hf⟩)
    · exact absurd (nI_le (Nat.le_refl h) (by omega)) c8
  | succ m ih =>
    intro h hm S hp hf
    have hh : h < 10 := by omega
    have hah := ha h hh
    generalize hs : lcF w a g h s0 = s at hp ⊢
    refine gg_iload dX1_lengthenChains_5 rfl ?_
    refine gg_iload_n dX1_lengthenChains_7 rfl rfl ?_
    refine gg_icmp_ge (tgt := 114) dX1_lengthenChains_8 (by decide) (fun c8 => ?_) (fun c8 => ?_)
    · exact absurd (n_le c8) (by omega)
    · refine gg_iload dX1_lengthenChains_11 rfl ?_
      refine gg_bipush (v := 10) dX1_lengthenChains_13 (by decide) ?_
      refine gg_icmp_ge (tgt := 114) dX1_lengthenChains_15 (by decide) (fun c15 => ?_) (fun c15 => ?_)
      · exact absurd (n_le (a := 10) c15) (by omega)
      · refine gg_aload_n dX1_lengthenChains_18 rfl rfl ?_
        refine gf_X1_20 rfl dX1_lengthenChains_19 hp.1 rfl ?_
        refine gg_iload dX1_lengthenChains_22 rfl ?_
        refine gg_ald_i (h) dX1_lengthenChains_24 hp.2.2.2.2.1 rfl hh (by decide) ?_
        refine gg_istore dX1_lengthenChains_25 (Nat.le_of_ble_eq_true rfl) rfl ?_
        refine gg_iload dX1_lengthenChains_27 rfl ?_
        refine gg_bipush (v := 12) dX1_lengthenChains_29 (by decide) ?_
        refine gg_icmp_eq (tgt := 108) dX1_lengthenChains_31 (by decide) (fun c31 => ?_) (fun c31 => ?_)
        · have e : lcS w a g h s = s := if_pos (Or.inl (n_eq (b := 12) c31))
          refine gg_iinc (w := nI (h + 1)) dX1_lengthenChains_108 rfl (nI_1 h) (Nat.le_of_ble_eq_true rfl) rfl ?_
          refine gg_goto (tgt := 5) dX1_lengthenChains_111 (by decide) ?_
          have e3 : lcF w a g (h + 1) s0 = _ := (congrArg (lcS w a g h) hs).trans e
          refine gg_fg [true, true, true, true, true, false, false, false] ?_
          have h9 := ih (h + 1) (by omega) S
          rw [e3] at h9
          exact h9 hp hf
        · have c31 := n_ne (b := 12) c31
          refine gg_aload_n dX1_lengthenChains_34 rfl rfl ?_
          refine gg_iload_n dX1_lengthenChains_35 rfl rfl ?_
          refine gg_iload dX1_lengthenChains_36 rfl ?_
          refine gg_callV (sp_X1_weightOf hp hg (show a h < 13 by omega)) dX1_lengthenChains_38 kw_X1_66 rfl hp.1 rfl rfl (Nat.le_of_ble_eq_true rfl) (Nat.le_of_ble_eq_true rfl) (Nat.le_of_ble_eq_true rfl) ⟨(Nat.le_of_ble_eq_true rfl), (Nat.le_of_ble_eq_true rfl)⟩ (fun r S1 hq => ?_)
          refine gg_k (k2 := (0, 0)) rfl ?_
          obtain ⟨e9, rfl⟩ := hq
          rw [e9]
          clear e9 S1
          refine gg_ldc2 (v := -1) dX1_lengthenChains_41 kq_30 ?_
          refine gg_lcmp dX1_lengthenChains_44 ?_
          refine gg_if_ne (tgt := 51) dX1_lengthenChains_45 (by decide) (fun c45 => ?_) (fun c45 => ?_)
          · have c45 := lg_z _ _ c45
            refine gg_aload_n dX1_lengthenChains_51 rfl rfl ?_
            refine gf_X1_23 rfl dX1_lengthenChains_52 hp.1 rfl ?_
            refine gg_iload_n dX1_lengthenChains_55 rfl rfl ?_
            refine gg_ald_l (g) dX1_lengthenChains_56 hp.2.2.2.2.2.1 rfl hg (by decide) ?_
            refine gg_aload_n dX1_lengthenChains_57 rfl rfl ?_
            refine gg_iload_n dX1_lengthenChains_58 rfl rfl ?_
            refine gg_iload dX1_lengthenChains_59 rfl ?_
            refine gg_callV (sp_X1_weightOf hp hg (show a h < 13 by omega)) dX1_lengthenChains_61 kw_X1_66 rfl hp.1 rfl rfl (Nat.le_of_ble_eq_true rfl) (Nat.le_of_ble_eq_true rfl) (Nat.le_of_ble_eq_true rfl) ⟨(Nat.le_of_ble_eq_true rfl), (Nat.le_of_ble_eq_true rfl)⟩ (fun r S1 hq => ?_)
            refine gg_k (k2 := (0, 0)) rfl ?_
            obtain ⟨e9, rfl⟩ := hq
            rw [e9]
            clear e9 S1
            refine gg_ladd dX1_lengthenChains_64 ?_
            refine gg_aload_n dX1_lengthenChains_65 rfl rfl ?_
            refine gg_iload dX1_lengthenChains_66 rfl ?_
            refine gg_iload dX1_lengthenChains_68 rfl ?_
            refine gg_callV (sp_X1_weightOf hp hh (show a h < 13 by omega)) dX1_lengthenChains_70 kw_X1_66 rfl hp.1 rfl rfl (Nat.le_of_ble_eq_true rfl) (Nat.le_of_ble_eq_true rfl) (Nat.le_of_ble_eq_true rfl) ⟨(Nat.le_of_ble_eq_true rfl), (Nat.le_of_ble_eq_true rfl)⟩ (fun r S1 hq => ?_)
            refine gg_k (k2 := (0, 0)) rfl ?_
            obtain ⟨e9, rfl⟩ := hq
            rw [e9]
            clear e9 S1
            refine gg_lsub dX1_lengthenChains_73 ?_
            refine gg_lstore dX1_lengthenChains_74 (Nat.le_of_ble_eq_true rfl) rfl ?_
            refine gg_lload dX1_lengthenChains_76 rfl ?_
            refine gg_aload_n dX1_lengthenChains_78 rfl rfl ?_
            refine gf_X1_23 rfl dX1_lengthenChains_79 hp.1 rfl ?_
            refine gg_iload dX1_lengthenChains_82 rfl ?_
            refine gg_ald_l (h) dX1_lengthenChains_84 hp.2.2.2.2.2.1 rfl hh (by decide) ?_
            refine gg_lcmp dX1_lengthenChains_85 ?_
            refine gg_if_ge (tgt := 108) dX1_lengthenChains_86 (by decide) (fun c86 => ?_) (fun c86 => ?_)
            · have e : lcS w a g h s = s := (if_neg (fun q => q.elim c31 c45)).trans (if_neg (Int64.not_lt.mpr ((lg_cmp_ge _ _).mp c86)))
              refine gg_iinc (w := nI (h + 1)) dX1_lengthenChains_108 rfl (nI_1 h) (Nat.le_of_ble_eq_true rfl) rfl ?_
              refine gg_goto (tgt := 5) dX1_lengthenChains_111 (by decide) ?_
              have e3 : lcF w a g (h + 1) s0 = _ := (congrArg (lcS w a g h) hs).trans e
              refine gg_fg [true, true, true, true, true, false, false, false] ?_
              have h9 := ih (h + 1) (by omega) S
              rw [e3] at h9
              exact h9 hp hf
            · have e : lcS w a g h s = (vp_updL s.1 h (s.1 g + w g (a h) - w h (a h)), va_up s.2.1 h (some g), true) := (if_neg (fun q => q.elim c31 c45)).trans (if_pos (Int64.not_le.mp (fun q => c86 ((lg_cmp_ge _ _).mpr q))))
              refine gg_aload_n dX1_lengthenChains_89 rfl rfl ?_
              refine gf_X1_23 rfl dX1_lengthenChains_90 hp.1 rfl ?_
              refine gg_iload dX1_lengthenChains_93 rfl ?_
              refine gg_lload dX1_lengthenChains_95 rfl ?_
              refine gg_ast_l (h) dX1_lengthenChains_97 hp.2.2.2.2.2.1 rfl hh (by decide) ?_
              refine PMs_tl hp hf (fun S hp hf => ?_)
              refine gg_aload_n dX1_lengthenChains_98 rfl rfl ?_
              refine gf_X1_27 rfl dX1_lengthenChains_99 hp.1 rfl ?_
              refine gg_iload dX1_lengthenChains_102 rfl ?_
              refine gg_iload_n dX1_lengthenChains_104 rfl rfl ?_
              refine gg_ast_i (h) dX1_lengthenChains_105 hp.2.2.2.2.2.2 rfl hh (by decide) ?_
              refine PMs_lt hp hf (fun S hp hf => ?_)
              rw [show upd (fun i => oI (s.2.1 i)) h (nI g) = fun i => oI (va_up s.2.1 h (some g) i) from upd_F oI s.2.1 h (some g)] at hp
              refine gg_iconst (v := 1) dX1_lengthenChains_106 (by decide) ?_
              refine gg_istore_n dX1_lengthenChains_107 rfl (Nat.le_of_ble_eq_true rfl) rfl ?_
              refine gg_iinc (w := nI (h + 1)) dX1_lengthenChains_108 rfl (nI_1 h) (Nat.le_of_ble_eq_true rfl) rfl ?_
              refine gg_goto (tgt := 5) dX1_lengthenChains_111 (by decide) ?_
              have e3 : lcF w a g (h + 1) s0 = _ := (congrArg (lcS w a g h) hs).trans e
              refine gg_fg [true, true, true, true, true, false, false, false] ?_
              have h9 := ih (h + 1) (by omega) S
              rw [e3] at h9
              exact h9 hp hf
          · have e : lcS w a g h s = s := if_pos (Or.inr ((lg_cmp_eq _ _).mp c45))
            refine gg_goto (tgt := 108) dX1_lengthenChains_48 (by decide) ?_
            refine gg_iinc (w := nI (h + 1)) dX1_lengthenChains_108 rfl (nI_1 h) (Nat.le_of_ble_eq_true rfl) rfl ?_
            refine gg_goto (tgt := 5) dX1_lengthenChains_111 (by decide) ?_
            have e3 : lcF w a g (h + 1) s0 = _ := (congrArg (lcS w a g h) hs).trans e
            refine gg_fg [true, true, true, true, true, false, false, false] ?_
            have h9 := ih (h + 1) (by omega) S
            rw [e3] at h9
            exact h9 hp hf
theorem sp_X1_lengthenChains {S : gl_H} {og tk : Int32} {w : Nat → Nat → Int64} {tks : Nat → Int32} {a : Nat → Nat} {tl : Nat → Int64} {par : Nat → Option Nat} (hp : PM S og tk w tks (fun i => nI (a i)) tl (fun i => oI (par i))) {g n : Nat} (hn : n < 10) (hg : g < 10) (ha : ∀ h, h < 10 → a h ≤ 12) : Sp mX1_lengthenChains yX1_lengthenChains [.ref 12, .int (nI g), .int (nI n)] S (fun r S1 => r = some (.int (bI (lcF w a g n (tl, par, false)).2.2)) ∧ PM S1 og tk w tks (fun i => nI (a i)) (lcF w a g n (tl, par, false)).1 (fun i => oI ((lcF w a g n (tl, par, false)).2.1 i)) ∧ Fr 12 30 S S1) := by
  refine gl_enter (j := 5) (by decide +kernel) rfl (fun h => absurd h (by decide)) (Nat.le_of_ble_eq_true rfl) rfl (fun x => ?_)
  refine gg_iconst (v := 0) dX1_lengthenChains_0 (by decide) ?_
  refine gg_istore_n dX1_lengthenChains_1 rfl (Nat.le_of_ble_eq_true rfl) rfl ?_
  refine gg_iconst (v := 0) dX1_lengthenChains_2 (by decide) ?_
  refine gg_istore dX1_lengthenChains_3 (Nat.le_of_ble_eq_true rfl) rfl ?_
  exact lc_loop (s0 := (tl, par, false)) hn hg ha x n 0 (by omega) S hp Fr.rf
