/-! the chains, the cheapest end, the shift, a gap comes in, the match -/
def frS (w : Nat → Nat → Int64) (a : Nat → Nat) (n g : Nat) (s : lc_T) : lc_T := if s.1 g = mFAR then s else ((lcF w a g n (s.1, s.2.1, false)).1, (lcF w a g n (s.1, s.2.1, false)).2.1, (lcF w a g n (s.1, s.2.1, false)).2.2 || s.2.2)
def frF (w : Nat → Nat → Int64) (a : Nat → Nat) (n : Nat) : Nat → lc_T → lc_T
  | 0, s => s
  | g + 1, s => frS w a n g (frF w a n g s)
def rdS (w : Nat → Nat → Int64) (a : Nat → Nat) (n : Nat) (s : lc_T) : lc_T := if s.2.2 then frF w a n (n + 1) (s.1, s.2.1, false) else s
def rdF (w : Nat → Nat → Int64) (a : Nat → Nat) (n : Nat) : Nat → lc_T → lc_T
  | 0, s => s
  | r + 1, s => rdS w a n (rdF w a n r s)
theorem rdF_stop {w : Nat → Nat → Int64} {a : Nat → Nat} {n r : Nat} {s : lc_T} (h : (rdF w a n r s).2.2 = false) : ∀ m, rdF w a n (r + m) s = rdF w a n r s
  | 0 => rfl
  | m + 1 => by
    show rdS w a n (rdF w a n (r + m) s) = _
    rw [rdF_stop h m, rdS, h]
    rfl
theorem bI_z {b : Bool} (h : bI b = 0) : b = false := by
  cases b with
  | false => rfl
  | true => exact absurd h (by decide)
theorem bI_nz {b : Bool} (h : ¬ bI b = 0) : b = true := by
  cases b with
  | true => rfl
  | false => exact absurd rfl h
theorem fillN_F {α : Type} (F : α → Int32) (p : Nat → α) (n : Nat) (v : α) : fillN (fun i => F (p i)) n (F v) = fun i => F (fillN p n v i) := funext (fun j => by
  unfold fillN
  by_cases h : j < n
  · rw [if_pos h, if_pos h]
  · rw [if_neg h, if_neg h])
theorem fc_in {S0 : gl_H} {og tk : Int32} {w : Nat → Nat → Int64} {tks : Nat → Int32} {a : Nat → Nat} {n rd : Nat} {s0 : lc_T} {Z : State → Prop} (hn : n < 10) (ha : ∀ h, h < 10 → a h ≤ 12) (x : gl_X) (K : ∀ S, PM S og tk w tks (fun i => nI (a i)) (frF w a n (n + 1) s0).1 (fun i => oI ((frF w a n (n + 1) s0).2.1 i)) → Fr 12 30 S0 S → GG mX1_findChains x Z 89 [some (.ref 12), some (.int (nI n)), some (.int (bI (frF w a n (n + 1) s0).2.2)), some (.int (nI rd)), none] [] S (0, 0)) : ∀ (m g : Nat), g + m = n + 1 → ∀ S, PM S og tk w tks (fun i => nI (a i)) (frF w a n g s0).1 (fun i => oI ((frF w a n g s0).2.1 i)) → Fr 12 30 S0 S → GG mX1_findChains x Z 44 [some (.ref 12), some (.int (nI n)), some (.int (bI (frF w a n g s0).2.2)), some (.int (nI rd)), some (.int (nI g))] [] S (0, 0) := by
  intro m
  induction m with
  | zero =>
    intro g hm S hp hf
    have e : g = n + 1 := by omega
    subst e
    refine gg_iload dX1_findChains_44 rfl ?_
    refine gg_iload_n dX1_findChains_46 rfl rfl ?_
    refine gg_icmp_gt (tgt := 89) dX1_findChains_47 (by decide) (fun c47 => ?_) (fun c47 => ?_)
    · refine gg_fg [true, true, true, true, false] ?_
      exact K S hp hf
    · exact absurd (nI_lt (Nat.lt_succ_self n) (by omega)) c47
  | succ m ih =>
    intro g hm S hp hf
    have hg : g < 10 := by omega
    generalize hs : frF w a n g s0 = s at hp ⊢
    refine gg_iload dX1_findChains_44 rfl ?_
    refine gg_iload_n dX1_findChains_46 rfl rfl ?_
    refine gg_icmp_gt (tgt := 89) dX1_findChains_47 (by decide) (fun c47 => ?_) (fun c47 => ?_)
    · exact absurd (n_lt c47) (by omega)
    · refine gg_iload dX1_findChains_50 rfl ?_
      refine gg_bipush (v := 10) dX1_findChains_52 (by decide) ?_
      refine gg_icmp_ge (tgt := 89) dX1_findChains_54 (by decide) (fun c54 => ?_) (fun c54 => ?_)
      · exact absurd (n_le (a := 10) c54) (by omega)
      · refine gg_aload_n dX1_findChains_57 rfl rfl ?_
        refine gf_X1_23 rfl dX1_findChains_58 hp.1 rfl ?_
        refine gg_iload dX1_findChains_61 rfl ?_
        refine gg_ald_l (g) dX1_findChains_63 hp.2.2.2.2.2.1 rfl hg (by decide) ?_
        refine gg_ldc2 (v := mFAR) dX1_findChains_64 kq_81 ?_
        refine gg_lcmp dX1_findChains_67 ?_
        refine gg_if_eq (tgt := 83) dX1_findChains_68 (by decide) (fun c68 => ?_) (fun c68 => ?_)
        · have e : frS w a n g s = s := if_pos ((lg_cmp_eq _ _).mp c68)
          refine gg_iinc (w := nI (g + 1)) dX1_findChains_83 rfl (nI_1 g) (Nat.le_of_ble_eq_true rfl) rfl ?_
          refine gg_goto (tgt := 44) dX1_findChains_86 (by decide) ?_
          have e3 : frF w a n (g + 1) s0 = _ := (congrArg (frS w a n g) hs).trans e
          have h9 := ih (g + 1) (by omega) S
          rw [e3] at h9
          exact h9 hp hf
        · have c68 := lg_z _ _ c68
          refine gg_aload_n dX1_findChains_71 rfl rfl ?_
          refine gg_iload dX1_findChains_72 rfl ?_
          refine gg_iload_n dX1_findChains_74 rfl rfl ?_
          refine gg_callV (sp_X1_lengthenChains hp hn hg ha) dX1_findChains_75 kw_X1_90 rfl hp.1 rfl rfl (Nat.le_of_ble_eq_true rfl) (Nat.le_of_ble_eq_true rfl) (Nat.le_of_ble_eq_true rfl) ⟨(Nat.le_of_ble_eq_true rfl), (Nat.le_of_ble_eq_true rfl)⟩ (fun r S1 hq => ?_)
          refine gg_k (k2 := (0, 0)) rfl ?_
          obtain ⟨rfl, hp, hf1⟩ := hq
          have hf := hf.tr hf1
          clear hf1
          generalize hr : lcF w a g n (s.1, s.2.1, false) = r at hp ⊢
          revert S1
          intro S hf hp
          refine gg_if_eq (tgt := 83) dX1_findChains_78 (by decide) (fun c78 => ?_) (fun c78 => ?_)
          · have e : frS w a n g s = (r.1, r.2.1, s.2.2) := (if_neg c68).trans (by rw [hr, bI_z c78]; rfl)
            refine gg_iinc (w := nI (g + 1)) dX1_findChains_83 rfl (nI_1 g) (Nat.le_of_ble_eq_true rfl) rfl ?_
            refine gg_goto (tgt := 44) dX1_findChains_86 (by decide) ?_
            have e3 : frF w a n (g + 1) s0 = _ := (congrArg (frS w a n g) hs).trans e
            have h9 := ih (g + 1) (by omega) S
            rw [e3] at h9
            exact h9 hp hf
          · have e : frS w a n g s = (r.1, r.2.1, true) := (if_neg c68).trans (by rw [hr, bI_nz c78]; rfl)
            refine gg_iconst (v := 1) dX1_findChains_81 (by decide) ?_
            refine gg_istore_n dX1_findChains_82 rfl (Nat.le_of_ble_eq_true rfl) rfl ?_
            refine gg_iinc (w := nI (g + 1)) dX1_findChains_83 rfl (nI_1 g) (Nat.le_of_ble_eq_true rfl) rfl ?_
            refine gg_goto (tgt := 44) dX1_findChains_86 (by decide) ?_
            have e3 : frF w a n (g + 1) s0 = _ := (congrArg (frS w a n g) hs).trans e
            have h9 := ih (g + 1) (by omega) S
            rw [e3] at h9
            exact h9 hp hf
theorem fc_out {S0 : gl_H} {og tk : Int32} {w : Nat → Nat → Int64} {tks : Nat → Int32} {a : Nat → Nat} {n : Nat} {s0 : lc_T} (hn : n < 10) (ha : ∀ h, h < 10 → a h ≤ 12) (x : gl_X) : ∀ (m rd : Nat), rd + m = 10 → ∀ S, PM S og tk w tks (fun i => nI (a i)) (rdF w a n rd s0).1 (fun i => oI ((rdF w a n rd s0).2.1 i)) → Fr 12 30 S0 S → GG mX1_findChains x (gl_Z mX1_findChains x (fun r S1 => r = none ∧ PM S1 og tk w tks (fun i => nI (a i)) (rdF w a n 10 s0).1 (fun i => oI ((rdF w a n 10 s0).2.1 i)) ∧ Fr 12 30 S0 S1)) 29 [some (.ref 12), some (.int (nI n)), some (.int (bI (rdF w a n rd s0).2.2)), some (.int (nI rd)), none] [] S (0, 0) := by
  intro m
  induction m with
  | zero =>
    intro rd hm S hp hf
    have e : rd = 10 := by omega
    subst e
    refine gg_iload_n dX1_findChains_29 rfl rfl ?_
    refine gg_bipush (v := 10) dX1_findChains_30 (by decide) ?_
    refine gg_icmp_ge (tgt := 95) dX1_findChains_32 (by decide) (fun c32 => ?_) (fun c32 => ?_)
    · exact gg_return dX1_findChains_95 rfl ⟨(Nat.le_of_ble_eq_true rfl), (Nat.le_of_ble_eq_true rfl)⟩ (⟨rfl, hp, hf⟩)
    · exact absurd (nI_le (Nat.le_refl 10) (by omega)) c32
  | succ m ih =>
    intro rd hm S hp hf
    refine gg_iload_n dX1_findChains_29 rfl rfl ?_
    refine gg_bipush (v := 10) dX1_findChains_30 (by decide) ?_
    refine gg_icmp_ge (tgt := 95) dX1_findChains_32 (by decide) (fun c32 => ?_) (fun c32 => ?_)
    · exact absurd (n_le (a := 10) c32) (by omega)
    · refine gg_iload_n dX1_findChains_35 rfl rfl ?_
      refine gg_if_eq (tgt := 95) dX1_findChains_36 (by decide) (fun c36 => ?_) (fun c36 => ?_)
      · have c36 := bI_z c36
        have e4 := rdF_stop c36 (m + 1)
        rw [hm] at e4
        exact gg_return dX1_findChains_95 rfl ⟨(Nat.le_of_ble_eq_true rfl), (Nat.le_of_ble_eq_true rfl)⟩ (⟨rfl, by rw [e4]; exact hp, hf⟩)
      · have c36 := bI_nz c36
        refine gg_iconst (v := 0) dX1_findChains_39 (by decide) ?_
        refine gg_istore_n dX1_findChains_40 rfl (Nat.le_of_ble_eq_true rfl) rfl ?_
        refine gg_iconst (v := 0) dX1_findChains_41 (by decide) ?_
        refine gg_istore dX1_findChains_42 (Nat.le_of_ble_eq_true rfl) rfl ?_
        refine fc_in (S0 := S0) (s0 := ((rdF w a n rd s0).1, (rdF w a n rd s0).2.1, false)) hn ha x (fun S hp hf => ?_) (n + 1) 0 (by omega) S hp hf
        refine gg_iinc (w := nI (rd + 1)) dX1_findChains_89 rfl (nI_1 rd) (Nat.le_of_ble_eq_true rfl) rfl ?_
        refine gg_goto (tgt := 29) dX1_findChains_92 (by decide) ?_
        have e3 : rdF w a n (rd + 1) s0 = frF w a n (n + 1) ((rdF w a n rd s0).1, (rdF w a n rd s0).2.1, false) := by
          show rdS w a n (rdF w a n rd s0) = _
          rw [rdS, if_pos c36]
        have h9 := ih (rd + 1) (by omega) S
        rw [e3] at h9
        exact h9 hp hf
def s0F (tl : Nat → Int64) (par : Nat → Option Nat) (n : Nat) : lc_T := (vp_updL (fillN tl 10 mFAR) n 0, fillN par 10 none, true)
theorem sp_X1_findChains {S : gl_H} {og tk : Int32} {w : Nat → Nat → Int64} {tks : Nat → Int32} {a : Nat → Nat} {tl : Nat → Int64} {par : Nat → Option Nat} (hp : PM S og tk w tks (fun i => nI (a i)) tl (fun i => oI (par i))) {n : Nat} (hn : n < 10) (ha : ∀ h, h < 10 → a h ≤ 12) : Sp mX1_findChains yX1_findChains [.ref 12, .int (nI n)] S (fun r S1 => r = none ∧ PM S1 og tk w tks (fun i => nI (a i)) (rdF w a n 10 (s0F tl par n)).1 (fun i => oI ((rdF w a n 10 (s0F tl par n)).2.1 i)) ∧ Fr 12 30 S S1) := by
  refine gl_enter (j := 3) (by decide +kernel) rfl (fun h => absurd h (by decide)) (Nat.le_of_ble_eq_true rfl) rfl (fun x => ?_)
  have hf : Fr 12 30 S S := Fr.rf
  refine gg_aload_n dX1_findChains_0 rfl rfl ?_
  refine gf_X1_23 rfl dX1_findChains_1 hp.1 rfl ?_
  refine gg_ldc2 (v := mFAR) dX1_findChains_4 kq_81 ?_
  refine gg_callS (sp_J7_fill_d0a16 (by decide) hp.2.2.2.2.2.1 mFAR) dX1_findChains_7 kw_X1_32 rfl rfl (Nat.le_of_ble_eq_true rfl) (Nat.le_of_ble_eq_true rfl) (Nat.le_of_ble_eq_true rfl) ⟨(Nat.le_of_ble_eq_true rfl), (Nat.le_of_ble_eq_true rfl)⟩ (fun r S1 hq => ?_)
  refine gg_k (k2 := (0, 0)) rfl ?_
  obtain ⟨rfl, e9⟩ := hq
  rw [e9]
  clear e9 S1
  refine PMs_tl hp hf (fun S hp hf => ?_)
  refine gg_aload_n dX1_findChains_10 rfl rfl ?_
  refine gf_X1_27 rfl dX1_findChains_11 hp.1 rfl ?_
  refine gg_iconst (v := -1) dX1_findChains_14 (by decide) ?_
  refine gg_callS (sp_J7_fill_53178 (by decide) hp.2.2.2.2.2.2 (-1)) dX1_findChains_15 kw_X1_38 rfl rfl (Nat.le_of_ble_eq_true rfl) (Nat.le_of_ble_eq_true rfl) (Nat.le_of_ble_eq_true rfl) ⟨(Nat.le_of_ble_eq_true rfl), (Nat.le_of_ble_eq_true rfl)⟩ (fun r S1 hq => ?_)
  refine gg_k (k2 := (0, 0)) rfl ?_
  obtain ⟨rfl, e9⟩ := hq
  rw [e9]
  clear e9 S1
  refine PMs_lt hp hf (fun S hp hf => ?_)
  rw [show fillN (fun i => oI (par i)) 10 (-1) = fun i => oI (fillN par 10 none i) from fillN_F oI par 10 none] at hp
  refine gg_aload_n dX1_findChains_18 rfl rfl ?_
  refine gf_X1_23 rfl dX1_findChains_19 hp.1 rfl ?_
  refine gg_iload_n dX1_findChains_22 rfl rfl ?_
  refine gg_lconst (v := 0) dX1_findChains_23 (by decide) ?_
  refine gg_ast_l (n) dX1_findChains_24 hp.2.2.2.2.2.1 rfl hn (by decide) ?_
  refine PMs_tl hp hf (fun S hp hf => ?_)
  refine gg_iconst (v := 1) dX1_findChains_25 (by decide) ?_
  refine gg_istore_n dX1_findChains_26 rfl (Nat.le_of_ble_eq_true rfl) rfl ?_
  refine gg_iconst (v := 0) dX1_findChains_27 (by decide) ?_
  refine gg_istore_n dX1_findChains_28 rfl (Nat.le_of_ble_eq_true rfl) rfl ?_
  exact fc_out (s0 := s0F tl par n) hn ha x 10 0 rfl S hp hf
def ceS (w : Nat → Nat → Int64) (tk : Int32) (g t b : Nat) : Nat := if w g t ≠ -1 ∧ hb_ tk (nI t) = false ∧ w g t < w g b then t else b
def ceF (w : Nat → Nat → Int64) (tk : Int32) (g : Nat) : Nat → Nat
  | 0 => 12
  | t + 1 => ceS w tk g t (ceF w tk g t)
theorem ceF_le (w : Nat → Nat → Int64) (tk : Int32) (g : Nat) : ∀ t, t ≤ 12 → ceF w tk g t ≤ 12
  | 0, _ => Nat.le_refl 12
  | t + 1, h => by
    show ceS w tk g t (ceF w tk g t) ≤ 12
    unfold ceS
    by_cases c : w g t ≠ -1 ∧ hb_ tk (nI t) = false ∧ w g t < w g (ceF w tk g t)
    · rw [if_pos c]; omega
    · rw [if_neg c]; exact ceF_le w tk g t (by omega)
theorem ce_loop {S : gl_H} {og tk : Int32} {w : Nat → Nat → Int64} {tks to : Nat → Int32} {tl : Nat → Int64} {lt : Nat → Int32} {g : Nat} (hg : g < 10) (hp : PM S og tk w tks to tl lt) (x : gl_X) : ∀ (m t : Nat), t + m = 12 → GG mX1_cheapestEnd x (gl_Z mX1_cheapestEnd x (fun r S1 => S1 = S ∧ r = some (.int (nI (ceF w tk g 12))))) 5 [some (.ref 12), some (.int (nI g)), some (.int (nI (ceF w tk g t))), some (.int (nI t)), none] [] S (0, 0) := by
  intro m
  induction m with
  | zero =>
    intro t hm
    have e : t = 12 := by omega
    subst e
    refine gg_iload_n dX1_cheapestEnd_5 rfl rfl ?_
    refine gg_bipush (v := 12) dX1_cheapestEnd_6 (by decide) ?_
    refine gg_icmp_ge (tgt := 71) dX1_cheapestEnd_8 (by decide) (fun c8 => ?_) (fun c8 => ?_)
    · refine gg_iload_n dX1_cheapestEnd_71 rfl rfl ?_
      exact gg_ireturn dX1_cheapestEnd_72 rfl rfl ⟨(Nat.le_of_ble_eq_true rfl), (Nat.le_of_ble_eq_true rfl)⟩ (⟨rfl, rfl⟩)
    · exact absurd (nI_le (Nat.le_refl 12) (by omega)) c8
  | succ m ih =>
    intro t hm
    have ht : t < 12 := by omega
    have hb := ceF_le w tk g t (by omega)
    generalize hs : ceF w tk g t = b at hb ⊢
    refine gg_iload_n dX1_cheapestEnd_5 rfl rfl ?_
    refine gg_bipush (v := 12) dX1_cheapestEnd_6 (by decide) ?_
    refine gg_icmp_ge (tgt := 71) dX1_cheapestEnd_8 (by decide) (fun c8 => ?_) (fun c8 => ?_)
    · exact absurd (n_le (a := 12) c8) (by omega)
    · refine gg_aload_n dX1_cheapestEnd_11 rfl rfl ?_
      refine gg_iload_n dX1_cheapestEnd_12 rfl rfl ?_
      refine gg_iload_n dX1_cheapestEnd_13 rfl rfl ?_
      refine gg_callV (sp_X1_weightOf hp hg (show t < 13 by omega)) dX1_cheapestEnd_14 kw_X1_66 rfl hp.1 rfl rfl (Nat.le_of_ble_eq_true rfl) (Nat.le_of_ble_eq_true rfl) (Nat.le_of_ble_eq_true rfl) ⟨(Nat.le_of_ble_eq_true rfl), (Nat.le_of_ble_eq_true rfl)⟩ (fun r S1 hq => ?_)
      refine gg_k (k2 := (0, 0)) rfl ?_
      obtain ⟨e9, rfl⟩ := hq
      rw [e9]
      clear e9 S1
      refine gg_ldc2 (v := -1) dX1_cheapestEnd_17 kq_30 ?_
      refine gg_lcmp dX1_cheapestEnd_20 ?_
      refine gg_if_eq (tgt := 39) dX1_cheapestEnd_21 (by decide) (fun c21 => ?_) (fun c21 => ?_)
      · have c21 := (lg_cmp_eq _ _).mp c21
        have e : ceS w tk g t b = b := if_neg (fun q => q.1 c21)
        refine gg_iconst (v := 0) dX1_cheapestEnd_39 (by decide) ?_
        refine gg_istore dX1_cheapestEnd_40 (Nat.le_of_ble_eq_true rfl) rfl ?_
        refine gg_iload dX1_cheapestEnd_42 rfl ?_
        refine gg_if_eq (tgt := 65) dX1_cheapestEnd_44 (by decide) (fun _ => ?_) (fun h => absurd rfl h)
        refine gg_iinc (w := nI (t + 1)) dX1_cheapestEnd_65 rfl (nI_1 t) (Nat.le_of_ble_eq_true rfl) rfl ?_
        refine gg_goto (tgt := 5) dX1_cheapestEnd_68 (by decide) ?_
        have e3 : ceF w tk g (t + 1) = _ := (congrArg (ceS w tk g t) hs).trans e
        refine gg_fg [true, true, true, true, false] ?_
        have h9 := ih (t + 1) (by omega)
        rw [e3] at h9
        exact h9
      · have c21 := lg_z _ _ c21
        refine gg_aload_n dX1_cheapestEnd_24 rfl rfl ?_
        refine gf_X1_45 rfl dX1_cheapestEnd_25 hp.1 rfl ?_
        refine gg_iload_n dX1_cheapestEnd_28 rfl rfl ?_
        refine gg_callSN (host := RX6) (sp_X6_hasBit S tk (nI t)) dX1_cheapestEnd_29 (fun _ _ _ _ h => h.2.2.2.2.2.2.2.2.2) kw_X1_58 rfl rfl (Nat.le_of_ble_eq_true rfl) (Nat.le_of_ble_eq_true rfl) (Nat.le_of_ble_eq_true rfl) ⟨(Nat.le_of_ble_eq_true rfl), (Nat.le_of_ble_eq_true rfl)⟩ (fun r S1 hq => ?_)
        refine gg_k (k2 := (0, 0)) rfl ?_
        obtain ⟨e9, rfl⟩ := hq
        rw [e9]
        clear e9 S1
        refine gg_if_ne (tgt := 39) dX1_cheapestEnd_32 (by decide) (fun c32 => ?_) (fun c32 => ?_)
        · have c32 := bI_nz c32
          have e : ceS w tk g t b = b := if_neg (fun q => by rw [c32] at q; cases q.2.1)
          refine gg_iconst (v := 0) dX1_cheapestEnd_39 (by decide) ?_
          refine gg_istore dX1_cheapestEnd_40 (Nat.le_of_ble_eq_true rfl) rfl ?_
          refine gg_iload dX1_cheapestEnd_42 rfl ?_
          refine gg_if_eq (tgt := 65) dX1_cheapestEnd_44 (by decide) (fun _ => ?_) (fun h => absurd rfl h)
          refine gg_iinc (w := nI (t + 1)) dX1_cheapestEnd_65 rfl (nI_1 t) (Nat.le_of_ble_eq_true rfl) rfl ?_
          refine gg_goto (tgt := 5) dX1_cheapestEnd_68 (by decide) ?_
          have e3 : ceF w tk g (t + 1) = _ := (congrArg (ceS w tk g t) hs).trans e
          refine gg_fg [true, true, true, true, false] ?_
          have h9 := ih (t + 1) (by omega)
          rw [e3] at h9
          exact h9
        · have c32 : hb_ tk (nI t) = false := bI_z c32
          refine gg_iconst (v := 1) dX1_cheapestEnd_35 (by decide) ?_
          refine gg_goto (tgt := 40) dX1_cheapestEnd_36 (by decide) ?_
          refine gg_istore dX1_cheapestEnd_40 (Nat.le_of_ble_eq_true rfl) rfl ?_
          refine gg_iload dX1_cheapestEnd_42 rfl ?_
          refine gg_if_eq (tgt := 65) dX1_cheapestEnd_44 (by decide) (fun h => absurd h (by decide)) (fun _ => ?_)
          refine gg_aload_n dX1_cheapestEnd_47 rfl rfl ?_
          refine gg_iload_n dX1_cheapestEnd_48 rfl rfl ?_
          refine gg_iload_n dX1_cheapestEnd_49 rfl rfl ?_
          refine gg_callV (sp_X1_weightOf hp hg (show t < 13 by omega)) dX1_cheapestEnd_50 kw_X1_66 rfl hp.1 rfl rfl (Nat.le_of_ble_eq_true rfl) (Nat.le_of_ble_eq_true rfl) (Nat.le_of_ble_eq_true rfl) ⟨(Nat.le_of_ble_eq_true rfl), (Nat.le_of_ble_eq_true rfl)⟩ (fun r S1 hq => ?_)
          refine gg_k (k2 := (0, 0)) rfl ?_
          obtain ⟨e9, rfl⟩ := hq
          rw [e9]
          clear e9 S1
          refine gg_aload_n dX1_cheapestEnd_53 rfl rfl ?_
          refine gg_iload_n dX1_cheapestEnd_54 rfl rfl ?_
          refine gg_iload_n dX1_cheapestEnd_55 rfl rfl ?_
          refine gg_callV (sp_X1_weightOf hp hg (show b < 13 by omega)) dX1_cheapestEnd_56 kw_X1_66 rfl hp.1 rfl rfl (Nat.le_of_ble_eq_true rfl) (Nat.le_of_ble_eq_true rfl) (Nat.le_of_ble_eq_true rfl) ⟨(Nat.le_of_ble_eq_true rfl), (Nat.le_of_ble_eq_true rfl)⟩ (fun r S1 hq => ?_)
          refine gg_k (k2 := (0, 0)) rfl ?_
          obtain ⟨e9, rfl⟩ := hq
          rw [e9]
          clear e9 S1
          refine gg_lcmp dX1_cheapestEnd_59 ?_
          refine gg_if_ge (tgt := 65) dX1_cheapestEnd_60 (by decide) (fun c60 => ?_) (fun c60 => ?_)
          · have e : ceS w tk g t b = b := if_neg (fun q => Int64.not_lt.mpr ((lg_cmp_ge _ _).mp c60) q.2.2)
            refine gg_iinc (w := nI (t + 1)) dX1_cheapestEnd_65 rfl (nI_1 t) (Nat.le_of_ble_eq_true rfl) rfl ?_
            refine gg_goto (tgt := 5) dX1_cheapestEnd_68 (by decide) ?_
            have e3 : ceF w tk g (t + 1) = _ := (congrArg (ceS w tk g t) hs).trans e
            refine gg_fg [true, true, true, true, false] ?_
            have h9 := ih (t + 1) (by omega)
            rw [e3] at h9
            exact h9
          · have e : ceS w tk g t b = t := if_pos ⟨c21, c32, Int64.not_le.mp (fun q => c60 ((lg_cmp_ge _ _).mpr q))⟩
            refine gg_iload_n dX1_cheapestEnd_63 rfl rfl ?_
            refine gg_istore_n dX1_cheapestEnd_64 rfl (Nat.le_of_ble_eq_true rfl) rfl ?_
            refine gg_iinc (w := nI (t + 1)) dX1_cheapestEnd_65 rfl (nI_1 t) (Nat.le_of_ble_eq_true rfl) rfl ?_
            refine gg_goto (tgt := 5) dX1_cheapestEnd_68 (by decide) ?_
            have e3 : ceF w tk g (t + 1) = _ := (congrArg (ceS w tk g t) hs).trans e
            refine gg_fg [true, true, true, true, false] ?_
            have h9 := ih (t + 1) (by omega)
            rw [e3] at h9
            exact h9
theorem sp_X1_cheapestEnd {S : gl_H} {og tk : Int32} {w : Nat → Nat → Int64} {tks to : Nat → Int32} {tl : Nat → Int64} {lt : Nat → Int32} {g : Nat} (hg : g < 10) (hp : PM S og tk w tks to tl lt) : Sp mX1_cheapestEnd yX1_cheapestEnd [.ref 12, .int (nI g)] S (fun r S1 => S1 = S ∧ r = some (.int (nI (ceF w tk g 12)))) := by
  refine gl_enter (j := 3) (by decide +kernel) rfl (fun h => absurd h (by decide)) (Nat.le_of_ble_eq_true rfl) rfl (fun x => ?_)
  refine gg_bipush (v := 12) dX1_cheapestEnd_0 (by decide) ?_
  refine gg_istore_n dX1_cheapestEnd_2 rfl (Nat.le_of_ble_eq_true rfl) rfl ?_
  refine gg_iconst (v := 0) dX1_cheapestEnd_3 (by decide) ?_
  refine gg_istore_n dX1_cheapestEnd_4 rfl (Nat.le_of_ble_eq_true rfl) rfl ?_
  exact ce_loop hg hp x 12 0 rfl
