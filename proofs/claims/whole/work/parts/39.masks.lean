/-! THE MODEL: what asks the match -/
/-- the class's match is what the model works out -/
def Agr (s : DS) (A9 : Nat → Nat) : Prop := ∀ g, g < zG s → (wkF s (zG s)).1 g = tfO A9 g
theorem wkF_one {s : DS} : ∀ n g t, (wkF s n).1 g = some t → zGo s t g = true ∧ t < zT s ∧ g < n ∧ zOp s g = true
  | 0, _, _, h => by cases h
  | n + 1, g, t, h => by
    have h : (wkS s n (wkF s n)).1 g = some t := h
    unfold wkS at h
    cases hT : wkT s n (wkF s n).2.1 with
    | none =>
      rw [hT] at h
      have h : va_up (wkF s n).1 n none g = some t := h
      by_cases c : g = n
      · rw [c, va_up_s] at h; cases h
      · rw [va_up_n _ _ c] at h
        have := wkF_one n g t h
        exact ⟨this.1, this.2.1, by omega, this.2.2.2⟩
    | some u =>
      rw [hT] at h
      have h : va_up (wkF s n).1 n (some u) g = some t := h
      by_cases c : g = n
      · rw [c, va_up_s] at h
        cases h
        subst c
        have h2 := hT
        unfold wkT at h2
        split at h2
        · rename_i hop
          have h3 := ff_lt _ _ _ _ h2
          have h4 := h3.2
          unfold wkB at h4
          simp only [Bool.and_eq_true] at h4
          exact ⟨h4.1.2, by omega, by omega, hop⟩
        · cases h2
      · rw [va_up_n _ _ c] at h
        have := wkF_one n g t h
        exact ⟨this.1, this.2.1, by omega, this.2.2.2⟩
theorem tf_s {A9 : Nat → Nat} {g t : Nat} (h : tfO A9 g = some t) : A9 g = t ∧ t ≠ 12 := by
  unfold tfO at h
  split at h
  · cases h
  · rename_i hc
    cases h
    exact ⟨rfl, hc⟩
theorem tf_n {A9 : Nat → Nat} {g : Nat} (h : tfO A9 g = none) : A9 g = 12 := by
  unfold tfO at h
  split at h
  · assumption
  · cases h
theorem tf_y {A9 : Nat → Nat} {g : Nat} (h : A9 g ≠ 12) : tfO A9 g = some (A9 g) := if_neg h
theorem Agr.lt {s : DS} {A9 : Nat → Nat} (h : Agr s A9) {g : Nat} (hg : g < zG s) (h12 : A9 g ≠ 12) : A9 g < zT s ∧ zGo s (A9 g) g = true := by
  have h1 := wkF_one (s := s) (zG s) g (A9 g) ((h g hg).trans (tf_y h12))
  exact ⟨h1.2.1, h1.1⟩
theorem sp_M_match {S : gl_H} {s : DS} (h : MP S s) (hW : DW s) : Sp mX7_match yX7_match [.ref 70] S (fun r S1 => r = some (.int (nI (wkF s (zG s)).2.2.1)) ∧ MP S1 s ∧ Fr 70 95 S S1) := by
  refine gl_enter (j := 0) (by decide +kernel) rfl (fun h => absurd h (by decide)) (Nat.le_of_ble_eq_true rfl) rfl (fun x => ?_)
  obtain ⟨A, py, fr, mt, mc, hM, hG, hF⟩ := h
  have hf : Fr 70 95 S S := Fr.rf
  have htc := hW.1
  have hgc := hW.2.1
  have hgn := hW.2.2.2.1
  refine gg_aload_n dX7_match_0 rfl rfl ?_
  refine gg_callV (sp_X7_works ⟨A, py, fr, mt, mc, hM, hG, hF⟩ hW) dX7_match_1 kw_X7_162 rfl hM.1 rfl rfl (Nat.le_of_ble_eq_true rfl) (Nat.le_of_ble_eq_true rfl) (Nat.le_of_ble_eq_true rfl) ⟨(Nat.le_of_ble_eq_true rfl), (Nat.le_of_ble_eq_true rfl)⟩ (fun r S1 hq => ?_)
  refine gg_k (k2 := (0, 0)) rfl ?_
  obtain ⟨rfl, A, py, mt, mc, hM, hG, hK, hf⟩ := hq
  revert S1
  intro S hM hf
  have hF : (1 : Int32) = 0 ∨ ((1 : Int32) = 1 ∧ WK s (A 23) mt mc) := Or.inr ⟨rfl, hK⟩
  refine gg_aload_n dX7_match_4 rfl rfl ?_
  refine gf_X7_156 rfl dX7_match_5 hM.1 rfl ?_
  exact gg_ireturn dX7_match_8 rfl rfl ⟨(Nat.le_of_ble_eq_true rfl), (Nat.le_of_ble_eq_true rfl)⟩ (⟨by rw [hK.2.1], ⟨A, py, 1, mt, mc, hM, hG, hF⟩, hf⟩)
theorem sp_M_costs {S : gl_H} {s : DS} (h : MP S s) (hW : DW s) : Sp mX7_costs yX7_costs [.ref 70] S (fun r S1 => r = some (.int ((wkF s (zG s)).2.2.2)) ∧ MP S1 s ∧ Fr 70 95 S S1) := by
  refine gl_enter (j := 0) (by decide +kernel) rfl (fun h => absurd h (by decide)) (Nat.le_of_ble_eq_true rfl) rfl (fun x => ?_)
  obtain ⟨A, py, fr, mt, mc, hM, hG, hF⟩ := h
  have hf : Fr 70 95 S S := Fr.rf
  have htc := hW.1
  have hgc := hW.2.1
  have hgn := hW.2.2.2.1
  refine gg_aload_n dX7_costs_0 rfl rfl ?_
  refine gg_callV (sp_X7_works ⟨A, py, fr, mt, mc, hM, hG, hF⟩ hW) dX7_costs_1 kw_X7_162 rfl hM.1 rfl rfl (Nat.le_of_ble_eq_true rfl) (Nat.le_of_ble_eq_true rfl) (Nat.le_of_ble_eq_true rfl) ⟨(Nat.le_of_ble_eq_true rfl), (Nat.le_of_ble_eq_true rfl)⟩ (fun r S1 hq => ?_)
  refine gg_k (k2 := (0, 0)) rfl ?_
  obtain ⟨rfl, A, py, mt, mc, hM, hG, hK, hf⟩ := hq
  revert S1
  intro S hM hf
  have hF : (1 : Int32) = 0 ∨ ((1 : Int32) = 1 ∧ WK s (A 23) mt mc) := Or.inr ⟨rfl, hK⟩
  refine gg_aload_n dX7_costs_4 rfl rfl ?_
  refine gf_X7_159 rfl dX7_costs_5 hM.1 rfl ?_
  exact gg_ireturn dX7_costs_8 rfl rfl ⟨(Nat.le_of_ble_eq_true rfl), (Nat.le_of_ble_eq_true rfl)⟩ (⟨by rw [hK.2.2], ⟨A, py, 1, mt, mc, hM, hG, hF⟩, hf⟩)
theorem sp_M_who {S : gl_H} {s : DS} (h : MP S s) (hW : DW s) {A9 : Nat → Nat} (hA : Agr s A9) (g9 : Int32) : Sp mX7_who yX7_who [.ref 70, .int g9] S (fun r S1 => r = some (.int (whA s A9 g9)) ∧ MP S1 s ∧ Fr 70 95 S S1) := by
  refine gl_enter (j := 1) (by decide +kernel) rfl (fun h => absurd h (by decide)) (Nat.le_of_ble_eq_true rfl) rfl (fun x => ?_)
  obtain ⟨A, py, fr, mt, mc, hM, hG, hF⟩ := h
  have hf : Fr 70 95 S S := Fr.rf
  have htc := hW.1
  have hgc := hW.2.1
  have hgn := hW.2.2.2.1
  rcases tix_cases (n := zG s) (by omega) g9 with ⟨e1, e2⟩ | ⟨g, hg, rfl, e1⟩
  · rw [show whA s A9 g9 = -1 by unfold whA; rw [e1]]
    refine gg_aload_n dX7_who_0 rfl rfl ?_
    refine gg_iload_n dX7_who_1 rfl rfl ?_
    refine gg_callV (sp_X7_isGap hM (g9)) dX7_who_2 kw_X7_136 rfl hM.1 rfl rfl (Nat.le_of_ble_eq_true rfl) (Nat.le_of_ble_eq_true rfl) (Nat.le_of_ble_eq_true rfl) ⟨(Nat.le_of_ble_eq_true rfl), (Nat.le_of_ble_eq_true rfl)⟩ (fun r S1 hq => ?_)
    refine gg_k (k2 := (0, 0)) rfl ?_
    obtain ⟨e9, rfl⟩ := hq
    rw [e9, if_neg e2]
    clear e9 S1
    refine gg_if_ne (tgt := 10) dX7_who_5 (by decide) (fun c5 => ?_) (fun c5 => ?_)
    · exact absurd rfl c5
    · refine gg_iconst (v := -1) dX7_who_8 (by decide) ?_
      exact gg_ireturn dX7_who_9 rfl rfl ⟨(Nat.le_of_ble_eq_true rfl), (Nat.le_of_ble_eq_true rfl)⟩ (⟨rfl, ⟨A, py, fr, mt, mc, hM, hG, hF⟩, hf⟩)
  · have e2 := tix_in (n := zG s) (by omega) hg
    rw [show whA s A9 (nI g) = (match opB (zf s) (zT s) g with | some t => nI t | none => oI (tfO A9 g)) by unfold whA; rw [e1]; rfl]
    cases ho : opB (zf s) (zT s) g with
    | none =>
      refine gg_aload_n dX7_who_0 rfl rfl ?_
      refine gg_iload_n dX7_who_1 rfl rfl ?_
      refine gg_callV (sp_X7_isGap hM (nI g)) dX7_who_2 kw_X7_136 rfl hM.1 rfl rfl (Nat.le_of_ble_eq_true rfl) (Nat.le_of_ble_eq_true rfl) (Nat.le_of_ble_eq_true rfl) ⟨(Nat.le_of_ble_eq_true rfl), (Nat.le_of_ble_eq_true rfl)⟩ (fun r S1 hq => ?_)
      refine gg_k (k2 := (0, 0)) rfl ?_
      obtain ⟨e9, rfl⟩ := hq
      rw [e9, if_pos e2]
      clear e9 S1
      refine gg_if_ne (tgt := 10) dX7_who_5 (by decide) (fun c5 => ?_) (fun c5 => ?_)
      · refine gg_aload_n dX7_who_10 rfl rfl ?_
        refine gg_callV (sp_X7_works ⟨A, py, fr, mt, mc, hM, hG, hF⟩ hW) dX7_who_11 kw_X7_162 rfl hM.1 rfl rfl (Nat.le_of_ble_eq_true rfl) (Nat.le_of_ble_eq_true rfl) (Nat.le_of_ble_eq_true rfl) ⟨(Nat.le_of_ble_eq_true rfl), (Nat.le_of_ble_eq_true rfl)⟩ (fun r S1 hq => ?_)
        refine gg_k (k2 := (0, 0)) rfl ?_
        obtain ⟨rfl, A, py, mt, mc, hM, hG, hK, hf⟩ := hq
        revert S1
        intro S hM hf
        have hF : (1 : Int32) = 0 ∨ ((1 : Int32) = 1 ∧ WK s (A 23) mt mc) := Or.inr ⟨rfl, hK⟩
        refine gg_aload_n dX7_who_14 rfl rfl ?_
        refine gg_iload_n dX7_who_15 rfl rfl ?_
        refine gg_callV (sp_X7_senderOf hM hG htc g) dX7_who_16 kw_X7_146 rfl hM.1 rfl rfl (Nat.le_of_ble_eq_true rfl) (Nat.le_of_ble_eq_true rfl) (Nat.le_of_ble_eq_true rfl) ⟨(Nat.le_of_ble_eq_true rfl), (Nat.le_of_ble_eq_true rfl)⟩ (fun r S1 hq => ?_)
        refine gg_k (k2 := (0, 0)) rfl ?_
        obtain ⟨e9, rfl⟩ := hq
        rw [e9, ho]
        clear e9 S1
        refine gg_istore_n dX7_who_19 rfl (Nat.le_of_ble_eq_true rfl) rfl ?_
        refine gg_iload_n dX7_who_20 rfl rfl ?_
        refine gg_iconst (v := -1) dX7_who_21 (by decide) ?_
        refine gg_icmp_ne (tgt := 34) dX7_who_22 (by decide) (fun c22 => ?_) (fun c22 => ?_)
        · exact absurd rfl c22
        · refine gg_aload_n dX7_who_25 rfl rfl ?_
          refine gf_X7_82 rfl dX7_who_26 hM.1 rfl ?_
          refine gg_iload_n dX7_who_29 rfl rfl ?_
          refine gg_ald_i (g) dX7_who_30 hM.a23 rfl (by omega) (by decide) ?_
          rw [hK.1 g hg, hA g hg]
          refine gg_goto (tgt := 35) dX7_who_31 (by decide) ?_
          exact gg_ireturn dX7_who_35 rfl rfl ⟨(Nat.le_of_ble_eq_true rfl), (Nat.le_of_ble_eq_true rfl)⟩ (⟨rfl, ⟨A, py, 1, mt, mc, hM, hG, hF⟩, hf⟩)
      · exact absurd c5 (by decide)
    | some t =>
      have ht := (ff_lt _ _ _ _ ho).1
      refine gg_aload_n dX7_who_0 rfl rfl ?_
      refine gg_iload_n dX7_who_1 rfl rfl ?_
      refine gg_callV (sp_X7_isGap hM (nI g)) dX7_who_2 kw_X7_136 rfl hM.1 rfl rfl (Nat.le_of_ble_eq_true rfl) (Nat.le_of_ble_eq_true rfl) (Nat.le_of_ble_eq_true rfl) ⟨(Nat.le_of_ble_eq_true rfl), (Nat.le_of_ble_eq_true rfl)⟩ (fun r S1 hq => ?_)
      refine gg_k (k2 := (0, 0)) rfl ?_
      obtain ⟨e9, rfl⟩ := hq
      rw [e9, if_pos e2]
      clear e9 S1
      refine gg_if_ne (tgt := 10) dX7_who_5 (by decide) (fun c5 => ?_) (fun c5 => ?_)
      · refine gg_aload_n dX7_who_10 rfl rfl ?_
        refine gg_callV (sp_X7_works ⟨A, py, fr, mt, mc, hM, hG, hF⟩ hW) dX7_who_11 kw_X7_162 rfl hM.1 rfl rfl (Nat.le_of_ble_eq_true rfl) (Nat.le_of_ble_eq_true rfl) (Nat.le_of_ble_eq_true rfl) ⟨(Nat.le_of_ble_eq_true rfl), (Nat.le_of_ble_eq_true rfl)⟩ (fun r S1 hq => ?_)
        refine gg_k (k2 := (0, 0)) rfl ?_
        obtain ⟨rfl, A, py, mt, mc, hM, hG, hK, hf⟩ := hq
        revert S1
        intro S hM hf
        have hF : (1 : Int32) = 0 ∨ ((1 : Int32) = 1 ∧ WK s (A 23) mt mc) := Or.inr ⟨rfl, hK⟩
        refine gg_aload_n dX7_who_14 rfl rfl ?_
        refine gg_iload_n dX7_who_15 rfl rfl ?_
        refine gg_callV (sp_X7_senderOf hM hG htc g) dX7_who_16 kw_X7_146 rfl hM.1 rfl rfl (Nat.le_of_ble_eq_true rfl) (Nat.le_of_ble_eq_true rfl) (Nat.le_of_ble_eq_true rfl) ⟨(Nat.le_of_ble_eq_true rfl), (Nat.le_of_ble_eq_true rfl)⟩ (fun r S1 hq => ?_)
        refine gg_k (k2 := (0, 0)) rfl ?_
        obtain ⟨e9, rfl⟩ := hq
        rw [e9, ho]
        clear e9 S1
        refine gg_istore_n dX7_who_19 rfl (Nat.le_of_ble_eq_true rfl) rfl ?_
        refine gg_iload_n dX7_who_20 rfl rfl ?_
        refine gg_iconst (v := -1) dX7_who_21 (by decide) ?_
        refine gg_icmp_ne (tgt := 34) dX7_who_22 (by decide) (fun c22 => ?_) (fun c22 => ?_)
        · refine gg_iload_n dX7_who_34 rfl rfl ?_
          exact gg_ireturn dX7_who_35 rfl rfl ⟨(Nat.le_of_ble_eq_true rfl), (Nat.le_of_ble_eq_true rfl)⟩ (⟨rfl, ⟨A, py, 1, mt, mc, hM, hG, hF⟩, hf⟩)
        · exact absurd c22 (nI_m1 (k := t) (by omega))
      · exact absurd c5 (by decide)
theorem nxF_lt {s : DS} {A9 : Nat → Nat} : ∀ g h, nxF s A9 g = some h → h < g ∧ A9 h ≠ 12
  | 0, _, e => by cases e
  | g + 1, h, e => by
    have e : nxS s A9 g (nxF s A9 g) = some h := e
    unfold nxS at e
    split at e
    · have := nxF_lt g h e; exact ⟨by omega, this.2⟩
    · rename_i h12
      split at e
      · cases e; exact ⟨by omega, h12⟩
      · rename_i h2 e2
        split at e
        · cases e; exact ⟨by omega, h12⟩
        · cases e
          have := nxF_lt g _ e2; exact ⟨by omega, this.2⟩
theorem nx_12 {s : DS} {A9 : Nat → Nat} {g : Nat} (h : A9 g = 12) : nxF s A9 (g + 1) = nxF s A9 g := by
  show nxS s A9 g (nxF s A9 g) = _
  exact if_pos h
theorem nx_0 {s : DS} {A9 : Nat → Nat} {g : Nat} (h : A9 g ≠ 12) (h2 : nxF s A9 g = none) : nxF s A9 (g + 1) = some g := by
  show nxS s A9 g (nxF s A9 g) = _
  unfold nxS
  rw [if_neg h, h2]
theorem nx_1 {s : DS} {A9 : Nat → Nat} {g h9 : Nat} (h : A9 g ≠ 12) (h2 : nxF s A9 g = some h9) (h3 : ahB s A9 g h9 = true) : nxF s A9 (g + 1) = some g := by
  show nxS s A9 g (nxF s A9 g) = _
  unfold nxS
  rw [if_neg h, h2]
  exact if_pos h3
theorem nx_2 {s : DS} {A9 : Nat → Nat} {g h9 : Nat} (h : A9 g ≠ 12) (h2 : nxF s A9 g = some h9) (h3 : ahB s A9 g h9 = false) : nxF s A9 (g + 1) = some h9 := by
  show nxS s A9 g (nxF s A9 g) = _
  unfold nxS
  rw [if_neg h, h2]
  exact if_neg (by rw [h3]; decide)
theorem mn_loop {S0 S : gl_H} {A : Nat → Nat → Int32} {py : Nat → Int64} {s : DS} {mt mc : Int32} (hM : MPR S (A) (py) (zn s) (zD s) (zT s) (zG s) ((zv s).2.2.2) (1) (mt) (mc)) (hG : AG A py s) (hW : DW s) (hK : WK s (A 23) mt mc) (hf : Fr 70 95 S0 S) {A9 : Nat → Nat} (hA : Agr s A9) (x : gl_X) : ∀ (m g : Nat), g + m = zG s → GG mX7_next x (gl_Z mX7_next x (fun r S1 => r = some (.int (neA s A9)) ∧ MP S1 s ∧ Fr 70 95 S0 S1)) 8 [some (.ref 70), some (.int (oI (nxF s A9 g))), some (.int (nI g))] [] S (0, 0) := by
  have htc := hW.1
  have hgc := hW.2.1
  have hF : (1 : Int32) = 0 ∨ ((1 : Int32) = 1 ∧ WK s (A 23) mt mc) := Or.inr ⟨rfl, hK⟩
  have hm : ∀ i, i < zG s → A9 i ≠ 12 → A 23 i = nI (A9 i) := fun i hi h => by rw [hK.1 i hi, hA i hi, tf_y h]; rfl
  intro m
  induction m with
  | zero =>
    intro g hg0
    have e : g = zG s := by omega
    subst e
    cases hn : nxF s A9 (zG s) with
    | none =>
      rw [show neA s A9 = -1 by unfold neA; rw [hn]]
      refine gg_iload_n dX7_next_8 rfl rfl ?_
      refine gg_aload_n dX7_next_9 rfl rfl ?_
      refine gf_X7_123 rfl dX7_next_10 hM.1 rfl ?_
      refine gg_icmp_ge (tgt := 107) dX7_next_13 (by decide) (fun c13 => ?_) (fun c13 => ?_)
      · refine gg_iload_n dX7_next_107 rfl rfl ?_
        refine gg_iconst (v := -1) dX7_next_108 (by decide) ?_
        refine gg_icmp_ne (tgt := 116) dX7_next_109 (by decide) (fun c109 => ?_) (fun c109 => ?_)
        · exact absurd rfl c109
        · refine gg_iconst (v := -1) dX7_next_112 (by decide) ?_
          refine gg_goto (tgt := 122) dX7_next_113 (by decide) ?_
          exact gg_ireturn dX7_next_122 rfl rfl ⟨(Nat.le_of_ble_eq_true rfl), (Nat.le_of_ble_eq_true rfl)⟩ (⟨rfl, ⟨A, py, 1, mt, mc, hM, hG, hF⟩, hf⟩)
      · exact absurd (nI_le (Nat.le_refl _) (by omega)) c13
    | some h9 =>
      have hh := nxF_lt _ _ hn
      rw [show neA s A9 = nI (A9 h9) by unfold neA; rw [hn]]
      refine gg_iload_n dX7_next_8 rfl rfl ?_
      refine gg_aload_n dX7_next_9 rfl rfl ?_
      refine gf_X7_123 rfl dX7_next_10 hM.1 rfl ?_
      refine gg_icmp_ge (tgt := 107) dX7_next_13 (by decide) (fun c13 => ?_) (fun c13 => ?_)
      · refine gg_iload_n dX7_next_107 rfl rfl ?_
        refine gg_iconst (v := -1) dX7_next_108 (by decide) ?_
        refine gg_icmp_ne (tgt := 116) dX7_next_109 (by decide) (fun c109 => ?_) (fun c109 => ?_)
        · refine gg_aload_n dX7_next_116 rfl rfl ?_
          refine gf_X7_82 rfl dX7_next_117 hM.1 rfl ?_
          refine gg_iload_n dX7_next_120 rfl rfl ?_
          refine gg_ald_i (h9) dX7_next_121 hM.a23 rfl (by omega) (by decide) ?_
          rw [hm h9 hh.1 hh.2]
          exact gg_ireturn dX7_next_122 rfl rfl ⟨(Nat.le_of_ble_eq_true rfl), (Nat.le_of_ble_eq_true rfl)⟩ (⟨rfl, ⟨A, py, 1, mt, mc, hM, hG, hF⟩, hf⟩)
        · exact absurd c109 (nI_m1 (k := h9) (by omega))
      · exact absurd (nI_le (Nat.le_refl _) (by omega)) c13
  | succ m ih =>
    intro g hg0
    have hg : g < zG s := by omega
    have h9 := ih (g + 1) (by omega)
    by_cases c12 : A9 g = 12
    · have hmg : A 23 g = -1 := by rw [hK.1 g hg, hA g hg]; unfold tfO; rw [if_pos c12]; rfl
      rw [nx_12 c12] at h9
      refine gg_iload_n dX7_next_8 rfl rfl ?_
      refine gg_aload_n dX7_next_9 rfl rfl ?_
      refine gf_X7_123 rfl dX7_next_10 hM.1 rfl ?_
      refine gg_icmp_ge (tgt := 107) dX7_next_13 (by decide) (fun c13 => ?_) (fun c13 => ?_)
      · exact absurd (n_le c13) (by omega)
      · refine gg_aload_n dX7_next_16 rfl rfl ?_
        refine gf_X7_82 rfl dX7_next_17 hM.1 rfl ?_
        refine gg_iload_n dX7_next_20 rfl rfl ?_
        refine gg_ald_i (g) dX7_next_21 hM.a23 rfl (by omega) (by decide) ?_
        rw [hmg]
        refine gg_iconst (v := -1) dX7_next_22 (by decide) ?_
        refine gg_icmp_ne (tgt := 29) dX7_next_23 (by decide) (fun c23 => ?_) (fun c23 => ?_)
        · exact absurd rfl c23
        · refine gg_goto (tgt := 101) dX7_next_26 (by decide) ?_
          refine gg_iinc (w := nI (g + 1)) dX7_next_101 rfl (nI_1 g) (Nat.le_of_ble_eq_true rfl) rfl ?_
          refine gg_goto (tgt := 8) dX7_next_104 (by decide) ?_
          exact h9
    · have hg12 := (hA.lt hg c12).1
      cases hn : nxF s A9 g with
      | none =>
        rw [nx_0 c12 hn] at h9
        refine gg_iload_n dX7_next_8 rfl rfl ?_
        refine gg_aload_n dX7_next_9 rfl rfl ?_
        refine gf_X7_123 rfl dX7_next_10 hM.1 rfl ?_
        refine gg_icmp_ge (tgt := 107) dX7_next_13 (by decide) (fun c13 => ?_) (fun c13 => ?_)
        · exact absurd (n_le c13) (by omega)
        · refine gg_aload_n dX7_next_16 rfl rfl ?_
          refine gf_X7_82 rfl dX7_next_17 hM.1 rfl ?_
          refine gg_iload_n dX7_next_20 rfl rfl ?_
          refine gg_ald_i (g) dX7_next_21 hM.a23 rfl (by omega) (by decide) ?_
          rw [hm g hg c12]
          refine gg_iconst (v := -1) dX7_next_22 (by decide) ?_
          refine gg_icmp_ne (tgt := 29) dX7_next_23 (by decide) (fun c23 => ?_) (fun c23 => ?_)
          · refine gg_iload_n dX7_next_29 rfl rfl ?_
            refine gg_iconst (v := -1) dX7_next_30 (by decide) ?_
            refine gg_icmp_eq (tgt := 99) dX7_next_31 (by decide) (fun c31 => ?_) (fun c31 => ?_)
            · refine gg_iload_n dX7_next_99 rfl rfl ?_
              refine gg_istore_n dX7_next_100 rfl (Nat.le_of_ble_eq_true rfl) rfl ?_
              refine gg_iinc (w := nI (g + 1)) dX7_next_101 rfl (nI_1 g) (Nat.le_of_ble_eq_true rfl) rfl ?_
              refine gg_goto (tgt := 8) dX7_next_104 (by decide) ?_
              exact h9
            · exact absurd rfl c31
          · exact absurd c23 (nI_m1 (k := A9 g) (by omega))
      | some h8 =>
        have hh := nxF_lt _ _ hn
        have hh12 := (hA.lt (show h8 < zG s by omega) hh.2).1
        refine gg_iload_n dX7_next_8 rfl rfl ?_
        refine gg_aload_n dX7_next_9 rfl rfl ?_
        refine gf_X7_123 rfl dX7_next_10 hM.1 rfl ?_
        refine gg_icmp_ge (tgt := 107) dX7_next_13 (by decide) (fun c13 => ?_) (fun c13 => ?_)
        · exact absurd (n_le c13) (by omega)
        · refine gg_aload_n dX7_next_16 rfl rfl ?_
          refine gf_X7_82 rfl dX7_next_17 hM.1 rfl ?_
          refine gg_iload_n dX7_next_20 rfl rfl ?_
          refine gg_ald_i (g) dX7_next_21 hM.a23 rfl (by omega) (by decide) ?_
          rw [hm g hg c12]
          refine gg_iconst (v := -1) dX7_next_22 (by decide) ?_
          refine gg_icmp_ne (tgt := 29) dX7_next_23 (by decide) (fun c23 => ?_) (fun c23 => ?_)
          · refine gg_iload_n dX7_next_29 rfl rfl ?_
            refine gg_iconst (v := -1) dX7_next_30 (by decide) ?_
            refine gg_icmp_eq (tgt := 99) dX7_next_31 (by decide) (fun c31 => ?_) (fun c31 => ?_)
            · exact absurd c31 (nI_m1 (k := h8) (by omega))
            · refine gg_aload_n dX7_next_34 rfl rfl ?_
              refine gf_X7_44 rfl dX7_next_35 hM.1 rfl ?_
              refine gg_aload_n dX7_next_38 rfl rfl ?_
              refine gf_X7_82 rfl dX7_next_39 hM.1 rfl ?_
              refine gg_iload_n dX7_next_42 rfl rfl ?_
              refine gg_ald_i (g) dX7_next_43 hM.a23 rfl (by omega) (by decide) ?_
              rw [hm g hg c12]
              refine gg_ald_i (A9 g) dX7_next_44 hM.a11 rfl (by omega) (by decide) ?_
              rw [show A 11 (A9 g) = zf s (A9 g) 7 from hG.f hg12 7]
              refine gg_aload_n dX7_next_45 rfl rfl ?_
              refine gf_X7_44 rfl dX7_next_46 hM.1 rfl ?_
              refine gg_aload_n dX7_next_49 rfl rfl ?_
              refine gf_X7_82 rfl dX7_next_50 hM.1 rfl ?_
              refine gg_iload_n dX7_next_53 rfl rfl ?_
              refine gg_ald_i (h8) dX7_next_54 hM.a23 rfl (by omega) (by decide) ?_
              rw [hm h8 (by omega) hh.2]
              refine gg_ald_i (A9 h8) dX7_next_55 hM.a11 rfl (by omega) (by decide) ?_
              rw [show A 11 (A9 h8) = zf s (A9 h8) 7 from hG.f hh12 7]
              refine gg_icmp_lt (tgt := 99) dX7_next_56 (by decide) (fun c56 => ?_) (fun c56 => ?_)
              · have ea : ahB s A9 g h8 = true := by unfold ahB; rw [if_neg (fun z => by rw [z] at c56; exact Int32.lt_irrefl c56), decide_eq_true c56]
                rw [nx_1 c12 hn ea] at h9
                refine gg_iload_n dX7_next_99 rfl rfl ?_
                refine gg_istore_n dX7_next_100 rfl (Nat.le_of_ble_eq_true rfl) rfl ?_
                refine gg_iinc (w := nI (g + 1)) dX7_next_101 rfl (nI_1 g) (Nat.le_of_ble_eq_true rfl) rfl ?_
                refine gg_goto (tgt := 8) dX7_next_104 (by decide) ?_
                exact h9
              · refine gg_aload_n dX7_next_59 rfl rfl ?_
                refine gf_X7_44 rfl dX7_next_60 hM.1 rfl ?_
                refine gg_aload_n dX7_next_63 rfl rfl ?_
                refine gf_X7_82 rfl dX7_next_64 hM.1 rfl ?_
                refine gg_iload_n dX7_next_67 rfl rfl ?_
                refine gg_ald_i (g) dX7_next_68 hM.a23 rfl (by omega) (by decide) ?_
                rw [hm g hg c12]
                refine gg_ald_i (A9 g) dX7_next_69 hM.a11 rfl (by omega) (by decide) ?_
                rw [show A 11 (A9 g) = zf s (A9 g) 7 from hG.f hg12 7]
                refine gg_aload_n dX7_next_70 rfl rfl ?_
                refine gf_X7_44 rfl dX7_next_71 hM.1 rfl ?_
                refine gg_aload_n dX7_next_74 rfl rfl ?_
                refine gf_X7_82 rfl dX7_next_75 hM.1 rfl ?_
                refine gg_iload_n dX7_next_78 rfl rfl ?_
                refine gg_ald_i (h8) dX7_next_79 hM.a23 rfl (by omega) (by decide) ?_
                rw [hm h8 (by omega) hh.2]
                refine gg_ald_i (A9 h8) dX7_next_80 hM.a11 rfl (by omega) (by decide) ?_
                rw [show A 11 (A9 h8) = zf s (A9 h8) 7 from hG.f hh12 7]
                refine gg_icmp_ne (tgt := 101) dX7_next_81 (by decide) (fun c81 => ?_) (fun c81 => ?_)
                · have ea : ahB s A9 g h8 = false := by unfold ahB; rw [if_neg c81, decide_eq_false c56]
                  rw [nx_2 c12 hn ea] at h9
                  refine gg_iinc (w := nI (g + 1)) dX7_next_101 rfl (nI_1 g) (Nat.le_of_ble_eq_true rfl) rfl ?_
                  refine gg_goto (tgt := 8) dX7_next_104 (by decide) ?_
                  exact h9
                · refine gg_aload_n dX7_next_84 rfl rfl ?_
                  refine gf_X7_66 rfl dX7_next_85 hM.1 rfl ?_
                  refine gg_iload_n dX7_next_88 rfl rfl ?_
                  refine gg_ald_i (g) dX7_next_89 hM.a18 rfl (by omega) (by decide) ?_
                  rw [show A 18 g = nI (zg s g 4) from hG.g hg 4]
                  refine gg_aload_n dX7_next_90 rfl rfl ?_
                  refine gf_X7_66 rfl dX7_next_91 hM.1 rfl ?_
                  refine gg_iload_n dX7_next_94 rfl rfl ?_
                  refine gg_ald_i (h8) dX7_next_95 hM.a18 rfl (by omega) (by decide) ?_
                  rw [show A 18 h8 = nI (zg s h8 4) from hG.g (show h8 < zG s by omega) 4]
                  refine gg_icmp_le (tgt := 101) dX7_next_96 (by decide) (fun c96 => ?_) (fun c96 => ?_)
                  · have ea : ahB s A9 g h8 = false := by unfold ahB; rw [if_pos c81, decide_eq_false (Int32.not_lt.mpr c96)]
                    rw [nx_2 c12 hn ea] at h9
                    refine gg_iinc (w := nI (g + 1)) dX7_next_101 rfl (nI_1 g) (Nat.le_of_ble_eq_true rfl) rfl ?_
                    refine gg_goto (tgt := 8) dX7_next_104 (by decide) ?_
                    exact h9
                  · have ea : ahB s A9 g h8 = true := by unfold ahB; rw [if_pos c81, decide_eq_true (Int32.not_le.mp c96)]
                    rw [nx_1 c12 hn ea] at h9
                    refine gg_iload_n dX7_next_99 rfl rfl ?_
                    refine gg_istore_n dX7_next_100 rfl (Nat.le_of_ble_eq_true rfl) rfl ?_
                    refine gg_iinc (w := nI (g + 1)) dX7_next_101 rfl (nI_1 g) (Nat.le_of_ble_eq_true rfl) rfl ?_
                    refine gg_goto (tgt := 8) dX7_next_104 (by decide) ?_
                    exact h9
          · exact absurd c23 (nI_m1 (k := A9 g) (by omega))
theorem sp_M_next {S : gl_H} {s : DS} (h : MP S s) (hW : DW s) {A9 : Nat → Nat} (hA : Agr s A9) : Sp mX7_next yX7_next [.ref 70] S (fun r S1 => r = some (.int (neA s A9)) ∧ MP S1 s ∧ Fr 70 95 S S1) := by
  refine gl_enter (j := 2) (by decide +kernel) rfl (fun h => absurd h (by decide)) (Nat.le_of_ble_eq_true rfl) rfl (fun x => ?_)
  obtain ⟨A, py, fr, mt, mc, hM, hG, hF⟩ := h
  have hf : Fr 70 95 S S := Fr.rf
  have htc := hW.1
  have hgc := hW.2.1
  have hgn := hW.2.2.2.1
  refine gg_aload_n dX7_next_0 rfl rfl ?_
  refine gg_callV (sp_X7_works ⟨A, py, fr, mt, mc, hM, hG, hF⟩ hW) dX7_next_1 kw_X7_162 rfl hM.1 rfl rfl (Nat.le_of_ble_eq_true rfl) (Nat.le_of_ble_eq_true rfl) (Nat.le_of_ble_eq_true rfl) ⟨(Nat.le_of_ble_eq_true rfl), (Nat.le_of_ble_eq_true rfl)⟩ (fun r S1 hq => ?_)
  refine gg_k (k2 := (0, 0)) rfl ?_
  obtain ⟨rfl, A, py, mt, mc, hM, hG, hK, hf⟩ := hq
  revert S1
  intro S hM hf
  have hF : (1 : Int32) = 0 ∨ ((1 : Int32) = 1 ∧ WK s (A 23) mt mc) := Or.inr ⟨rfl, hK⟩
  refine gg_iconst (v := -1) dX7_next_4 (by decide) ?_
  refine gg_istore_n dX7_next_5 rfl (Nat.le_of_ble_eq_true rfl) rfl ?_
  refine gg_iconst (v := 0) dX7_next_6 (by decide) ?_
  refine gg_istore_n dX7_next_7 rfl (Nat.le_of_ble_eq_true rfl) rfl ?_
  exact mn_loop hM hG hW hK hf hA x (zG s) 0 (Nat.zero_add _)
def gpL (m : Nat → Option Nat) (t : Nat) : Nat → Option Nat
  | 0 => none
  | g + 1 => if m g = some t then some g else gpL m t g
theorem gpL_lt {m : Nat → Option Nat} {t : Nat} : ∀ n g, gpL m t n = some g → g < n ∧ m g = some t
  | 0, _, h => by cases h
  | n + 1, g, h => by
    unfold gpL at h
    split at h
    · cases h; exact ⟨by omega, by assumption⟩
    · have := gpL_lt n g h; exact ⟨by omega, this.2⟩
theorem an_loop {S : gl_H} {A : Nat → Nat → Int32} {py : Nat → Int64} {s : DS} {fr mt mc : Int32} (hM : MPR S (A) (py) (zn s) (zD s) (zT s) (zG s) ((zv s).2.2.2) (fr) (mt) (mc)) (hW : DW s) (hK : WK s (A 23) mt mc) {t : Nat} (ht : t < zT s) {a9 : Int32} (x : gl_X) {Q : Option Value → gl_H → Prop} (K : GG mX7_answer x (gl_Z mX7_answer x Q) 57 [some (.ref 70), some (.int (nI t)), some (.int a9), some (.int (oI (gpL (wkF s (zG s)).1 t (zG s)))), some (.int (nI (zG s)))] [] S (0, 0)) : ∀ (m g : Nat), g + m = zG s → GG mX7_answer x (gl_Z mX7_answer x Q) 28 [some (.ref 70), some (.int (nI t)), some (.int a9), some (.int (oI (gpL (wkF s (zG s)).1 t g))), some (.int (nI g))] [] S (0, 0) := by
  have htc := hW.1
  have hgc := hW.2.1
  intro m
  induction m with
  | zero =>
    intro g hg0
    have e : g = zG s := by omega
    subst e
    refine gg_iload dX7_answer_28 rfl ?_
    refine gg_aload_n dX7_answer_30 rfl rfl ?_
    refine gf_X7_123 rfl dX7_answer_31 hM.1 rfl ?_
    refine gg_icmp_ge (tgt := 57) dX7_answer_34 (by decide) (fun c34 => ?_) (fun c34 => ?_)
    · exact K
    · exact absurd (nI_le (Nat.le_refl _) (by omega)) c34
  | succ m ih =>
    intro g hg0
    have hg : g < zG s := by omega
    have h9 := ih (g + 1) (by omega)
    have e0 : gpL (wkF s (zG s)).1 t (g + 1) = if (wkF s (zG s)).1 g = some t then some g else gpL (wkF s (zG s)).1 t g := rfl
    have hc : (oI ((wkF s (zG s)).1 g) = nI t) ↔ (wkF s (zG s)).1 g = some t := by
      cases hw : (wkF s (zG s)).1 g with
      | none => exact ⟨fun z => absurd z.symm (nI_m1 (k := t) (by omega)), fun z => by cases z⟩
      | some u =>
        have hu := (wkF_one _ _ _ hw).2.1
        exact ⟨fun z => congrArg some (n_eq (a := u) (b := t) z), fun z => by cases z; rfl⟩
    refine gg_iload dX7_answer_28 rfl ?_
    refine gg_aload_n dX7_answer_30 rfl rfl ?_
    refine gf_X7_123 rfl dX7_answer_31 hM.1 rfl ?_
    refine gg_icmp_ge (tgt := 57) dX7_answer_34 (by decide) (fun c34 => ?_) (fun c34 => ?_)
    · exact absurd (n_le c34) (by omega)
    · refine gg_aload_n dX7_answer_37 rfl rfl ?_
      refine gf_X7_82 rfl dX7_answer_38 hM.1 rfl ?_
      refine gg_iload dX7_answer_41 rfl ?_
      refine gg_ald_i (g) dX7_answer_43 hM.a23 rfl (by omega) (by decide) ?_
      rw [hK.1 g hg]
      refine gg_iload_n dX7_answer_44 rfl rfl ?_
      refine gg_icmp_ne (tgt := 51) dX7_answer_45 (by decide) (fun c45 => ?_) (fun c45 => ?_)
      · rw [e0, if_neg (fun z => c45 (hc.mpr z))] at h9
        refine gg_iinc (w := nI (g + 1)) dX7_answer_51 rfl (nI_1 g) (Nat.le_of_ble_eq_true rfl) rfl ?_
        refine gg_goto (tgt := 28) dX7_answer_54 (by decide) ?_
        exact h9
      · rw [e0, if_pos (hc.mp c45)] at h9
        refine gg_iload dX7_answer_48 rfl ?_
        refine gg_istore_n dX7_answer_50 rfl (Nat.le_of_ble_eq_true rfl) rfl ?_
        refine gg_iinc (w := nI (g + 1)) dX7_answer_51 rfl (nI_1 g) (Nat.le_of_ble_eq_true rfl) rfl ?_
        refine gg_goto (tgt := 28) dX7_answer_54 (by decide) ?_
        exact h9
theorem ta_lt {f : Nat → Int32} {g tr : Int32} (h5 : f 5 = 0) (h : f 7 + 1 < tr) : taF f 2 g tr = upd (upd f 7 (f 7 + 1)) 5 0 := by
  unfold taF
  rw [if_neg (by decide), if_neg (by decide), if_pos h]
  funext j
  by_cases c : j = 5
  · subst c; rw [pk_us, pk_un (by decide), h5]
  · rw [pk_un c]
theorem ta_ge {f : Nat → Int32} {g tr : Int32} (h : ¬ f 7 + 1 < tr) : taF f 2 g tr = upd (upd f 7 (f 7 + 1)) 5 2 := by
  unfold taF
  rw [if_neg (by decide), if_neg (by decide), if_neg h]
theorem sp_M_answer {S : gl_H} {s : DS} (h : MP S s) (hW : DW s) {A9 : Nat → Nat} (hgp : ∀ t, t < zT s → gpL (wkF s (zG s)).1 t (zG s) = gpA A9 t) (t9 a9 : Int32) : Sp mX7_answer yX7_answer [.ref 70, .int t9, .int a9] S (fun r S1 => r = some (.int (opA (anN s A9 t9 a9))) ∧ MP S1 ((anN s A9 t9 a9).getD s) ∧ Fr 70 95 S S1) := by
  refine gl_enter (j := 2) (by decide +kernel) rfl (fun h => absurd h (by decide)) (Nat.le_of_ble_eq_true rfl) rfl (fun x => ?_)
  obtain ⟨A, py, fr, mt, mc, hM, hG, hF⟩ := h
  have hf : Fr 70 95 S S := Fr.rf
  have htc := hW.1
  have hgc := hW.2.1
  have hgn := hW.2.2.2.1
  rcases tix_cases (n := zT s) (by omega) t9 with ⟨e1, e2⟩ | ⟨t, ht, rfl, e1⟩
  · rw [show anN s A9 t9 a9 = none by unfold anN; rw [e1]]
    refine gg_aload_n dX7_answer_0 rfl rfl ?_
    refine gg_iload_n dX7_answer_1 rfl rfl ?_
    refine gg_callV (sp_X7_isTeacher hM (t9)) dX7_answer_2 kw_X7_126 rfl hM.1 rfl rfl (Nat.le_of_ble_eq_true rfl) (Nat.le_of_ble_eq_true rfl) (Nat.le_of_ble_eq_true rfl) ⟨(Nat.le_of_ble_eq_true rfl), (Nat.le_of_ble_eq_true rfl)⟩ (fun r S1 hq => ?_)
    refine gg_k (k2 := (0, 0)) rfl ?_
    obtain ⟨e9, rfl⟩ := hq
    rw [e9, if_neg e2]
    clear e9 S1
    refine gg_if_eq (tgt := 17) dX7_answer_5 (by decide) (fun c5 => ?_) (fun c5 => ?_)
    · refine gg_iconst (v := 0) dX7_answer_17 (by decide) ?_
      exact gg_ireturn dX7_answer_18 rfl rfl ⟨(Nat.le_of_ble_eq_true rfl), (Nat.le_of_ble_eq_true rfl)⟩ (⟨rfl, ⟨A, py, fr, mt, mc, hM, hG, hF⟩, hf⟩)
    · exact absurd rfl c5
  · have e2 := tix_in (n := zT s) (by omega) ht
    rcases tix_cases (n := 3) (by decide) a9 with ⟨e3, e4⟩ | ⟨k, hk, rfl, e3⟩
    · have e4 : ¬ (0 ≤ a9 ∧ a9 ≤ 2) := e4
      rw [show anN s A9 (nI t) a9 = none by unfold anN; rw [e1, e3]]
      refine gg_aload_n dX7_answer_0 rfl rfl ?_
      refine gg_iload_n dX7_answer_1 rfl rfl ?_
      refine gg_callV (sp_X7_isTeacher hM (nI t)) dX7_answer_2 kw_X7_126 rfl hM.1 rfl rfl (Nat.le_of_ble_eq_true rfl) (Nat.le_of_ble_eq_true rfl) (Nat.le_of_ble_eq_true rfl) ⟨(Nat.le_of_ble_eq_true rfl), (Nat.le_of_ble_eq_true rfl)⟩ (fun r S1 hq => ?_)
      refine gg_k (k2 := (0, 0)) rfl ?_
      obtain ⟨e9, rfl⟩ := hq
      rw [e9, if_pos e2]
      clear e9 S1
      refine gg_if_eq (tgt := 17) dX7_answer_5 (by decide) (fun c5 => ?_) (fun c5 => ?_)
      · exact absurd c5 (by decide)
      · refine gg_iload_n dX7_answer_8 rfl rfl ?_
        refine gg_iconst (v := 0) dX7_answer_9 (by decide) ?_
        refine gg_iconst (v := 2) dX7_answer_10 (by decide) ?_
        refine gg_callS (sp_X7_lies S a9 0 2) dX7_answer_11 kw_X7_97 rfl rfl (Nat.le_of_ble_eq_true rfl) (Nat.le_of_ble_eq_true rfl) (Nat.le_of_ble_eq_true rfl) ⟨(Nat.le_of_ble_eq_true rfl), (Nat.le_of_ble_eq_true rfl)⟩ (fun r S1 hq => ?_)
        refine gg_k (k2 := (0, 0)) rfl ?_
        obtain ⟨e9, rfl⟩ := hq
        rw [e9, if_neg e4]
        clear e9 S1
        refine gg_if_ne (tgt := 19) dX7_answer_14 (by decide) (fun c14 => ?_) (fun c14 => ?_)
        · exact absurd rfl c14
        · refine gg_iconst (v := 0) dX7_answer_17 (by decide) ?_
          exact gg_ireturn dX7_answer_18 rfl rfl ⟨(Nat.le_of_ble_eq_true rfl), (Nat.le_of_ble_eq_true rfl)⟩ (⟨rfl, ⟨A, py, fr, mt, mc, hM, hG, hF⟩, hf⟩)
    · have e4 : (0 : Int32) ≤ nI k ∧ nI k ≤ 2 := tix_in (n := 3) (by decide) hk
      have e0 : anN s A9 (nI t) (nI k) = (match gpA A9 t with | some g => some (setTe s (up2 (zf s) t (taF (zf s t) k (nI g) (zr s 6))) (zm s) (zp s)) | none => none) := by unfold anN; rw [e1, e3]; rfl
      rw [← hgp t ht] at e0
      rw [e0]
      refine gg_aload_n dX7_answer_0 rfl rfl ?_
      refine gg_iload_n dX7_answer_1 rfl rfl ?_
      refine gg_callV (sp_X7_isTeacher hM (nI t)) dX7_answer_2 kw_X7_126 rfl hM.1 rfl rfl (Nat.le_of_ble_eq_true rfl) (Nat.le_of_ble_eq_true rfl) (Nat.le_of_ble_eq_true rfl) ⟨(Nat.le_of_ble_eq_true rfl), (Nat.le_of_ble_eq_true rfl)⟩ (fun r S1 hq => ?_)
      refine gg_k (k2 := (0, 0)) rfl ?_
      obtain ⟨e9, rfl⟩ := hq
      rw [e9, if_pos e2]
      clear e9 S1
      refine gg_if_eq (tgt := 17) dX7_answer_5 (by decide) (fun c5 => ?_) (fun c5 => ?_)
      · exact absurd c5 (by decide)
      · refine gg_iload_n dX7_answer_8 rfl rfl ?_
        refine gg_iconst (v := 0) dX7_answer_9 (by decide) ?_
        refine gg_iconst (v := 2) dX7_answer_10 (by decide) ?_
        refine gg_callS (sp_X7_lies S (nI k) 0 2) dX7_answer_11 kw_X7_97 rfl rfl (Nat.le_of_ble_eq_true rfl) (Nat.le_of_ble_eq_true rfl) (Nat.le_of_ble_eq_true rfl) ⟨(Nat.le_of_ble_eq_true rfl), (Nat.le_of_ble_eq_true rfl)⟩ (fun r S1 hq => ?_)
        refine gg_k (k2 := (0, 0)) rfl ?_
        obtain ⟨e9, rfl⟩ := hq
        rw [e9, if_pos e4]
        clear e9 S1
        refine gg_if_ne (tgt := 19) dX7_answer_14 (by decide) (fun c14 => ?_) (fun c14 => ?_)
        · refine gg_aload_n dX7_answer_19 rfl rfl ?_
          refine gg_callV (sp_X7_works ⟨A, py, fr, mt, mc, hM, hG, hF⟩ hW) dX7_answer_20 kw_X7_162 rfl hM.1 rfl rfl (Nat.le_of_ble_eq_true rfl) (Nat.le_of_ble_eq_true rfl) (Nat.le_of_ble_eq_true rfl) ⟨(Nat.le_of_ble_eq_true rfl), (Nat.le_of_ble_eq_true rfl)⟩ (fun r S1 hq => ?_)
          refine gg_k (k2 := (0, 0)) rfl ?_
          obtain ⟨rfl, A, py, mt, mc, hM, hG, hK, hf⟩ := hq
          revert S1
          intro S hM hf
          have hF : (1 : Int32) = 0 ∨ ((1 : Int32) = 1 ∧ WK s (A 23) mt mc) := Or.inr ⟨rfl, hK⟩
          refine gg_iconst (v := -1) dX7_answer_23 (by decide) ?_
          refine gg_istore_n dX7_answer_24 rfl (Nat.le_of_ble_eq_true rfl) rfl ?_
          refine gg_iconst (v := 0) dX7_answer_25 (by decide) ?_
          refine gg_istore dX7_answer_26 (Nat.le_of_ble_eq_true rfl) rfl ?_
          refine an_loop hM hW hK ht x ?_ (zG s) 0 (Nat.zero_add _)
          cases ho : gpL (wkF s (zG s)).1 t (zG s) with
          | none =>
            refine gg_iload_n dX7_answer_57 rfl rfl ?_
            refine gg_iconst (v := -1) dX7_answer_58 (by decide) ?_
            refine gg_icmp_ne (tgt := 64) dX7_answer_59 (by decide) (fun c59 => ?_) (fun c59 => ?_)
            · exact absurd rfl c59
            · refine gg_iconst (v := 0) dX7_answer_62 (by decide) ?_
              exact gg_ireturn dX7_answer_63 rfl rfl ⟨(Nat.le_of_ble_eq_true rfl), (Nat.le_of_ble_eq_true rfl)⟩ (⟨rfl, ⟨A, py, 1, mt, mc, hM, hG, hF⟩, hf⟩)
          | some g =>
            obtain ⟨hg, hw⟩ := gpL_lt _ _ ho
            have h5 : zf s t 5 = 0 := by
              have h8 := (wkF_one _ _ _ hw).1
              unfold zGo at h8
              simp only [Bool.and_eq_true, beq_iff_eq] at h8
              exact h8.1
            rcases (show k = 0 ∨ k = 1 ∨ k = 2 by omega) with rfl | rfl | rfl
            · have hG2 := (hG.setF ht 5 1).setF (t := t) ht 6 (nI g)
              have hG3 : AG (up2 (up2 A 9 (upd (A 9) t 1)) 10 (upd (A 10) t (nI g))) py (setTe s (up2 (zf s) t (taF (zf s t) 0 (nI g) (zr s 6))) (zm s) (zp s)) := by
                have h3 : AG (up2 (up2 A 9 (upd (A 9) t 1)) 10 (upd (A 10) t (nI g))) py (setTe s (up2 (up2 (zf s) t (upd (zf s t) 5 1)) t (upd ((up2 (zf s) t (upd (zf s t) 5 1)) t) 6 (nI g))) (zm s) (zp s)) := hG2
                rw [up2_2, up2_s] at h3
                exact h3
              refine gg_iload_n dX7_answer_57 rfl rfl ?_
              refine gg_iconst (v := -1) dX7_answer_58 (by decide) ?_
              refine gg_icmp_ne (tgt := 64) dX7_answer_59 (by decide) (fun c59 => ?_) (fun c59 => ?_)
              · refine gg_iload_n dX7_answer_64 rfl rfl ?_
                refine gg_if_ne (tgt := 85) dX7_answer_65 (by decide) (fun c65 => ?_) (fun c65 => ?_)
                · exact absurd rfl c65
                · refine gg_aload_n dX7_answer_68 rfl rfl ?_
                  refine gf_X7_38 rfl dX7_answer_69 hM.1 rfl ?_
                  refine gg_iload_n dX7_answer_72 rfl rfl ?_
                  refine gg_iconst (v := 1) dX7_answer_73 (by decide) ?_
                  refine gg_ast_i (t) dX7_answer_74 hM.a9 rfl (by omega) (by decide) ?_
                  refine MPs_9 hM hf (fun S hM hf => ?_)
                  refine gg_aload_n dX7_answer_75 rfl rfl ?_
                  refine gf_X7_41 rfl dX7_answer_76 hM.1 rfl ?_
                  refine gg_iload_n dX7_answer_79 rfl rfl ?_
                  refine gg_iload_n dX7_answer_80 rfl rfl ?_
                  refine gg_ast_i (t) dX7_answer_81 hM.a10 rfl (by omega) (by decide) ?_
                  refine MPs_10 hM hf (fun S hM hf => ?_)
                  refine gg_goto (tgt := 137) dX7_answer_82 (by decide) ?_
                  refine gg_aload_n dX7_answer_137 rfl rfl ?_
                  refine gg_iconst (v := 0) dX7_answer_138 (by decide) ?_
                  refine pf_X7_116 rfl dX7_answer_139 hM.1 (Nat.le_of_ble_eq_true rfl) rfl rfl ?_
                  refine MPs_fr hM hf (fun S hM hf => ?_)
                  refine gg_iconst (v := 1) dX7_answer_142 (by decide) ?_
                  exact gg_ireturn dX7_answer_143 rfl rfl ⟨(Nat.le_of_ble_eq_true rfl), (Nat.le_of_ble_eq_true rfl)⟩ (⟨rfl, ⟨_, py, 0, mt, mc, hM, hG3, Or.inl rfl⟩, hf⟩)
              · exact absurd c59 (nI_m1 (k := g) (by omega))
            · refine gg_iload_n dX7_answer_57 rfl rfl ?_
              refine gg_iconst (v := -1) dX7_answer_58 (by decide) ?_
              refine gg_icmp_ne (tgt := 64) dX7_answer_59 (by decide) (fun c59 => ?_) (fun c59 => ?_)
              · refine gg_iload_n dX7_answer_64 rfl rfl ?_
                refine gg_if_ne (tgt := 85) dX7_answer_65 (by decide) (fun c65 => ?_) (fun c65 => ?_)
                · refine gg_iload_n dX7_answer_85 rfl rfl ?_
                  refine gg_iconst (v := 1) dX7_answer_86 (by decide) ?_
                  refine gg_icmp_ne (tgt := 100) dX7_answer_87 (by decide) (fun c87 => ?_) (fun c87 => ?_)
                  · exact absurd rfl c87
                  · refine gg_aload_n dX7_answer_90 rfl rfl ?_
                    refine gf_X7_38 rfl dX7_answer_91 hM.1 rfl ?_
                    refine gg_iload_n dX7_answer_94 rfl rfl ?_
                    refine gg_iconst (v := 2) dX7_answer_95 (by decide) ?_
                    refine gg_ast_i (t) dX7_answer_96 hM.a9 rfl (by omega) (by decide) ?_
                    refine MPs_9 hM hf (fun S hM hf => ?_)
                    refine gg_goto (tgt := 137) dX7_answer_97 (by decide) ?_
                    refine gg_aload_n dX7_answer_137 rfl rfl ?_
                    refine gg_iconst (v := 0) dX7_answer_138 (by decide) ?_
                    refine pf_X7_116 rfl dX7_answer_139 hM.1 (Nat.le_of_ble_eq_true rfl) rfl rfl ?_
                    refine MPs_fr hM hf (fun S hM hf => ?_)
                    refine gg_iconst (v := 1) dX7_answer_142 (by decide) ?_
                    exact gg_ireturn dX7_answer_143 rfl rfl ⟨(Nat.le_of_ble_eq_true rfl), (Nat.le_of_ble_eq_true rfl)⟩ (⟨rfl, ⟨_, py, 0, mt, mc, hM, hG.setF ht 5 2, Or.inl rfl⟩, hf⟩)
                · exact absurd c65 (by decide)
              · exact absurd c59 (nI_m1 (k := g) (by omega))
            · have hG2 : ∀ v : Int32, AG (up2 (up2 A 11 (upd (A 11) t (zf s t 7 + 1))) 9 (upd (A 9) t v)) py (setTe s (up2 (zf s) t (upd (upd (zf s t) 7 (zf s t 7 + 1)) 5 v)) (zm s) (zp s)) := fun v => by
                have h3 : AG (up2 (up2 A 11 (upd (A 11) t (zf s t 7 + 1))) 9 (upd (A 9) t v)) py (setTe s (up2 (up2 (zf s) t (upd (zf s t) 7 (zf s t 7 + 1))) t (upd ((up2 (zf s) t (upd (zf s t) 7 (zf s t 7 + 1))) t) 5 v)) (zm s) (zp s)) := (hG.setF ht 7 (zf s t 7 + 1)).setF (t := t) ht 5 v
                rw [up2_2, up2_s] at h3
                exact h3
              refine gg_iload_n dX7_answer_57 rfl rfl ?_
              refine gg_iconst (v := -1) dX7_answer_58 (by decide) ?_
              refine gg_icmp_ne (tgt := 64) dX7_answer_59 (by decide) (fun c59 => ?_) (fun c59 => ?_)
              · refine gg_iload_n dX7_answer_64 rfl rfl ?_
                refine gg_if_ne (tgt := 85) dX7_answer_65 (by decide) (fun c65 => ?_) (fun c65 => ?_)
                · refine gg_iload_n dX7_answer_85 rfl rfl ?_
                  refine gg_iconst (v := 1) dX7_answer_86 (by decide) ?_
                  refine gg_icmp_ne (tgt := 100) dX7_answer_87 (by decide) (fun c87 => ?_) (fun c87 => ?_)
                  · refine gg_aload_n dX7_answer_100 rfl rfl ?_
                    refine gf_X7_44 rfl dX7_answer_101 hM.1 rfl ?_
                    refine gg_iload_n dX7_answer_104 rfl rfl ?_
                    refine gg_dup2 dX7_answer_105 rfl rfl ?_
                    refine gg_ald_i (t) dX7_answer_106 hM.a11 rfl (by omega) (by decide) ?_
                    rw [show A 11 t = zf s t 7 from hG.f ht 7]
                    refine gg_iconst (v := 1) dX7_answer_107 (by decide) ?_
                    refine gg_iadd dX7_answer_108 ?_
                    refine gg_ast_i (t) dX7_answer_109 hM.a11 rfl (by omega) (by decide) ?_
                    refine MPs_11 hM hf (fun S hM hf => ?_)
                    refine gg_aload_n dX7_answer_110 rfl rfl ?_
                    refine gf_X7_38 rfl dX7_answer_111 hM.1 rfl ?_
                    refine gg_iload_n dX7_answer_114 rfl rfl ?_
                    refine gg_aload_n dX7_answer_115 rfl rfl ?_
                    refine gf_X7_44 rfl dX7_answer_116 hM.1 rfl ?_
                    refine gg_iload_n dX7_answer_119 rfl rfl ?_
                    refine gg_ald_i (t) dX7_answer_120 hM.a11 rfl (by omega) (by decide) ?_
                    rw [show (up2 A 11 (upd (A 11) t (zf s t 7 + 1))) 11 t = zf s t 7 + 1 by rw [up2_s, pk_us]]
                    refine gg_aload_n dX7_answer_121 rfl rfl ?_
                    refine gf_X7_13 rfl dX7_answer_122 hM.1 rfl ?_
                    refine gg_bipush (v := 6) dX7_answer_125 (by decide) ?_
                    refine gg_ald_i (6) dX7_answer_127 hM.a1 rfl (by omega) (by decide) ?_
                    rw [show (up2 A 11 (upd (A 11) t (zf s t 7 + 1))) 1 6 = zr s 6 from hG.r 6]
                    refine gg_icmp_lt (tgt := 135) dX7_answer_128 (by decide) (fun c128 => ?_) (fun c128 => ?_)
                    · have e9 : taF (zf s t) 2 (nI g) (zr s 6) = upd (upd (zf s t) 7 (zf s t 7 + 1)) 5 0 := ta_lt h5 c128
                      refine gg_iconst (v := 0) dX7_answer_135 (by decide) ?_
                      refine gg_ast_i (t) dX7_answer_136 hM.a9 rfl (by omega) (by decide) ?_
                      refine MPs_9 hM hf (fun S hM hf => ?_)
                      refine gg_aload_n dX7_answer_137 rfl rfl ?_
                      refine gg_iconst (v := 0) dX7_answer_138 (by decide) ?_
                      refine pf_X7_116 rfl dX7_answer_139 hM.1 (Nat.le_of_ble_eq_true rfl) rfl rfl ?_
                      refine MPs_fr hM hf (fun S hM hf => ?_)
                      refine gg_iconst (v := 1) dX7_answer_142 (by decide) ?_
                      exact gg_ireturn dX7_answer_143 rfl rfl ⟨(Nat.le_of_ble_eq_true rfl), (Nat.le_of_ble_eq_true rfl)⟩ (⟨rfl, ⟨_, py, 0, mt, mc, hM, by dsimp only; rw [Option.getD_some, e9]; exact hG2 _, Or.inl rfl⟩, hf⟩)
                    · have e9 : taF (zf s t) 2 (nI g) (zr s 6) = upd (upd (zf s t) 7 (zf s t 7 + 1)) 5 2 := ta_ge c128
                      refine gg_iconst (v := 2) dX7_answer_131 (by decide) ?_
                      refine gg_goto (tgt := 136) dX7_answer_132 (by decide) ?_
                      refine gg_ast_i (t) dX7_answer_136 hM.a9 rfl (by omega) (by decide) ?_
                      refine MPs_9 hM hf (fun S hM hf => ?_)
                      refine gg_aload_n dX7_answer_137 rfl rfl ?_
                      refine gg_iconst (v := 0) dX7_answer_138 (by decide) ?_
                      refine pf_X7_116 rfl dX7_answer_139 hM.1 (Nat.le_of_ble_eq_true rfl) rfl rfl ?_
                      refine MPs_fr hM hf (fun S hM hf => ?_)
                      refine gg_iconst (v := 1) dX7_answer_142 (by decide) ?_
                      exact gg_ireturn dX7_answer_143 rfl rfl ⟨(Nat.le_of_ble_eq_true rfl), (Nat.le_of_ble_eq_true rfl)⟩ (⟨rfl, ⟨_, py, 0, mt, mc, hM, by dsimp only; rw [Option.getD_some, e9]; exact hG2 _, Or.inl rfl⟩, hf⟩)
                  · exact absurd c87 (by decide)
                · exact absurd c65 (by decide)
              · exact absurd c59 (nI_m1 (k := g) (by omega))
        · exact absurd c14 (by decide)
