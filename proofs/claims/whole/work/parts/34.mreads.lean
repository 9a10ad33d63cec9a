/-! THE MODEL: what only reads -/
theorem sp_X7_can {S : gl_H} {A : Nat → Nat → Int32} {py : Nat → Int64} {s : DS} {fr mt mc : Int32} (hM : MPR S (A) (py) (zn s) (zD s) (zT s) (zG s) ((zv s).2.2.2) (fr) (mt) (mc)) (hG : AG A py s) (hW : DW s) (t9 g9 : Int32) : Sp mX7_can yX7_can [.ref 70, .int t9, .int g9] S (fun r S1 => S1 = S ∧ r = some (.int (caA s t9 g9))) := by
  refine gl_enter (j := 0) (by decide +kernel) rfl (fun h => absurd h (by decide)) (Nat.le_of_ble_eq_true rfl) rfl (fun x => ?_)
  have htc := hW.1
  have hgc := hW.2.1
  have hgn := hW.2.2.2.1
  rcases tix_cases (n := zT s) (by omega) t9 with ⟨e1, e2⟩ | ⟨t, ht, rfl, e1⟩
  · rw [show caA s t9 g9 = -1 by unfold caA; rw [e1]]
    refine gg_aload_n dX7_can_0 rfl rfl ?_
    refine gg_iload_n dX7_can_1 rfl rfl ?_
    refine gg_callV (sp_X7_isTeacher hM (t9)) dX7_can_2 kw_X7_126 rfl hM.1 rfl rfl (Nat.le_of_ble_eq_true rfl) (Nat.le_of_ble_eq_true rfl) (Nat.le_of_ble_eq_true rfl) ⟨(Nat.le_of_ble_eq_true rfl), (Nat.le_of_ble_eq_true rfl)⟩ (fun r S1 hq => ?_)
    refine gg_k (k2 := (0, 0)) rfl ?_
    obtain ⟨e9, rfl⟩ := hq
    rw [e9, if_neg e2]
    clear e9 S1
    refine gg_if_eq (tgt := 16) dX7_can_5 (by decide) (fun c5 => ?_) (fun c5 => ?_)
    · refine gg_iconst (v := -1) dX7_can_16 (by decide) ?_
      refine gg_goto (tgt := 34) dX7_can_17 (by decide) ?_
      exact gg_ireturn dX7_can_34 rfl rfl ⟨(Nat.le_of_ble_eq_true rfl), (Nat.le_of_ble_eq_true rfl)⟩ (⟨rfl, rfl⟩)
    · exact absurd rfl c5
  · have e2 := tix_in (n := zT s) (by omega) ht
    rcases tix_cases (n := zG s) (by omega) g9 with ⟨e3, e4⟩ | ⟨g, hg, rfl, e3⟩
    · rw [show caA s (nI t) g9 = -1 by unfold caA; rw [e1, e3]]
      refine gg_aload_n dX7_can_0 rfl rfl ?_
      refine gg_iload_n dX7_can_1 rfl rfl ?_
      refine gg_callV (sp_X7_isTeacher hM (nI t)) dX7_can_2 kw_X7_126 rfl hM.1 rfl rfl (Nat.le_of_ble_eq_true rfl) (Nat.le_of_ble_eq_true rfl) (Nat.le_of_ble_eq_true rfl) ⟨(Nat.le_of_ble_eq_true rfl), (Nat.le_of_ble_eq_true rfl)⟩ (fun r S1 hq => ?_)
      refine gg_k (k2 := (0, 0)) rfl ?_
      obtain ⟨e9, rfl⟩ := hq
      rw [e9, if_pos e2]
      clear e9 S1
      refine gg_if_eq (tgt := 16) dX7_can_5 (by decide) (fun c5 => ?_) (fun c5 => ?_)
      · exact absurd c5 (by decide)
      · refine gg_aload_n dX7_can_8 rfl rfl ?_
        refine gg_iload_n dX7_can_9 rfl rfl ?_
        refine gg_callV (sp_X7_isGap hM (g9)) dX7_can_10 kw_X7_136 rfl hM.1 rfl rfl (Nat.le_of_ble_eq_true rfl) (Nat.le_of_ble_eq_true rfl) (Nat.le_of_ble_eq_true rfl) ⟨(Nat.le_of_ble_eq_true rfl), (Nat.le_of_ble_eq_true rfl)⟩ (fun r S1 hq => ?_)
        refine gg_k (k2 := (0, 0)) rfl ?_
        obtain ⟨e9, rfl⟩ := hq
        rw [e9, if_neg e4]
        clear e9 S1
        refine gg_if_ne (tgt := 20) dX7_can_13 (by decide) (fun c13 => ?_) (fun c13 => ?_)
        · exact absurd rfl c13
        · refine gg_iconst (v := -1) dX7_can_16 (by decide) ?_
          refine gg_goto (tgt := 34) dX7_can_17 (by decide) ?_
          exact gg_ireturn dX7_can_34 rfl rfl ⟨(Nat.le_of_ble_eq_true rfl), (Nat.le_of_ble_eq_true rfl)⟩ (⟨rfl, rfl⟩)
    · have e4 := tix_in (n := zG s) (by omega) hg
      rw [show caA s (nI t) (nI g) = bI (zFl s t g) by unfold caA; rw [e1, e3]]
      refine gg_aload_n dX7_can_0 rfl rfl ?_
      refine gg_iload_n dX7_can_1 rfl rfl ?_
      refine gg_callV (sp_X7_isTeacher hM (nI t)) dX7_can_2 kw_X7_126 rfl hM.1 rfl rfl (Nat.le_of_ble_eq_true rfl) (Nat.le_of_ble_eq_true rfl) (Nat.le_of_ble_eq_true rfl) ⟨(Nat.le_of_ble_eq_true rfl), (Nat.le_of_ble_eq_true rfl)⟩ (fun r S1 hq => ?_)
      refine gg_k (k2 := (0, 0)) rfl ?_
      obtain ⟨e9, rfl⟩ := hq
      rw [e9, if_pos e2]
      clear e9 S1
      refine gg_if_eq (tgt := 16) dX7_can_5 (by decide) (fun c5 => ?_) (fun c5 => ?_)
      · exact absurd c5 (by decide)
      · refine gg_aload_n dX7_can_8 rfl rfl ?_
        refine gg_iload_n dX7_can_9 rfl rfl ?_
        refine gg_callV (sp_X7_isGap hM (nI g)) dX7_can_10 kw_X7_136 rfl hM.1 rfl rfl (Nat.le_of_ble_eq_true rfl) (Nat.le_of_ble_eq_true rfl) (Nat.le_of_ble_eq_true rfl) ⟨(Nat.le_of_ble_eq_true rfl), (Nat.le_of_ble_eq_true rfl)⟩ (fun r S1 hq => ?_)
        refine gg_k (k2 := (0, 0)) rfl ?_
        obtain ⟨e9, rfl⟩ := hq
        rw [e9, if_pos e4]
        clear e9 S1
        refine gg_if_ne (tgt := 20) dX7_can_13 (by decide) (fun c13 => ?_) (fun c13 => ?_)
        · refine gg_aload_n dX7_can_20 rfl rfl ?_
          refine gg_iload_n dX7_can_21 rfl rfl ?_
          refine gg_iload_n dX7_can_22 rfl rfl ?_
          refine gg_callV (sp_X7_canFill hM hG ht hg (hgn g hg).1 htc hgc) dX7_can_23 kw_X7_139 rfl hM.1 rfl rfl (Nat.le_of_ble_eq_true rfl) (Nat.le_of_ble_eq_true rfl) (Nat.le_of_ble_eq_true rfl) ⟨(Nat.le_of_ble_eq_true rfl), (Nat.le_of_ble_eq_true rfl)⟩ (fun r S1 hq => ?_)
          refine gg_k (k2 := (0, 0)) rfl ?_
          obtain ⟨e9, rfl⟩ := hq
          rw [e9]
          clear e9 S1
          refine gg_if_eq (tgt := 33) dX7_can_26 (by decide) (fun c26 => ?_) (fun c26 => ?_)
          · rw [bI_z c26]
            refine gg_iconst (v := 0) dX7_can_33 (by decide) ?_
            exact gg_ireturn dX7_can_34 rfl rfl ⟨(Nat.le_of_ble_eq_true rfl), (Nat.le_of_ble_eq_true rfl)⟩ (⟨rfl, rfl⟩)
          · rw [bI_nz c26]
            refine gg_iconst (v := 1) dX7_can_29 (by decide) ?_
            refine gg_goto (tgt := 34) dX7_can_30 (by decide) ?_
            exact gg_ireturn dX7_can_34 rfl rfl ⟨(Nat.le_of_ble_eq_true rfl), (Nat.le_of_ble_eq_true rfl)⟩ (⟨rfl, rfl⟩)
        · exact absurd c13 (by decide)
theorem sp_X7_cost {S : gl_H} {A : Nat → Nat → Int32} {py : Nat → Int64} {s : DS} {fr mt mc : Int32} (hM : MPR S (A) (py) (zn s) (zD s) (zT s) (zG s) ((zv s).2.2.2) (fr) (mt) (mc)) (hG : AG A py s) (hW : DW s) (t9 g9 : Int32) : Sp mX7_cost yX7_cost [.ref 70, .int t9, .int g9] S (fun r S1 => S1 = S ∧ r = some (.int (coA s t9 g9))) := by
  refine gl_enter (j := 0) (by decide +kernel) rfl (fun h => absurd h (by decide)) (Nat.le_of_ble_eq_true rfl) rfl (fun x => ?_)
  have htc := hW.1
  have hgc := hW.2.1
  have hgn := hW.2.2.2.1
  rcases tix_cases (n := zT s) (by omega) t9 with ⟨e1, e2⟩ | ⟨t, ht, rfl, e1⟩
  · rw [show coA s t9 g9 = -1 by unfold coA; rw [e1]]
    refine gg_aload_n dX7_cost_0 rfl rfl ?_
    refine gg_iload_n dX7_cost_1 rfl rfl ?_
    refine gg_callV (sp_X7_isTeacher hM (t9)) dX7_cost_2 kw_X7_126 rfl hM.1 rfl rfl (Nat.le_of_ble_eq_true rfl) (Nat.le_of_ble_eq_true rfl) (Nat.le_of_ble_eq_true rfl) ⟨(Nat.le_of_ble_eq_true rfl), (Nat.le_of_ble_eq_true rfl)⟩ (fun r S1 hq => ?_)
    refine gg_k (k2 := (0, 0)) rfl ?_
    obtain ⟨e9, rfl⟩ := hq
    rw [e9, if_neg e2]
    clear e9 S1
    refine gg_if_eq (tgt := 34) dX7_cost_5 (by decide) (fun c5 => ?_) (fun c5 => ?_)
    · refine gg_iconst (v := -1) dX7_cost_34 (by decide) ?_
      exact gg_ireturn dX7_cost_35 rfl rfl ⟨(Nat.le_of_ble_eq_true rfl), (Nat.le_of_ble_eq_true rfl)⟩ (⟨rfl, rfl⟩)
    · exact absurd rfl c5
  · have e2 := tix_in (n := zT s) (by omega) ht
    rcases tix_cases (n := zG s) (by omega) g9 with ⟨e3, e4⟩ | ⟨g, hg, rfl, e3⟩
    · rw [show coA s (nI t) g9 = -1 by unfold coA; rw [e1, e3]]
      refine gg_aload_n dX7_cost_0 rfl rfl ?_
      refine gg_iload_n dX7_cost_1 rfl rfl ?_
      refine gg_callV (sp_X7_isTeacher hM (nI t)) dX7_cost_2 kw_X7_126 rfl hM.1 rfl rfl (Nat.le_of_ble_eq_true rfl) (Nat.le_of_ble_eq_true rfl) (Nat.le_of_ble_eq_true rfl) ⟨(Nat.le_of_ble_eq_true rfl), (Nat.le_of_ble_eq_true rfl)⟩ (fun r S1 hq => ?_)
      refine gg_k (k2 := (0, 0)) rfl ?_
      obtain ⟨e9, rfl⟩ := hq
      rw [e9, if_pos e2]
      clear e9 S1
      refine gg_if_eq (tgt := 34) dX7_cost_5 (by decide) (fun c5 => ?_) (fun c5 => ?_)
      · exact absurd c5 (by decide)
      · refine gg_aload_n dX7_cost_8 rfl rfl ?_
        refine gg_iload_n dX7_cost_9 rfl rfl ?_
        refine gg_callV (sp_X7_isGap hM (g9)) dX7_cost_10 kw_X7_136 rfl hM.1 rfl rfl (Nat.le_of_ble_eq_true rfl) (Nat.le_of_ble_eq_true rfl) (Nat.le_of_ble_eq_true rfl) ⟨(Nat.le_of_ble_eq_true rfl), (Nat.le_of_ble_eq_true rfl)⟩ (fun r S1 hq => ?_)
        refine gg_k (k2 := (0, 0)) rfl ?_
        obtain ⟨e9, rfl⟩ := hq
        rw [e9, if_neg e4]
        clear e9 S1
        refine gg_if_eq (tgt := 34) dX7_cost_13 (by decide) (fun c13 => ?_) (fun c13 => ?_)
        · refine gg_iconst (v := -1) dX7_cost_34 (by decide) ?_
          exact gg_ireturn dX7_cost_35 rfl rfl ⟨(Nat.le_of_ble_eq_true rfl), (Nat.le_of_ble_eq_true rfl)⟩ (⟨rfl, rfl⟩)
        · exact absurd rfl c13
    · have e4 := tix_in (n := zG s) (by omega) hg
      rw [show coA s (nI t) (nI g) = if zFl s t g then zCs s t g else -1 by unfold coA; rw [e1, e3]]
      refine gg_aload_n dX7_cost_0 rfl rfl ?_
      refine gg_iload_n dX7_cost_1 rfl rfl ?_
      refine gg_callV (sp_X7_isTeacher hM (nI t)) dX7_cost_2 kw_X7_126 rfl hM.1 rfl rfl (Nat.le_of_ble_eq_true rfl) (Nat.le_of_ble_eq_true rfl) (Nat.le_of_ble_eq_true rfl) ⟨(Nat.le_of_ble_eq_true rfl), (Nat.le_of_ble_eq_true rfl)⟩ (fun r S1 hq => ?_)
      refine gg_k (k2 := (0, 0)) rfl ?_
      obtain ⟨e9, rfl⟩ := hq
      rw [e9, if_pos e2]
      clear e9 S1
      refine gg_if_eq (tgt := 34) dX7_cost_5 (by decide) (fun c5 => ?_) (fun c5 => ?_)
      · exact absurd c5 (by decide)
      · refine gg_aload_n dX7_cost_8 rfl rfl ?_
        refine gg_iload_n dX7_cost_9 rfl rfl ?_
        refine gg_callV (sp_X7_isGap hM (nI g)) dX7_cost_10 kw_X7_136 rfl hM.1 rfl rfl (Nat.le_of_ble_eq_true rfl) (Nat.le_of_ble_eq_true rfl) (Nat.le_of_ble_eq_true rfl) ⟨(Nat.le_of_ble_eq_true rfl), (Nat.le_of_ble_eq_true rfl)⟩ (fun r S1 hq => ?_)
        refine gg_k (k2 := (0, 0)) rfl ?_
        obtain ⟨e9, rfl⟩ := hq
        rw [e9, if_pos e4]
        clear e9 S1
        refine gg_if_eq (tgt := 34) dX7_cost_13 (by decide) (fun c13 => ?_) (fun c13 => ?_)
        · exact absurd c13 (by decide)
        · refine gg_aload_n dX7_cost_16 rfl rfl ?_
          refine gg_iload_n dX7_cost_17 rfl rfl ?_
          refine gg_iload_n dX7_cost_18 rfl rfl ?_
          refine gg_callV (sp_X7_canFill hM hG ht hg (hgn g hg).1 htc hgc) dX7_cost_19 kw_X7_139 rfl hM.1 rfl rfl (Nat.le_of_ble_eq_true rfl) (Nat.le_of_ble_eq_true rfl) (Nat.le_of_ble_eq_true rfl) ⟨(Nat.le_of_ble_eq_true rfl), (Nat.le_of_ble_eq_true rfl)⟩ (fun r S1 hq => ?_)
          refine gg_k (k2 := (0, 0)) rfl ?_
          obtain ⟨e9, rfl⟩ := hq
          rw [e9]
          clear e9 S1
          refine gg_if_eq (tgt := 34) dX7_cost_22 (by decide) (fun c22 => ?_) (fun c22 => ?_)
          · rw [if_neg (by rw [bI_z c22]; decide)]
            refine gg_iconst (v := -1) dX7_cost_34 (by decide) ?_
            exact gg_ireturn dX7_cost_35 rfl rfl ⟨(Nat.le_of_ble_eq_true rfl), (Nat.le_of_ble_eq_true rfl)⟩ (⟨rfl, rfl⟩)
          · rw [if_pos (bI_nz c22)]
            refine gg_aload_n dX7_cost_25 rfl rfl ?_
            refine gg_iload_n dX7_cost_26 rfl rfl ?_
            refine gg_iload_n dX7_cost_27 rfl rfl ?_
            refine gg_callV (sp_X7_costOf hM hG ht hg (hgn g hg).1 htc hgc) dX7_cost_28 kw_X7_142 rfl hM.1 rfl rfl (Nat.le_of_ble_eq_true rfl) (Nat.le_of_ble_eq_true rfl) (Nat.le_of_ble_eq_true rfl) ⟨(Nat.le_of_ble_eq_true rfl), (Nat.le_of_ble_eq_true rfl)⟩ (fun r S1 hq => ?_)
            refine gg_k (k2 := (0, 0)) rfl ?_
            obtain ⟨e9, rfl⟩ := hq
            rw [e9]
            clear e9 S1
            refine gg_goto (tgt := 35) dX7_cost_31 (by decide) ?_
            exact gg_ireturn dX7_cost_35 rfl rfl ⟨(Nat.le_of_ble_eq_true rfl), (Nat.le_of_ble_eq_true rfl)⟩ (⟨rfl, rfl⟩)
theorem sn_loop {S : gl_H} {A : Nat → Nat → Int32} {py : Nat → Int64} {s : DS} {n day gc vs : Nat} {fr mt mc : Int32} (hM : MPR S (A) (py) (n) (day) (zT s) (gc) (vs) (fr) (mt) (mc)) (hG : AG A py s) (htc : zT s ≤ 12) {g : Int32} (x : gl_X) {Q : Option Value → gl_H → Prop} : ∀ (m t : Nat), t + m = zT s → Q (some (.int (oI (ffst (fun t => (zf s t 5 == 1) && (zf s t 6 == g)) t m)))) S → GG mX7_senderOf x (gl_Z mX7_senderOf x Q) 2 [some (.ref 70), some (.int g), some (.int (nI t))] [] S (0, 0) := by
  intro m
  induction m with
  | zero =>
    intro t hm hQ
    have e : zT s = t := by omega
    refine gg_iload_n dX7_senderOf_2 rfl rfl ?_
    refine gg_aload_n dX7_senderOf_3 rfl rfl ?_
    refine gf_X7_120 rfl dX7_senderOf_4 hM.1 rfl ?_
    refine gg_icmp_ge (tgt := 38) dX7_senderOf_7 (by decide) (fun c7 => ?_) (fun c7 => ?_)
    · refine gg_iconst (v := -1) dX7_senderOf_38 (by decide) ?_
      exact gg_ireturn dX7_senderOf_39 rfl rfl ⟨(Nat.le_of_ble_eq_true rfl), (Nat.le_of_ble_eq_true rfl)⟩ (hQ)
    · exact absurd (nI_le (Nat.le_of_eq e) (by omega)) c7
  | succ m ih =>
    intro t hm hQ
    have ht : t < zT s := by omega
    have e0 : ffst (fun t => (zf s t 5 == 1) && (zf s t 6 == g)) t (m + 1) = if ((zf s t 5 == 1) && (zf s t 6 == g)) then some t else ffst (fun t => (zf s t 5 == 1) && (zf s t 6 == g)) (t + 1) m := rfl
    rw [e0] at hQ
    refine gg_iload_n dX7_senderOf_2 rfl rfl ?_
    refine gg_aload_n dX7_senderOf_3 rfl rfl ?_
    refine gf_X7_120 rfl dX7_senderOf_4 hM.1 rfl ?_
    refine gg_icmp_ge (tgt := 38) dX7_senderOf_7 (by decide) (fun c7 => ?_) (fun c7 => ?_)
    · exact absurd (n_le c7) (by omega)
    · refine gg_aload_n dX7_senderOf_10 rfl rfl ?_
      refine gf_X7_38 rfl dX7_senderOf_11 hM.1 rfl ?_
      refine gg_iload_n dX7_senderOf_14 rfl rfl ?_
      refine gg_ald_i (t) dX7_senderOf_15 hM.a9 rfl (by omega) (by decide) ?_
      rw [show A 9 t = zf s t 5 from hG.f ht 5]
      refine gg_iconst (v := 1) dX7_senderOf_16 (by decide) ?_
      refine gg_icmp_ne (tgt := 32) dX7_senderOf_17 (by decide) (fun c17 => ?_) (fun c17 => ?_)
      · have e : ¬ ((zf s t 5 == 1) && (zf s t 6 == g)) = true := by simp [c17]
        refine gg_iinc (w := nI (t + 1)) dX7_senderOf_32 rfl (nI_1 t) (Nat.le_of_ble_eq_true rfl) rfl ?_
        refine gg_goto (tgt := 2) dX7_senderOf_35 (by decide) ?_
        exact ih (t + 1) (by omega) (by rw [if_neg e] at hQ; exact hQ)
      · refine gg_aload_n dX7_senderOf_20 rfl rfl ?_
        refine gf_X7_41 rfl dX7_senderOf_21 hM.1 rfl ?_
        refine gg_iload_n dX7_senderOf_24 rfl rfl ?_
        refine gg_ald_i (t) dX7_senderOf_25 hM.a10 rfl (by omega) (by decide) ?_
        rw [show A 10 t = zf s t 6 from hG.f ht 6]
        refine gg_iload_n dX7_senderOf_26 rfl rfl ?_
        refine gg_icmp_ne (tgt := 32) dX7_senderOf_27 (by decide) (fun c27 => ?_) (fun c27 => ?_)
        · have e : ¬ ((zf s t 5 == 1) && (zf s t 6 == g)) = true := by simp [c27]
          refine gg_iinc (w := nI (t + 1)) dX7_senderOf_32 rfl (nI_1 t) (Nat.le_of_ble_eq_true rfl) rfl ?_
          refine gg_goto (tgt := 2) dX7_senderOf_35 (by decide) ?_
          exact ih (t + 1) (by omega) (by rw [if_neg e] at hQ; exact hQ)
        · have e : ((zf s t 5 == 1) && (zf s t 6 == g)) = true := by simp [c17, c27]
          rw [if_pos e] at hQ
          refine gg_iload_n dX7_senderOf_30 rfl rfl ?_
          exact gg_ireturn dX7_senderOf_31 rfl rfl ⟨(Nat.le_of_ble_eq_true rfl), (Nat.le_of_ble_eq_true rfl)⟩ (hQ)
theorem sp_X7_senderOf {S : gl_H} {A : Nat → Nat → Int32} {py : Nat → Int64} {s : DS} {n day gc vs : Nat} {fr mt mc : Int32} (hM : MPR S (A) (py) (n) (day) (zT s) (gc) (vs) (fr) (mt) (mc)) (hG : AG A py s) (htc : zT s ≤ 12) (g : Nat) : Sp mX7_senderOf yX7_senderOf [.ref 70, .int (nI g)] S (fun r S1 => S1 = S ∧ r = some (.int (oI (opB (zf s) (zT s) g)))) := by
  refine gl_enter (j := 1) (by decide +kernel) rfl (fun h => absurd h (by decide)) (Nat.le_of_ble_eq_true rfl) rfl (fun x => ?_)
  refine gg_iconst (v := 0) dX7_senderOf_0 (by decide) ?_
  refine gg_istore_n dX7_senderOf_1 rfl (Nat.le_of_ble_eq_true rfl) rfl ?_
  exact sn_loop hM hG htc x (zT s) 0 (by omega) ⟨rfl, rfl⟩
def zGo (s : DS) (t g : Nat) : Bool := (zf s t 5 == 0) && zFl s t g
theorem sp_X7_goes {S : gl_H} {A : Nat → Nat → Int32} {py : Nat → Int64} {s : DS} {n tc gc vs : Nat} {fr mt mc : Int32} (hM : MPR S (A) (py) (n) (zD s) (tc) (gc) (vs) (fr) (mt) (mc)) (hG : AG A py s) {t g : Nat} (ht : t < zT s) (hg : g < zG s) (hsc : zg s g 0 < 6) (htc : zT s ≤ 12) (hgc : zG s ≤ 10) : Sp mX7_goes yX7_goes [.ref 70, .int (nI t), .int (nI g)] S (fun r S1 => S1 = S ∧ r = some (.int (bI (zGo s t g)))) := by
  refine gl_enter (j := 0) (by decide +kernel) rfl (fun h => absurd h (by decide)) (Nat.le_of_ble_eq_true rfl) rfl (fun x => ?_)
  refine gg_aload_n dX7_goes_0 rfl rfl ?_
  refine gf_X7_38 rfl dX7_goes_1 hM.1 rfl ?_
  refine gg_iload_n dX7_goes_4 rfl rfl ?_
  refine gg_ald_i (t) dX7_goes_5 hM.a9 rfl (by omega) (by decide) ?_
  rw [show A 9 t = zf s t 5 from hG.f ht 5]
  refine gg_if_ne (tgt := 22) dX7_goes_6 (by decide) (fun c6 => ?_) (fun c6 => ?_)
  · have e : zGo s t g = false := by unfold zGo; simp [c6]
    refine gg_iconst (v := 0) dX7_goes_22 (by decide) ?_
    exact gg_ireturn dX7_goes_23 rfl rfl ⟨(Nat.le_of_ble_eq_true rfl), (Nat.le_of_ble_eq_true rfl)⟩ (⟨rfl, by rw [e]; rfl⟩)
  · have e : zGo s t g = zFl s t g := by unfold zGo; simp [c6]
    refine gg_aload_n dX7_goes_9 rfl rfl ?_
    refine gg_iload_n dX7_goes_10 rfl rfl ?_
    refine gg_iload_n dX7_goes_11 rfl rfl ?_
    refine gg_callV (sp_X7_canFill hM hG ht hg hsc htc hgc) dX7_goes_12 kw_X7_139 rfl hM.1 rfl rfl (Nat.le_of_ble_eq_true rfl) (Nat.le_of_ble_eq_true rfl) (Nat.le_of_ble_eq_true rfl) ⟨(Nat.le_of_ble_eq_true rfl), (Nat.le_of_ble_eq_true rfl)⟩ (fun r S1 hq => ?_)
    refine gg_k (k2 := (0, 0)) rfl ?_
    obtain ⟨e9, rfl⟩ := hq
    rw [e9]
    clear e9 S1
    refine gg_if_eq (tgt := 22) dX7_goes_15 (by decide) (fun c15 => ?_) (fun c15 => ?_)
    · rw [bI_z c15] at e
      refine gg_iconst (v := 0) dX7_goes_22 (by decide) ?_
      exact gg_ireturn dX7_goes_23 rfl rfl ⟨(Nat.le_of_ble_eq_true rfl), (Nat.le_of_ble_eq_true rfl)⟩ (⟨rfl, by rw [e]; rfl⟩)
    · rw [bI_nz c15] at e
      refine gg_iconst (v := 1) dX7_goes_18 (by decide) ?_
      refine gg_goto (tgt := 23) dX7_goes_19 (by decide) ?_
      exact gg_ireturn dX7_goes_23 rfl rfl ⟨(Nat.le_of_ble_eq_true rfl), (Nat.le_of_ble_eq_true rfl)⟩ (⟨rfl, by rw [e]; rfl⟩)
theorem sp_X7_pay {S : gl_H} {A : Nat → Nat → Int32} {py : Nat → Int64} {s : DS} {fr mt mc : Int32} (hM : MPR S (A) (py) (zn s) (zD s) (zT s) (zG s) ((zv s).2.2.2) (fr) (mt) (mc)) (hG : AG A py s) (hW : DW s) (t9 : Int32) : Sp mX7_pay yX7_pay [.ref 70, .int t9] S (fun r S1 => S1 = S ∧ r = some (.long (paA s t9))) := by
  refine gl_enter (j := 0) (by decide +kernel) rfl (fun h => absurd h (by decide)) (Nat.le_of_ble_eq_true rfl) rfl (fun x => ?_)
  have htc := hW.1
  have hgc := hW.2.1
  have hgn := hW.2.2.2.1
  rcases tix_cases (n := zT s) (by omega) t9 with ⟨e1, e2⟩ | ⟨t, ht, rfl, e1⟩
  · rw [show paA s t9 = 0 by unfold paA; rw [e1]]
    refine gg_aload_n dX7_pay_0 rfl rfl ?_
    refine gg_iload_n dX7_pay_1 rfl rfl ?_
    refine gg_callV (sp_X7_isTeacher hM (t9)) dX7_pay_2 kw_X7_126 rfl hM.1 rfl rfl (Nat.le_of_ble_eq_true rfl) (Nat.le_of_ble_eq_true rfl) (Nat.le_of_ble_eq_true rfl) ⟨(Nat.le_of_ble_eq_true rfl), (Nat.le_of_ble_eq_true rfl)⟩ (fun r S1 hq => ?_)
    refine gg_k (k2 := (0, 0)) rfl ?_
    obtain ⟨e9, rfl⟩ := hq
    rw [e9, if_neg e2]
    clear e9 S1
    refine gg_if_eq (tgt := 17) dX7_pay_5 (by decide) (fun c5 => ?_) (fun c5 => ?_)
    · refine gg_lconst (v := 0) dX7_pay_17 (by decide) ?_
      exact gg_lreturn dX7_pay_18 rfl ⟨(Nat.le_of_ble_eq_true rfl), (Nat.le_of_ble_eq_true rfl)⟩ (⟨rfl, rfl⟩)
    · exact absurd rfl c5
  · have e2 := tix_in (n := zT s) (by omega) ht
    rw [show paA s (nI t) = zp s t by unfold paA; rw [e1], ← hG.2.2.2.2.1 t ht]
    refine gg_aload_n dX7_pay_0 rfl rfl ?_
    refine gg_iload_n dX7_pay_1 rfl rfl ?_
    refine gg_callV (sp_X7_isTeacher hM (nI t)) dX7_pay_2 kw_X7_126 rfl hM.1 rfl rfl (Nat.le_of_ble_eq_true rfl) (Nat.le_of_ble_eq_true rfl) (Nat.le_of_ble_eq_true rfl) ⟨(Nat.le_of_ble_eq_true rfl), (Nat.le_of_ble_eq_true rfl)⟩ (fun r S1 hq => ?_)
    refine gg_k (k2 := (0, 0)) rfl ?_
    obtain ⟨e9, rfl⟩ := hq
    rw [e9, if_pos e2]
    clear e9 S1
    refine gg_if_eq (tgt := 17) dX7_pay_5 (by decide) (fun c5 => ?_) (fun c5 => ?_)
    · exact absurd c5 (by decide)
    · refine gg_aload_n dX7_pay_8 rfl rfl ?_
      refine gf_X7_50 rfl dX7_pay_9 hM.1 rfl ?_
      refine gg_iload_n dX7_pay_12 rfl rfl ?_
      refine gg_ald_l (t) dX7_pay_13 hM.2.2.1 rfl (by omega) (by decide) ?_
      refine gg_goto (tgt := 18) dX7_pay_14 (by decide) ?_
      exact gg_lreturn dX7_pay_18 rfl ⟨(Nat.le_of_ble_eq_true rfl), (Nat.le_of_ble_eq_true rfl)⟩ (⟨rfl, rfl⟩)
theorem sp_X7_kept {S : gl_H} {A : Nat → Nat → Int32} {py : Nat → Int64} {n day tc gc vs : Nat} {fr mt mc : Int32} (hM : MPR S (A) (py) (n) (day) (tc) (gc) (vs) (fr) (mt) (mc)) (hvs : vs < 2 ^ 30) : Sp mX7_kept yX7_kept [.ref 70] S (fun r S1 => S1 = S ∧ r = some (.int (nI (vK vs)))) := by
  refine gl_enter (j := 0) (by decide +kernel) rfl (fun h => absurd h (by decide)) (Nat.le_of_ble_eq_true rfl) rfl (fun x => ?_)
  refine gg_aload_n dX7_kept_0 rfl rfl ?_
  refine gf_X7_168 rfl dX7_kept_1 hM.1 rfl ?_
  refine gg_sipush (v := 400) dX7_kept_4 (by decide) ?_
  refine gg_icmp_ge (tgt := 17) dX7_kept_7 (by decide) (fun c7 => ?_) (fun c7 => ?_)
  · rw [show vK vs = 400 from if_neg (by have := n_le (a := 400) c7; omega)]
    refine gg_sipush (v := 400) dX7_kept_17 (by decide) ?_
    exact gg_ireturn dX7_kept_20 rfl rfl ⟨(Nat.le_of_ble_eq_true rfl), (Nat.le_of_ble_eq_true rfl)⟩ (⟨rfl, rfl⟩)
  · rw [show vK vs = vs from if_pos (n_nle (a := 400) c7)]
    refine gg_aload_n dX7_kept_10 rfl rfl ?_
    refine gf_X7_168 rfl dX7_kept_11 hM.1 rfl ?_
    refine gg_goto (tgt := 20) dX7_kept_14 (by decide) ?_
    exact gg_ireturn dX7_kept_20 rfl rfl ⟨(Nat.le_of_ble_eq_true rfl), (Nat.le_of_ble_eq_true rfl)⟩ (⟨rfl, rfl⟩)
theorem tw_loop {S : gl_H} {A : Nat → Nat → Int32} {py : Nat → Int64} {s : DS} {n day gc vs : Nat} {fr mt mc : Int32} (hM : MPR S (A) (py) (n) (day) (zT s) (gc) (vs) (fr) (mt) (mc)) (hG : AG A py s) (htc : zT s ≤ 12) {h : Int32} (x : gl_X) : ∀ (m t : Nat), t + m = zT s → GG mX7_thoseWho x (gl_Z mX7_thoseWho x (fun r S1 => S1 = S ∧ r = some (.int (nI (cntN (fun t => zf s t 5 == h) (zT s)))))) 4 [some (.ref 70), some (.int h), some (.int (nI (cntN (fun t => zf s t 5 == h) t))), some (.int (nI t))] [] S (0, 0) := by
  intro m
  induction m with
  | zero =>
    intro t hm
    have e : t = zT s := by omega
    subst e
    refine gg_iload_n dX7_thoseWho_4 rfl rfl ?_
    refine gg_aload_n dX7_thoseWho_5 rfl rfl ?_
    refine gf_X7_120 rfl dX7_thoseWho_6 hM.1 rfl ?_
    refine gg_icmp_ge (tgt := 36) dX7_thoseWho_9 (by decide) (fun c9 => ?_) (fun c9 => ?_)
    · refine gg_iload_n dX7_thoseWho_36 rfl rfl ?_
      exact gg_ireturn dX7_thoseWho_37 rfl rfl ⟨(Nat.le_of_ble_eq_true rfl), (Nat.le_of_ble_eq_true rfl)⟩ (⟨rfl, rfl⟩)
    · exact absurd (nI_le (Nat.le_refl _) (by omega)) c9
  | succ m ih =>
    intro t hm
    have ht : t < zT s := by omega
    have h9 := ih (t + 1) (by omega)
    refine gg_iload_n dX7_thoseWho_4 rfl rfl ?_
    refine gg_aload_n dX7_thoseWho_5 rfl rfl ?_
    refine gf_X7_120 rfl dX7_thoseWho_6 hM.1 rfl ?_
    refine gg_icmp_ge (tgt := 36) dX7_thoseWho_9 (by decide) (fun c9 => ?_) (fun c9 => ?_)
    · exact absurd (n_le c9) (by omega)
    · refine gg_iload_n dX7_thoseWho_12 rfl rfl ?_
      refine gg_aload_n dX7_thoseWho_13 rfl rfl ?_
      refine gf_X7_38 rfl dX7_thoseWho_14 hM.1 rfl ?_
      refine gg_iload_n dX7_thoseWho_17 rfl rfl ?_
      refine gg_ald_i (t) dX7_thoseWho_18 hM.a9 rfl (by omega) (by decide) ?_
      rw [show A 9 t = zf s t 5 from hG.f ht 5]
      refine gg_iload_n dX7_thoseWho_19 rfl rfl ?_
      refine gg_icmp_ne (tgt := 27) dX7_thoseWho_20 (by decide) (fun c20 => ?_) (fun c20 => ?_)
      · rw [show cntN (fun t => zf s t 5 == h) (t + 1) = cntN (fun t => zf s t 5 == h) t from if_neg (by simp [c20])] at h9
        refine gg_iconst (v := 0) dX7_thoseWho_27 (by decide) ?_
        refine gg_iadd dX7_thoseWho_28 ?_
        first | rw [Int32.add_zero] | skip
        refine gg_istore_n dX7_thoseWho_29 rfl (Nat.le_of_ble_eq_true rfl) rfl ?_
        refine gg_iinc (w := nI (t + 1)) dX7_thoseWho_30 rfl (nI_1 t) (Nat.le_of_ble_eq_true rfl) rfl ?_
        refine gg_goto (tgt := 4) dX7_thoseWho_33 (by decide) ?_
        exact h9
      · rw [show cntN (fun t => zf s t 5 == h) (t + 1) = cntN (fun t => zf s t 5 == h) t + 1 from if_pos (by simp [c20]), ← nI_1] at h9
        refine gg_iconst (v := 1) dX7_thoseWho_23 (by decide) ?_
        refine gg_goto (tgt := 28) dX7_thoseWho_24 (by decide) ?_
        refine gg_iadd dX7_thoseWho_28 ?_
        first | rw [Int32.add_zero] | skip
        refine gg_istore_n dX7_thoseWho_29 rfl (Nat.le_of_ble_eq_true rfl) rfl ?_
        refine gg_iinc (w := nI (t + 1)) dX7_thoseWho_30 rfl (nI_1 t) (Nat.le_of_ble_eq_true rfl) rfl ?_
        refine gg_goto (tgt := 4) dX7_thoseWho_33 (by decide) ?_
        exact h9
theorem sp_X7_thoseWho {S : gl_H} {A : Nat → Nat → Int32} {py : Nat → Int64} {s : DS} {n day gc vs : Nat} {fr mt mc : Int32} (hM : MPR S (A) (py) (n) (day) (zT s) (gc) (vs) (fr) (mt) (mc)) (hG : AG A py s) (htc : zT s ≤ 12) (h : Int32) : Sp mX7_thoseWho yX7_thoseWho [.ref 70, .int h] S (fun r S1 => S1 = S ∧ r = some (.int (nI (cntN (fun t => zf s t 5 == h) (zT s))))) := by
  refine gl_enter (j := 2) (by decide +kernel) rfl (fun h => absurd h (by decide)) (Nat.le_of_ble_eq_true rfl) rfl (fun x => ?_)
  refine gg_iconst (v := 0) dX7_thoseWho_0 (by decide) ?_
  refine gg_istore_n dX7_thoseWho_1 rfl (Nat.le_of_ble_eq_true rfl) rfl ?_
  refine gg_iconst (v := 0) dX7_thoseWho_2 (by decide) ?_
  refine gg_istore_n dX7_thoseWho_3 rfl (Nat.le_of_ble_eq_true rfl) rfl ?_
  exact tw_loop hM hG htc x (zT s) 0 (by omega)
theorem lk_out {f mn : Nat → Int32} {w : Int32} (hne : ∀ j, j < 9 → ¬ w = nI j) (c10 : ¬ (10 ≤ w ∧ w ≤ 15)) : lkV f mn w = -1 := by
  unfold lkV
  rw [if_neg (hne 0 (by decide)), if_neg (hne 1 (by decide)), if_neg (hne 2 (by decide)), if_neg (hne 3 (by decide)), if_neg (hne 4 (by decide)), if_neg (hne 5 (by decide)), if_neg (hne 6 (by decide)), if_neg (hne 7 (by decide)), if_neg (hne 8 (by decide))]
  rcases tix_cases (n := 6) (by decide) (w - 10) with ⟨e3, e4⟩ | ⟨k, hk, e4, e3⟩
  · rw [e3]
  · exact absurd ((w10 6 w 15 (by decide) (by decide)).mp (by rw [e4]; exact tix_in (n := 6) (by decide) hk)) c10
theorem cu_out {s : DS} {w : Int32} (hne : ∀ j, j < 7 → ¬ w = nI j) (c10 : ¬ (10 ≤ w ∧ w ≤ 16)) : cuA s w = -1 := by
  unfold cuA
  rw [if_neg (hne 0 (by decide)), if_neg (hne 1 (by decide)), if_neg (hne 2 (by decide)), if_neg (hne 3 (by decide)), if_neg (hne 4 (by decide)), if_neg (hne 5 (by decide)), if_neg (hne 6 (by decide))]
  rcases tix_cases (n := 7) (by decide) (w - 10) with ⟨e3, e4⟩ | ⟨k, hk, e4, e3⟩
  · rw [e3]
  · exact absurd ((w10 7 w 16 (by decide) (by decide)).mp (by rw [e4]; exact tix_in (n := 7) (by decide) hk)) c10
theorem sp_X7_look {S : gl_H} {A : Nat → Nat → Int32} {py : Nat → Int64} {s : DS} {fr mt mc : Int32} (hM : MPR S (A) (py) (zn s) (zD s) (zT s) (zG s) ((zv s).2.2.2) (fr) (mt) (mc)) (hG : AG A py s) (hW : DW s) (t9 w : Int32) : Sp mX7_look yX7_look [.ref 70, .int t9, .int w] S (fun r S1 => S1 = S ∧ r = some (.int (loA s t9 w))) := by
  refine gl_enter (j := 0) (by decide +kernel) rfl (fun h => absurd h (by decide)) (Nat.le_of_ble_eq_true rfl) rfl (fun x => ?_)
  have htc := hW.1
  have hgc := hW.2.1
  have hgn := hW.2.2.2.1
  rcases tix_cases (n := zT s) (by omega) t9 with ⟨e1, e2⟩ | ⟨t, ht, rfl, e1⟩
  · rw [show loA s t9 w = -1 by unfold loA; rw [e1]]
    refine gg_aload_n dX7_look_0 rfl rfl ?_
    refine gg_iload_n dX7_look_1 rfl rfl ?_
    refine gg_callV (sp_X7_isTeacher hM (t9)) dX7_look_2 kw_X7_126 rfl hM.1 rfl rfl (Nat.le_of_ble_eq_true rfl) (Nat.le_of_ble_eq_true rfl) (Nat.le_of_ble_eq_true rfl) ⟨(Nat.le_of_ble_eq_true rfl), (Nat.le_of_ble_eq_true rfl)⟩ (fun r S1 hq => ?_)
    refine gg_k (k2 := (0, 0)) rfl ?_
    obtain ⟨e9, rfl⟩ := hq
    rw [e9, if_neg e2]
    clear e9 S1
    refine gg_if_ne (tgt := 10) dX7_look_5 (by decide) (fun c5 => ?_) (fun c5 => ?_)
    · exact absurd rfl c5
    · refine gg_iconst (v := -1) dX7_look_8 (by decide) ?_
      exact gg_ireturn dX7_look_9 rfl rfl ⟨(Nat.le_of_ble_eq_true rfl), (Nat.le_of_ble_eq_true rfl)⟩ (⟨rfl, rfl⟩)
  · have e2 := tix_in (n := zT s) (by omega) ht
    rw [show loA s (nI t) w = lkV (zf s t) (zm s t) w by unfold loA; rw [e1]]
    by_cases c10 : 10 ≤ w ∧ w ≤ 15
    · rcases tix_cases (n := 6) (by decide) (w - 10) with ⟨e3, e4⟩ | ⟨k, hk, e4, e3⟩
      · exact absurd ((w10 6 w 15 (by decide) (by decide)).mpr c10) e4
      have ew : w = nI (10 + k) := by
        rw [show nI (10 + k) = 10 + nI k from (nI_add 10 k).symm, ← e4]
        exact (by rw [Int32.add_comm, Int32.sub_add_cancel] : (10 : Int32) + (w - 10) = w).symm
      have hne : ∀ j, j < 9 → ¬ w = nI j := fun j hj z => by
        rw [ew] at z
        have := n_eq z
        omega
      rw [show lkV (zf s t) (zm s t) w = zm s t k by unfold lkV; rw [if_neg (hne 0 (by decide)), if_neg (hne 1 (by decide)), if_neg (hne 2 (by decide)), if_neg (hne 3 (by decide)), if_neg (hne 4 (by decide)), if_neg (hne 5 (by decide)), if_neg (hne 6 (by decide)), if_neg (hne 7 (by decide)), if_neg (hne 8 (by decide)), e3]]
      refine gg_aload_n dX7_look_0 rfl rfl ?_
      refine gg_iload_n dX7_look_1 rfl rfl ?_
      refine gg_callV (sp_X7_isTeacher hM (nI t)) dX7_look_2 kw_X7_126 rfl hM.1 rfl rfl (Nat.le_of_ble_eq_true rfl) (Nat.le_of_ble_eq_true rfl) (Nat.le_of_ble_eq_true rfl) ⟨(Nat.le_of_ble_eq_true rfl), (Nat.le_of_ble_eq_true rfl)⟩ (fun r S1 hq => ?_)
      refine gg_k (k2 := (0, 0)) rfl ?_
      obtain ⟨e9, rfl⟩ := hq
      rw [e9, if_pos e2]
      clear e9 S1
      refine gg_if_ne (tgt := 10) dX7_look_5 (by decide) (fun c5 => ?_) (fun c5 => ?_)
      · refine gg_iload_n dX7_look_10 rfl rfl ?_
        refine gg_bipush (v := 10) dX7_look_11 (by decide) ?_
        refine gg_bipush (v := 15) dX7_look_13 (by decide) ?_
        refine gg_callS (sp_X7_lies S w 10 15) dX7_look_15 kw_X7_97 rfl rfl (Nat.le_of_ble_eq_true rfl) (Nat.le_of_ble_eq_true rfl) (Nat.le_of_ble_eq_true rfl) ⟨(Nat.le_of_ble_eq_true rfl), (Nat.le_of_ble_eq_true rfl)⟩ (fun r S1 hq => ?_)
        refine gg_k (k2 := (0, 0)) rfl ?_
        obtain ⟨e9, rfl⟩ := hq
        rw [e9, if_pos c10]
        clear e9 S1
        refine gg_if_eq (tgt := 36) dX7_look_18 (by decide) (fun c18 => ?_) (fun c18 => ?_)
        · exact absurd c18 (by decide)
        · refine gg_aload_n dX7_look_21 rfl rfl ?_
          refine gf_X7_29 rfl dX7_look_22 hM.1 rfl ?_
          refine gg_bipush (v := 6) dX7_look_25 (by decide) ?_
          refine gg_iload_n dX7_look_27 rfl rfl ?_
          refine gg_imul dX7_look_28 ?_
          refine gg_iload_n dX7_look_29 rfl rfl ?_
          refine gg_iadd dX7_look_30 ?_
          refine gg_bipush (v := 10) dX7_look_31 (by decide) ?_
          refine gg_isub dX7_look_33 ?_
          refine gg_ald_i (6 * t + k) dX7_look_34 hM.a6 (by rw [ew, m6, show 6 * t + (10 + k) = (6 * t + k) + 10 by omega, ← nI_add (6 * t + k) 10]; exact Int32.add_sub_cancel _ _) (by omega) (by decide) ?_
          rw [hG.m ht hk]
          exact gg_ireturn dX7_look_35 rfl rfl ⟨(Nat.le_of_ble_eq_true rfl), (Nat.le_of_ble_eq_true rfl)⟩ (⟨rfl, rfl⟩)
      · exact absurd c5 (by decide)
    · refine gg_aload_n dX7_look_0 rfl rfl ?_
      refine gg_iload_n dX7_look_1 rfl rfl ?_
      refine gg_callV (sp_X7_isTeacher hM (nI t)) dX7_look_2 kw_X7_126 rfl hM.1 rfl rfl (Nat.le_of_ble_eq_true rfl) (Nat.le_of_ble_eq_true rfl) (Nat.le_of_ble_eq_true rfl) ⟨(Nat.le_of_ble_eq_true rfl), (Nat.le_of_ble_eq_true rfl)⟩ (fun r S1 hq => ?_)
      refine gg_k (k2 := (0, 0)) rfl ?_
      obtain ⟨e9, rfl⟩ := hq
      rw [e9, if_pos e2]
      clear e9 S1
      refine gg_if_ne (tgt := 10) dX7_look_5 (by decide) (fun c5 => ?_) (fun c5 => ?_)
      · refine gg_iload_n dX7_look_10 rfl rfl ?_
        refine gg_bipush (v := 10) dX7_look_11 (by decide) ?_
        refine gg_bipush (v := 15) dX7_look_13 (by decide) ?_
        refine gg_callS (sp_X7_lies S w 10 15) dX7_look_15 kw_X7_97 rfl rfl (Nat.le_of_ble_eq_true rfl) (Nat.le_of_ble_eq_true rfl) (Nat.le_of_ble_eq_true rfl) ⟨(Nat.le_of_ble_eq_true rfl), (Nat.le_of_ble_eq_true rfl)⟩ (fun r S1 hq => ?_)
        refine gg_k (k2 := (0, 0)) rfl ?_
        obtain ⟨e9, rfl⟩ := hq
        rw [e9, if_neg c10]
        clear e9 S1
        refine gg_if_eq (tgt := 36) dX7_look_18 (by decide) (fun c18 => ?_) (fun c18 => ?_)
        · refine gg_iload_n dX7_look_36 rfl rfl ?_
          rcases pk_ix w (n := 9) (by decide) with hw | hw | ⟨j, hj, rfl⟩
          · obtain ⟨ho, hne⟩ := sw_out (n := 9) (by decide) (Or.inl hw)
            refine gg_tabOut (tgt := 151) dX7_look_37 ho (by decide) ?_
            refine gg_iconst (v := -1) dX7_look_151 (by decide) ?_
            rw [lk_out hne c10]
            exact gg_ireturn dX7_look_152 rfl rfl ⟨(Nat.le_of_ble_eq_true rfl), (Nat.le_of_ble_eq_true rfl)⟩ (⟨rfl, rfl⟩)
          · obtain ⟨ho, hne⟩ := sw_out (n := 9) (by decide) (Or.inr hw)
            refine gg_tabOut (tgt := 151) dX7_look_37 ho (by decide) ?_
            refine gg_iconst (v := -1) dX7_look_151 (by decide) ?_
            rw [lk_out hne c10]
            exact gg_ireturn dX7_look_152 rfl rfl ⟨(Nat.le_of_ble_eq_true rfl), (Nat.le_of_ble_eq_true rfl)⟩ (⟨rfl, rfl⟩)
          · rcases (show j = 0 ∨ j = 1 ∨ j = 2 ∨ j = 3 ∨ j = 4 ∨ j = 5 ∨ j = 6 ∨ j = 7 ∨ j = 8 by omega) with rfl | rfl | rfl | rfl | rfl | rfl | rfl | rfl | rfl
            · refine gg_tabIn (off := 51) (tgt := 88) dX7_look_37 (by decide) (by decide) (by decide) (by decide) ?_
              refine gg_aload_n dX7_look_88 rfl rfl ?_
              refine gf_X7_20 rfl dX7_look_89 hM.1 rfl ?_
              refine gg_iload_n dX7_look_92 rfl rfl ?_
              refine gg_ald_i (t) dX7_look_93 hM.a3 rfl (by omega) (by decide) ?_
              rw [show A 3 t = zf s t 0 from hG.f ht 0]
              exact gg_ireturn dX7_look_94 rfl rfl ⟨(Nat.le_of_ble_eq_true rfl), (Nat.le_of_ble_eq_true rfl)⟩ (⟨rfl, rfl⟩)
            · refine gg_tabIn (off := 58) (tgt := 95) dX7_look_37 (by decide) (by decide) (by decide) (by decide) ?_
              refine gg_aload_n dX7_look_95 rfl rfl ?_
              refine gf_X7_23 rfl dX7_look_96 hM.1 rfl ?_
              refine gg_iload_n dX7_look_99 rfl rfl ?_
              refine gg_ald_i (t) dX7_look_100 hM.a4 rfl (by omega) (by decide) ?_
              rw [show A 4 t = zf s t 1 from hG.f ht 1]
              exact gg_ireturn dX7_look_101 rfl rfl ⟨(Nat.le_of_ble_eq_true rfl), (Nat.le_of_ble_eq_true rfl)⟩ (⟨rfl, rfl⟩)
            · refine gg_tabIn (off := 65) (tgt := 102) dX7_look_37 (by decide) (by decide) (by decide) (by decide) ?_
              refine gg_aload_n dX7_look_102 rfl rfl ?_
              refine gf_X7_26 rfl dX7_look_103 hM.1 rfl ?_
              refine gg_iload_n dX7_look_106 rfl rfl ?_
              refine gg_ald_i (t) dX7_look_107 hM.a5 rfl (by omega) (by decide) ?_
              rw [show A 5 t = zf s t 2 from hG.f ht 2]
              exact gg_ireturn dX7_look_108 rfl rfl ⟨(Nat.le_of_ble_eq_true rfl), (Nat.le_of_ble_eq_true rfl)⟩ (⟨rfl, rfl⟩)
            · refine gg_tabIn (off := 72) (tgt := 109) dX7_look_37 (by decide) (by decide) (by decide) (by decide) ?_
              refine gg_aload_n dX7_look_109 rfl rfl ?_
              refine gf_X7_38 rfl dX7_look_110 hM.1 rfl ?_
              refine gg_iload_n dX7_look_113 rfl rfl ?_
              refine gg_ald_i (t) dX7_look_114 hM.a9 rfl (by omega) (by decide) ?_
              rw [show A 9 t = zf s t 5 from hG.f ht 5]
              exact gg_ireturn dX7_look_115 rfl rfl ⟨(Nat.le_of_ble_eq_true rfl), (Nat.le_of_ble_eq_true rfl)⟩ (⟨rfl, rfl⟩)
            · refine gg_tabIn (off := 79) (tgt := 116) dX7_look_37 (by decide) (by decide) (by decide) (by decide) ?_
              refine gg_aload_n dX7_look_116 rfl rfl ?_
              refine gf_X7_41 rfl dX7_look_117 hM.1 rfl ?_
              refine gg_iload_n dX7_look_120 rfl rfl ?_
              refine gg_ald_i (t) dX7_look_121 hM.a10 rfl (by omega) (by decide) ?_
              rw [show A 10 t = zf s t 6 from hG.f ht 6]
              exact gg_ireturn dX7_look_122 rfl rfl ⟨(Nat.le_of_ble_eq_true rfl), (Nat.le_of_ble_eq_true rfl)⟩ (⟨rfl, rfl⟩)
            · refine gg_tabIn (off := 86) (tgt := 123) dX7_look_37 (by decide) (by decide) (by decide) (by decide) ?_
              refine gg_aload_n dX7_look_123 rfl rfl ?_
              refine gf_X7_44 rfl dX7_look_124 hM.1 rfl ?_
              refine gg_iload_n dX7_look_127 rfl rfl ?_
              refine gg_ald_i (t) dX7_look_128 hM.a11 rfl (by omega) (by decide) ?_
              rw [show A 11 t = zf s t 7 from hG.f ht 7]
              exact gg_ireturn dX7_look_129 rfl rfl ⟨(Nat.le_of_ble_eq_true rfl), (Nat.le_of_ble_eq_true rfl)⟩ (⟨rfl, rfl⟩)
            · refine gg_tabIn (off := 93) (tgt := 130) dX7_look_37 (by decide) (by decide) (by decide) (by decide) ?_
              refine gg_aload_n dX7_look_130 rfl rfl ?_
              refine gf_X7_47 rfl dX7_look_131 hM.1 rfl ?_
              refine gg_iload_n dX7_look_134 rfl rfl ?_
              refine gg_ald_i (t) dX7_look_135 hM.a12 rfl (by omega) (by decide) ?_
              rw [show A 12 t = zf s t 8 from hG.f ht 8]
              exact gg_ireturn dX7_look_136 rfl rfl ⟨(Nat.le_of_ble_eq_true rfl), (Nat.le_of_ble_eq_true rfl)⟩ (⟨rfl, rfl⟩)
            · refine gg_tabIn (off := 100) (tgt := 137) dX7_look_37 (by decide) (by decide) (by decide) (by decide) ?_
              refine gg_aload_n dX7_look_137 rfl rfl ?_
              refine gf_X7_32 rfl dX7_look_138 hM.1 rfl ?_
              refine gg_iload_n dX7_look_141 rfl rfl ?_
              refine gg_ald_i (t) dX7_look_142 hM.a7 rfl (by omega) (by decide) ?_
              rw [show A 7 t = zf s t 3 from hG.f ht 3]
              exact gg_ireturn dX7_look_143 rfl rfl ⟨(Nat.le_of_ble_eq_true rfl), (Nat.le_of_ble_eq_true rfl)⟩ (⟨rfl, rfl⟩)
            · refine gg_tabIn (off := 107) (tgt := 144) dX7_look_37 (by decide) (by decide) (by decide) (by decide) ?_
              refine gg_aload_n dX7_look_144 rfl rfl ?_
              refine gf_X7_35 rfl dX7_look_145 hM.1 rfl ?_
              refine gg_iload_n dX7_look_148 rfl rfl ?_
              refine gg_ald_i (t) dX7_look_149 hM.a8 rfl (by omega) (by decide) ?_
              rw [show A 8 t = zf s t 4 from hG.f ht 4]
              exact gg_ireturn dX7_look_150 rfl rfl ⟨(Nat.le_of_ble_eq_true rfl), (Nat.le_of_ble_eq_true rfl)⟩ (⟨rfl, rfl⟩)
        · exact absurd rfl c18
      · exact absurd c5 (by decide)
theorem sp_X7_about {S : gl_H} {A : Nat → Nat → Int32} {py : Nat → Int64} {s : DS} {fr mt mc : Int32} (hM : MPR S (A) (py) (zn s) (zD s) (zT s) (zG s) ((zv s).2.2.2) (fr) (mt) (mc)) (hG : AG A py s) (hW : DW s) (g9 w : Int32) : Sp mX7_about yX7_about [.ref 70, .int g9, .int w] S (fun r S1 => S1 = S ∧ r = some (.int (abA s g9 w))) := by
  refine gl_enter (j := 0) (by decide +kernel) rfl (fun h => absurd h (by decide)) (Nat.le_of_ble_eq_true rfl) rfl (fun x => ?_)
  have htc := hW.1
  have hgc := hW.2.1
  have hgn := hW.2.2.2.1
  rcases tix_cases (n := zG s) (by omega) g9 with ⟨e1, e2⟩ | ⟨g, hg, rfl, e1⟩
  · rw [show abA s g9 w = -1 by unfold abA; rw [e1]]
    refine gg_aload_n dX7_about_0 rfl rfl ?_
    refine gg_iload_n dX7_about_1 rfl rfl ?_
    refine gg_callV (sp_X7_isGap hM (g9)) dX7_about_2 kw_X7_136 rfl hM.1 rfl rfl (Nat.le_of_ble_eq_true rfl) (Nat.le_of_ble_eq_true rfl) (Nat.le_of_ble_eq_true rfl) ⟨(Nat.le_of_ble_eq_true rfl), (Nat.le_of_ble_eq_true rfl)⟩ (fun r S1 hq => ?_)
    refine gg_k (k2 := (0, 0)) rfl ?_
    obtain ⟨e9, rfl⟩ := hq
    rw [e9, if_neg e2]
    clear e9 S1
    refine gg_if_ne (tgt := 10) dX7_about_5 (by decide) (fun c5 => ?_) (fun c5 => ?_)
    · exact absurd rfl c5
    · refine gg_iconst (v := -1) dX7_about_8 (by decide) ?_
      exact gg_ireturn dX7_about_9 rfl rfl ⟨(Nat.le_of_ble_eq_true rfl), (Nat.le_of_ble_eq_true rfl)⟩ (⟨rfl, rfl⟩)
  · have e2 := tix_in (n := zG s) (by omega) hg
    rw [show abA s (nI g) w = abV (fun k => nI (zg s g k)) w by unfold abA; rw [e1]]
    refine gg_aload_n dX7_about_0 rfl rfl ?_
    refine gg_iload_n dX7_about_1 rfl rfl ?_
    refine gg_callV (sp_X7_isGap hM (nI g)) dX7_about_2 kw_X7_136 rfl hM.1 rfl rfl (Nat.le_of_ble_eq_true rfl) (Nat.le_of_ble_eq_true rfl) (Nat.le_of_ble_eq_true rfl) ⟨(Nat.le_of_ble_eq_true rfl), (Nat.le_of_ble_eq_true rfl)⟩ (fun r S1 hq => ?_)
    refine gg_k (k2 := (0, 0)) rfl ?_
    obtain ⟨e9, rfl⟩ := hq
    rw [e9, if_pos e2]
    clear e9 S1
    refine gg_if_ne (tgt := 10) dX7_about_5 (by decide) (fun c5 => ?_) (fun c5 => ?_)
    · refine gg_iload_n dX7_about_10 rfl rfl ?_
      rcases pk_ix w (n := 5) (by decide) with hw | hw | ⟨j, hj, rfl⟩
      · obtain ⟨ho, hne⟩ := sw_out (n := 5) (by decide) (Or.inl hw)
        refine gg_tabOut (tgt := 79) dX7_about_11 ho (by decide) ?_
        refine gg_iconst (v := -1) dX7_about_79 (by decide) ?_
        rw [show abV (fun k => nI (zg s g k)) w = -1 by unfold abV; rw [if_neg (hne 0 (by decide)), if_neg (hne 1 (by decide)), if_neg (hne 2 (by decide)), if_neg (hne 3 (by decide)), if_neg (hne 4 (by decide))]]
        exact gg_ireturn dX7_about_80 rfl rfl ⟨(Nat.le_of_ble_eq_true rfl), (Nat.le_of_ble_eq_true rfl)⟩ (⟨rfl, rfl⟩)
      · obtain ⟨ho, hne⟩ := sw_out (n := 5) (by decide) (Or.inr hw)
        refine gg_tabOut (tgt := 79) dX7_about_11 ho (by decide) ?_
        refine gg_iconst (v := -1) dX7_about_79 (by decide) ?_
        rw [show abV (fun k => nI (zg s g k)) w = -1 by unfold abV; rw [if_neg (hne 0 (by decide)), if_neg (hne 1 (by decide)), if_neg (hne 2 (by decide)), if_neg (hne 3 (by decide)), if_neg (hne 4 (by decide))]]
        exact gg_ireturn dX7_about_80 rfl rfl ⟨(Nat.le_of_ble_eq_true rfl), (Nat.le_of_ble_eq_true rfl)⟩ (⟨rfl, rfl⟩)
      · rcases (show j = 0 ∨ j = 1 ∨ j = 2 ∨ j = 3 ∨ j = 4 by omega) with rfl | rfl | rfl | rfl | rfl
        · refine gg_tabIn (off := 33) (tgt := 44) dX7_about_11 (by decide) (by decide) (by decide) (by decide) ?_
          refine gg_aload_n dX7_about_44 rfl rfl ?_
          refine gf_X7_54 rfl dX7_about_45 hM.1 rfl ?_
          refine gg_iload_n dX7_about_48 rfl rfl ?_
          refine gg_ald_i (g) dX7_about_49 hM.a14 rfl (by omega) (by decide) ?_
          rw [show A 14 g = nI (zg s g 0) from hG.g hg 0]
          exact gg_ireturn dX7_about_50 rfl rfl ⟨(Nat.le_of_ble_eq_true rfl), (Nat.le_of_ble_eq_true rfl)⟩ (⟨rfl, rfl⟩)
        · refine gg_tabIn (off := 40) (tgt := 51) dX7_about_11 (by decide) (by decide) (by decide) (by decide) ?_
          refine gg_aload_n dX7_about_51 rfl rfl ?_
          refine gf_X7_57 rfl dX7_about_52 hM.1 rfl ?_
          refine gg_iload_n dX7_about_55 rfl rfl ?_
          refine gg_ald_i (g) dX7_about_56 hM.a15 rfl (by omega) (by decide) ?_
          rw [show A 15 g = nI (zg s g 1) from hG.g hg 1]
          exact gg_ireturn dX7_about_57 rfl rfl ⟨(Nat.le_of_ble_eq_true rfl), (Nat.le_of_ble_eq_true rfl)⟩ (⟨rfl, rfl⟩)
        · refine gg_tabIn (off := 47) (tgt := 58) dX7_about_11 (by decide) (by decide) (by decide) (by decide) ?_
          refine gg_aload_n dX7_about_58 rfl rfl ?_
          refine gf_X7_60 rfl dX7_about_59 hM.1 rfl ?_
          refine gg_iload_n dX7_about_62 rfl rfl ?_
          refine gg_ald_i (g) dX7_about_63 hM.a16 rfl (by omega) (by decide) ?_
          rw [show A 16 g = nI (zg s g 2) from hG.g hg 2]
          exact gg_ireturn dX7_about_64 rfl rfl ⟨(Nat.le_of_ble_eq_true rfl), (Nat.le_of_ble_eq_true rfl)⟩ (⟨rfl, rfl⟩)
        · refine gg_tabIn (off := 54) (tgt := 65) dX7_about_11 (by decide) (by decide) (by decide) (by decide) ?_
          refine gg_aload_n dX7_about_65 rfl rfl ?_
          refine gf_X7_63 rfl dX7_about_66 hM.1 rfl ?_
          refine gg_iload_n dX7_about_69 rfl rfl ?_
          refine gg_ald_i (g) dX7_about_70 hM.a17 rfl (by omega) (by decide) ?_
          rw [show A 17 g = nI (zg s g 3) from hG.g hg 3]
          exact gg_ireturn dX7_about_71 rfl rfl ⟨(Nat.le_of_ble_eq_true rfl), (Nat.le_of_ble_eq_true rfl)⟩ (⟨rfl, rfl⟩)
        · refine gg_tabIn (off := 61) (tgt := 72) dX7_about_11 (by decide) (by decide) (by decide) (by decide) ?_
          refine gg_aload_n dX7_about_72 rfl rfl ?_
          refine gf_X7_66 rfl dX7_about_73 hM.1 rfl ?_
          refine gg_iload_n dX7_about_76 rfl rfl ?_
          refine gg_ald_i (g) dX7_about_77 hM.a18 rfl (by omega) (by decide) ?_
          rw [show A 18 g = nI (zg s g 4) from hG.g hg 4]
          exact gg_ireturn dX7_about_78 rfl rfl ⟨(Nat.le_of_ble_eq_true rfl), (Nat.le_of_ble_eq_true rfl)⟩ (⟨rfl, rfl⟩)
    · exact absurd c5 (by decide)
theorem sp_X7_count {S : gl_H} {A : Nat → Nat → Int32} {py : Nat → Int64} {s : DS} {fr mt mc : Int32} (hM : MPR S (A) (py) (zn s) (zD s) (zT s) (zG s) ((zv s).2.2.2) (fr) (mt) (mc)) (hG : AG A py s) (hW : DW s) (hvs : (zv s).2.2.2 < 2 ^ 30) (w : Int32) : Sp mX7_count yX7_count [.ref 70, .int w] S (fun r S1 => S1 = S ∧ r = some (.int (cuA s w))) := by
  refine gl_enter (j := 0) (by decide +kernel) rfl (fun h => absurd h (by decide)) (Nat.le_of_ble_eq_true rfl) rfl (fun x => ?_)
  have htc := hW.1
  have hgc := hW.2.1
  have hgn := hW.2.2.2.1
  by_cases c10 : 10 ≤ w ∧ w ≤ 16
  · rcases tix_cases (n := 7) (by decide) (w - 10) with ⟨e3, e4⟩ | ⟨k, hk, e4, e3⟩
    · exact absurd ((w10 7 w 16 (by decide) (by decide)).mpr c10) e4
    have ew : w = nI (10 + k) := by
      rw [show nI (10 + k) = 10 + nI k from (nI_add 10 k).symm, ← e4]
      exact (by rw [Int32.add_comm, Int32.sub_add_cancel] : (10 : Int32) + (w - 10) = w).symm
    have hne : ∀ j, j < 7 → ¬ w = nI j := fun j hj z => by
      rw [ew] at z
      have := n_eq z
      omega
    rw [show cuA s w = zr s k by unfold cuA; rw [if_neg (hne 0 (by decide)), if_neg (hne 1 (by decide)), if_neg (hne 2 (by decide)), if_neg (hne 3 (by decide)), if_neg (hne 4 (by decide)), if_neg (hne 5 (by decide)), if_neg (hne 6 (by decide)), e3]]
    refine gg_iload_n dX7_count_0 rfl rfl ?_
    refine gg_bipush (v := 10) dX7_count_1 (by decide) ?_
    refine gg_bipush (v := 16) dX7_count_3 (by decide) ?_
    refine gg_callS (sp_X7_lies S w 10 16) dX7_count_5 kw_X7_97 rfl rfl (Nat.le_of_ble_eq_true rfl) (Nat.le_of_ble_eq_true rfl) (Nat.le_of_ble_eq_true rfl) ⟨(Nat.le_of_ble_eq_true rfl), (Nat.le_of_ble_eq_true rfl)⟩ (fun r S1 hq => ?_)
    refine gg_k (k2 := (0, 0)) rfl ?_
    obtain ⟨e9, rfl⟩ := hq
    rw [e9, if_pos c10]
    clear e9 S1
    refine gg_if_eq (tgt := 21) dX7_count_8 (by decide) (fun c8 => ?_) (fun c8 => ?_)
    · exact absurd c8 (by decide)
    · refine gg_aload_n dX7_count_11 rfl rfl ?_
      refine gf_X7_13 rfl dX7_count_12 hM.1 rfl ?_
      refine gg_iload_n dX7_count_15 rfl rfl ?_
      refine gg_bipush (v := 10) dX7_count_16 (by decide) ?_
      refine gg_isub dX7_count_18 ?_
      refine gg_ald_i (k) dX7_count_19 hM.a1 e4 hk (by decide) ?_
      rw [hG.r k hk]
      exact gg_ireturn dX7_count_20 rfl rfl ⟨(Nat.le_of_ble_eq_true rfl), (Nat.le_of_ble_eq_true rfl)⟩ (⟨rfl, rfl⟩)
  · refine gg_iload_n dX7_count_0 rfl rfl ?_
    refine gg_bipush (v := 10) dX7_count_1 (by decide) ?_
    refine gg_bipush (v := 16) dX7_count_3 (by decide) ?_
    refine gg_callS (sp_X7_lies S w 10 16) dX7_count_5 kw_X7_97 rfl rfl (Nat.le_of_ble_eq_true rfl) (Nat.le_of_ble_eq_true rfl) (Nat.le_of_ble_eq_true rfl) ⟨(Nat.le_of_ble_eq_true rfl), (Nat.le_of_ble_eq_true rfl)⟩ (fun r S1 hq => ?_)
    refine gg_k (k2 := (0, 0)) rfl ?_
    obtain ⟨e9, rfl⟩ := hq
    rw [e9, if_neg c10]
    clear e9 S1
    refine gg_if_eq (tgt := 21) dX7_count_8 (by decide) (fun c8 => ?_) (fun c8 => ?_)
    · refine gg_iload_n dX7_count_21 rfl rfl ?_
      rcases pk_ix w (n := 7) (by decide) with hw | hw | ⟨j, hj, rfl⟩
      · obtain ⟨ho, hne⟩ := sw_out (n := 7) (by decide) (Or.inl hw)
        refine gg_tabOut (tgt := 101) dX7_count_22 ho (by decide) ?_
        refine gg_iconst (v := -1) dX7_count_101 (by decide) ?_
        rw [cu_out hne c10]
        exact gg_ireturn dX7_count_102 rfl rfl ⟨(Nat.le_of_ble_eq_true rfl), (Nat.le_of_ble_eq_true rfl)⟩ (⟨rfl, rfl⟩)
      · obtain ⟨ho, hne⟩ := sw_out (n := 7) (by decide) (Or.inr hw)
        refine gg_tabOut (tgt := 101) dX7_count_22 ho (by decide) ?_
        refine gg_iconst (v := -1) dX7_count_101 (by decide) ?_
        rw [cu_out hne c10]
        exact gg_ireturn dX7_count_102 rfl rfl ⟨(Nat.le_of_ble_eq_true rfl), (Nat.le_of_ble_eq_true rfl)⟩ (⟨rfl, rfl⟩)
      · rcases (show j = 0 ∨ j = 1 ∨ j = 2 ∨ j = 3 ∨ j = 4 ∨ j = 5 ∨ j = 6 by omega) with rfl | rfl | rfl | rfl | rfl | rfl | rfl
        · refine gg_tabIn (off := 42) (tgt := 64) dX7_count_22 (by decide) (by decide) (by decide) (by decide) ?_
          refine gg_aload_n dX7_count_64 rfl rfl ?_
          refine gf_X7_133 rfl dX7_count_65 hM.1 rfl ?_
          exact gg_ireturn dX7_count_68 rfl rfl ⟨(Nat.le_of_ble_eq_true rfl), (Nat.le_of_ble_eq_true rfl)⟩ (⟨rfl, rfl⟩)
        · refine gg_tabIn (off := 47) (tgt := 69) dX7_count_22 (by decide) (by decide) (by decide) (by decide) ?_
          refine gg_aload_n dX7_count_69 rfl rfl ?_
          refine gf_X7_120 rfl dX7_count_70 hM.1 rfl ?_
          exact gg_ireturn dX7_count_73 rfl rfl ⟨(Nat.le_of_ble_eq_true rfl), (Nat.le_of_ble_eq_true rfl)⟩ (⟨rfl, rfl⟩)
        · refine gg_tabIn (off := 52) (tgt := 74) dX7_count_22 (by decide) (by decide) (by decide) (by decide) ?_
          refine gg_aload_n dX7_count_74 rfl rfl ?_
          refine gf_X7_123 rfl dX7_count_75 hM.1 rfl ?_
          exact gg_ireturn dX7_count_78 rfl rfl ⟨(Nat.le_of_ble_eq_true rfl), (Nat.le_of_ble_eq_true rfl)⟩ (⟨rfl, rfl⟩)
        · refine gg_tabIn (off := 57) (tgt := 79) dX7_count_22 (by decide) (by decide) (by decide) (by decide) ?_
          refine gg_aload_n dX7_count_79 rfl rfl ?_
          refine gg_iconst (v := 1) dX7_count_80 (by decide) ?_
          refine gg_callV (sp_X7_thoseWho hM hG htc 1) dX7_count_81 kw_X7_178 rfl hM.1 rfl rfl (Nat.le_of_ble_eq_true rfl) (Nat.le_of_ble_eq_true rfl) (Nat.le_of_ble_eq_true rfl) ⟨(Nat.le_of_ble_eq_true rfl), (Nat.le_of_ble_eq_true rfl)⟩ (fun r S1 hq => ?_)
          refine gg_k (k2 := (0, 0)) rfl ?_
          obtain ⟨e9, rfl⟩ := hq
          rw [e9]
          clear e9 S1
          exact gg_ireturn dX7_count_84 rfl rfl ⟨(Nat.le_of_ble_eq_true rfl), (Nat.le_of_ble_eq_true rfl)⟩ (⟨rfl, rfl⟩)
        · refine gg_tabIn (off := 63) (tgt := 85) dX7_count_22 (by decide) (by decide) (by decide) (by decide) ?_
          refine gg_aload_n dX7_count_85 rfl rfl ?_
          refine gg_iconst (v := 2) dX7_count_86 (by decide) ?_
          refine gg_callV (sp_X7_thoseWho hM hG htc 2) dX7_count_87 kw_X7_178 rfl hM.1 rfl rfl (Nat.le_of_ble_eq_true rfl) (Nat.le_of_ble_eq_true rfl) (Nat.le_of_ble_eq_true rfl) ⟨(Nat.le_of_ble_eq_true rfl), (Nat.le_of_ble_eq_true rfl)⟩ (fun r S1 hq => ?_)
          refine gg_k (k2 := (0, 0)) rfl ?_
          obtain ⟨e9, rfl⟩ := hq
          rw [e9]
          clear e9 S1
          exact gg_ireturn dX7_count_90 rfl rfl ⟨(Nat.le_of_ble_eq_true rfl), (Nat.le_of_ble_eq_true rfl)⟩ (⟨rfl, rfl⟩)
        · refine gg_tabIn (off := 69) (tgt := 91) dX7_count_22 (by decide) (by decide) (by decide) (by decide) ?_
          refine gg_aload_n dX7_count_91 rfl rfl ?_
          refine gf_X7_89 rfl dX7_count_92 hM.1 rfl ?_
          exact gg_ireturn dX7_count_95 rfl rfl ⟨(Nat.le_of_ble_eq_true rfl), (Nat.le_of_ble_eq_true rfl)⟩ (⟨rfl, rfl⟩)
        · refine gg_tabIn (off := 74) (tgt := 96) dX7_count_22 (by decide) (by decide) (by decide) (by decide) ?_
          refine gg_aload_n dX7_count_96 rfl rfl ?_
          refine gg_callV (sp_X7_kept hM hvs) dX7_count_97 kw_X7_174 rfl hM.1 rfl rfl (Nat.le_of_ble_eq_true rfl) (Nat.le_of_ble_eq_true rfl) (Nat.le_of_ble_eq_true rfl) ⟨(Nat.le_of_ble_eq_true rfl), (Nat.le_of_ble_eq_true rfl)⟩ (fun r S1 hq => ?_)
          refine gg_k (k2 := (0, 0)) rfl ?_
          obtain ⟨e9, rfl⟩ := hq
          rw [e9]
          clear e9 S1
          exact gg_ireturn dX7_count_100 rfl rfl ⟨(Nat.le_of_ble_eq_true rfl), (Nat.le_of_ble_eq_true rfl)⟩ (⟨rfl, rfl⟩)
    · exact absurd rfl c8
