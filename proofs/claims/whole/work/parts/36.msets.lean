/-! THE MODEL: what changes the state -/
theorem Sp.mono {M : gl_M} {y : MethodName} {av : List Value} {S : gl_H} {Q Q2 : Option Value → gl_H → Prop} (h : ∀ r S1, Q r S1 → Q2 r S1) (hs : Sp M y av S Q) : Sp M y av S Q2 := by
  intro l D K ad sz hb
  refine Met.conseq ?_ (hs l D K ad sz hb)
  intro args st oc t hq
  obtain ⟨⟨r, S1, ad1, e1, e2, e5⟩, e6⟩ := hq
  exact ⟨⟨r, S1, ad1, e1, h _ _ e2, e5⟩, e6⟩
theorem AG.cg {A A2 : Nat → Nat → Int32} {py : Nat → Int64} {s : DS} (h : AG A py s) (e : ∀ j, j < 22 → j ≠ 2 → j ≠ 13 → A2 j = A j) : AG A2 py s := by
  refine ⟨(e 0 (by decide) (by decide) (by decide)).trans h.1, fun j hj => ?_, fun t ht k hk => ?_, fun t ht k hk => ?_, h.2.2.2.2.1, fun t h1 h2 => ⟨(h.2.2.2.2.2.1 t h1 h2).1, fun k hk h3 h6 => ?_⟩, fun g hg k hk => ?_, (e 19 (by decide) (by decide) (by decide)).trans h.2.2.2.2.2.2.2.1, (e 20 (by decide) (by decide) (by decide)).trans h.2.2.2.2.2.2.2.2.1, (e 21 (by decide) (by decide) (by decide)).trans h.2.2.2.2.2.2.2.2.2⟩
  · rw [e 1 (by decide) (by decide) (by decide)]; exact h.2.1 j hj
  · have := tA_rng k hk
    rw [e (tA k) (by omega) (by omega) (by omega)]; exact h.2.2.1 t ht k hk
  · rw [e 6 (by decide) (by decide) (by decide)]; exact h.2.2.2.1 t ht k hk
  · have := tA_rng k hk
    rw [e (tA k) (by omega) (by omega) (by omega)]; exact (h.2.2.2.2.2.1 t h1 h2).2 k hk h3 h6
  · rw [e (14 + k) (by omega) (by omega) (by omega)]; exact h.2.2.2.2.2.2.1 g hg k hk
theorem AG.vi {A A2 : Nat → Nat → Int32} {py : Nat → Int64} {s : DS} (h : AG A py s) (e : ∀ j, j < 19 → A2 j = A j) {v : (Nat → Int32) × (Nat → Int32) × (Nat → Int32) × Nat} (h1 : A2 19 = v.1) (h2 : A2 20 = v.2.1) (h3 : A2 21 = v.2.2.1) : AG A2 py (setVi s v) := by
  refine ⟨(e 0 (by decide)).trans h.1, fun j hj => ?_, fun t ht k hk => ?_, fun t ht k hk => ?_, h.2.2.2.2.1, fun t h1 h2 => ⟨(h.2.2.2.2.2.1 t h1 h2).1, fun k hk h3 h6 => ?_⟩, fun g hg k hk => ?_, h1, h2, h3⟩
  · rw [e 1 (by decide)]; exact h.2.1 j hj
  · have := tA_rng k hk
    rw [e (tA k) (by omega)]; exact h.2.2.1 t ht k hk
  · rw [e 6 (by decide)]; exact h.2.2.2.1 t ht k hk
  · have := tA_rng k hk
    rw [e (tA k) (by omega)]; exact (h.2.2.2.2.2.1 t h1 h2).2 k hk h3 h6
  · rw [e (14 + k) (by omega)]; exact h.2.2.2.2.2.2.1 g hg k hk
theorem AG.tape {A : Nat → Nat → Int32} {py : Nat → Int64} {s : DS} (h : AG A py s) (b : Nat → Int32) (n : Nat) : AG (up2 A 0 b) py (setTape s b n) := by
  have e : ∀ j, j ≠ 0 → up2 A 0 b j = A j := fun j hj => up2_n A b hj
  refine ⟨up2_s A 0 b, fun j hj => ?_, fun t ht k hk => ?_, fun t ht k hk => ?_, h.2.2.2.2.1, fun t h1 h2 => ⟨(h.2.2.2.2.2.1 t h1 h2).1, fun k hk h3 h6 => ?_⟩, fun g hg k hk => ?_, (e 19 (by decide)).trans h.2.2.2.2.2.2.2.1, (e 20 (by decide)).trans h.2.2.2.2.2.2.2.2.1, (e 21 (by decide)).trans h.2.2.2.2.2.2.2.2.2⟩
  · rw [e 1 (by decide)]; exact h.2.1 j hj
  · have := tA_rng k hk
    rw [e (tA k) (by omega)]; exact h.2.2.1 t ht k hk
  · rw [e 6 (by decide)]; exact h.2.2.2.1 t ht k hk
  · have := tA_rng k hk
    rw [e (tA k) (by omega)]; exact (h.2.2.2.2.2.1 t h1 h2).2 k hk h3 h6
  · rw [e (14 + k) (by omega)]; exact h.2.2.2.2.2.2.1 g hg k hk
theorem AG.ru {A A2 : Nat → Nat → Int32} {py : Nat → Int64} {s : DS} (h : AG A py s) (e : ∀ j, j ≠ 1 → j ≠ 2 → A2 j = A j) (r : Nat → Int32) (hr : ∀ i, i < 7 → A2 1 i = r i) (n : Nat) : AG A2 py (setTape (setRu s r) (zb s) n) := by
  refine ⟨(e 0 (by decide) (by decide)).trans h.1, hr, fun t ht k hk => ?_, fun t ht k hk => ?_, h.2.2.2.2.1, fun t h1 h2 => ⟨(h.2.2.2.2.2.1 t h1 h2).1, fun k hk h3 h6 => ?_⟩, fun g hg k hk => ?_, (e 19 (by decide) (by decide)).trans h.2.2.2.2.2.2.2.1, (e 20 (by decide) (by decide)).trans h.2.2.2.2.2.2.2.2.1, (e 21 (by decide) (by decide)).trans h.2.2.2.2.2.2.2.2.2⟩
  · have := tA_rng k hk
    rw [e (tA k) (by omega) (by omega)]; exact h.2.2.1 t ht k hk
  · rw [e 6 (by decide) (by decide)]; exact h.2.2.2.1 t ht k hk
  · have := tA_rng k hk
    rw [e (tA k) (by omega) (by omega)]; exact (h.2.2.2.2.2.1 t h1 h2).2 k hk h3 h6
  · rw [e (14 + k) (by omega) (by omega)]; exact h.2.2.2.2.2.2.1 g hg k hk
/-! what the match works out reads neither the tape nor the visits -/
section WKT
variable (s : DS) (b : Nat → Int32) (n : Nat)
theorem bsT_tape (g : Nat) (row : Nat → Int32) (set : Nat) : ∀ t, bsT (setTape s b n) g row set t = bsT s g row set t
  | 0 => rfl
  | t + 1 => by
    show (if (!set.testBit t && zGo s t g) && decide (bsT (setTape s b n) g row set t < 10000000 - zCs s t g + row (set ||| 2 ^ t)) then 10000000 - zCs s t g + row (set ||| 2 ^ t) else bsT (setTape s b n) g row set t) = _
    rw [bsT_tape g row set t]
    rfl
theorem bsR_tape : ∀ r, bsR (setTape s b n) r = bsR s r
  | 0 => rfl
  | r + 1 => by
    funext set
    show (if zOp s (zG s - (r + 1)) then bsT (setTape s b n) (zG s - (r + 1)) (bsR (setTape s b n) r) set (zT s) else bsR (setTape s b n) r set) = _
    rw [bsR_tape r, bsT_tape]
    rfl
theorem wkF_tape : ∀ g, wkF (setTape s b n) g = wkF s g
  | 0 => rfl
  | g + 1 => by
    show wkS (setTape s b n) g (wkF (setTape s b n) g) = wkS s g (wkF s g)
    rw [wkF_tape g]
    have e : ∀ gone, wkT (setTape s b n) g gone = wkT s g gone := fun gone => by
      have e2 : wkB (setTape s b n) g gone = wkB s g gone := by
        funext t
        show ((!gone.testBit t && zGo s t g) && decide (10000000 - zCs s t g + bsR (setTape s b n) (zG s - (g + 1)) (gone ||| 2 ^ t) = bsR (setTape s b n) (zG s - g) gone)) = _
        rw [bsR_tape, bsR_tape]
        rfl
      show (if zOp s g then ffst (wkB (setTape s b n) g gone) 0 (zT s) else none) = _
      rw [e2]
      rfl
    unfold wkS
    rw [e]
    rfl
end WKT
theorem wk_tape (s : DS) (b : Nat → Int32) (n : Nat) (m : Nat → Int32) (mt mc : Int32) (h : WK s m mt mc) : WK (setTape s b n) m mt mc := by
  unfold WK
  rw [show zG (setTape s b n) = zG s from rfl, wkF_tape]
  exact h
theorem sp_M_feed {S : gl_H} {s : DS} (h : MP S s) (hW : DW s) (a b c d e : Int32) : Sp mX7_feed yX7_feed [.ref 70, .int a, .int b, .int c, .int d, .int e] S (fun r S1 => r = some (.int (feA s)) ∧ MP S1 (feN s a b c d e) ∧ Fr 70 95 S S1) := by
  obtain ⟨A, py, fr, mt, mc, hM, hG, hF⟩ := h
  refine Sp.mono ?_ (sp_X7_feed hM hW.2.2.2.2 a b c d e)
  rintro r S1 ⟨h1, h2, h3⟩
  unfold feA feN
  by_cases c40 : zn s ≤ 40
  · simp only [if_pos c40] at h1 h2 ⊢
    rw [hG.1] at h2
    exact ⟨h1, ⟨_, py, fr, mt, mc, h2, hG.tape _ _, hF.imp id (fun q => ⟨q.1, wk_tape _ _ _ _ _ _ q.2⟩)⟩, h3⟩
  · simp only [if_neg c40] at h1 h2 ⊢
    exact ⟨h1, ⟨A, py, fr, mt, mc, h2, hG, hF⟩, h3⟩
theorem sp_M_rules {S : gl_H} {s : DS} (h : MP S s) (hW : DW s) (n : Int32) : Sp mX7_rules yX7_rules [.ref 70, .int n] S (fun r S1 => r = some (.int (ruA s n)) ∧ MP S1 (ruN s n) ∧ Fr 70 95 S S1) := by
  obtain ⟨A, py, fr, mt, mc, hM, hG, hF⟩ := h
  have hzn := hW.2.2.2.2
  rcases tix_cases (n := zn s + 1) (by omega) n with ⟨e1, e2⟩ | ⟨j, hj, rfl, e1⟩
  · rw [tix1] at e2
    rw [show ruA s n = -1 by unfold ruA; rw [e1], show ruN s n = s by unfold ruN; rw [e1]]
    refine Sp.mono ?_ (sp_X7_rules_n hM hzn e2)
    rintro r S1 ⟨rfl, h2⟩
    exact ⟨h2, ⟨A, py, fr, mt, mc, hM, hG, hF⟩, Fr.rf⟩
  · rw [show ruA s (nI j) = (rdA (zb s) j).1 by unfold ruA; rw [e1], show ruN s (nI j) = setTape (setRu s ((rdA (zb s) j).2.getD (zr s))) (zb s) 0 by unfold ruN; rw [e1]]
    refine Sp.mono ?_ (sp_X7_rules_y hM hzn (j := j) (by omega))
    rintro r S1 ⟨A2, h1, h2, h3, h4, h5⟩
    rw [hG.1] at h4 h5
    refine ⟨h4, ⟨A2, py, 0, mt, mc, h1, hG.ru h3 _ (fun i hi => ?_) 0, Or.inl rfl⟩, h2⟩
    rw [h5 i hi]
    cases (rdA (zb s) j).2 with
    | none => exact hG.2.1 i hi
    | some u => rfl
theorem sp_M_way {S : gl_H} {s : DS} (h : MP S s) (hW : DW s) (t9 k9 m : Int32) : Sp mX7_way yX7_way [.ref 70, .int t9, .int k9, .int m] S (fun r S1 => r = some (.int (opA (waN s t9 k9 m))) ∧ MP S1 ((waN s t9 k9 m).getD s) ∧ Fr 70 95 S S1) := by
  refine gl_enter (j := 0) (by decide +kernel) rfl (fun h => absurd h (by decide)) (Nat.le_of_ble_eq_true rfl) rfl (fun x => ?_)
  obtain ⟨A, py, fr, mt, mc, hM, hG, hF⟩ := h
  have hf : Fr 70 95 S S := Fr.rf
  have htc := hW.1
  have hgc := hW.2.1
  have hgn := hW.2.2.2.1
  rcases tix_cases (n := zT s) (by omega) t9 with ⟨e1, e2⟩ | ⟨t, ht, rfl, e1⟩
  · rw [show waN s t9 k9 m = none by unfold waN; rw [e1]]
    refine gg_aload_n dX7_way_0 rfl rfl ?_
    refine gg_iload_n dX7_way_1 rfl rfl ?_
    refine gg_callV (sp_X7_isTeacher hM (t9)) dX7_way_2 kw_X7_126 rfl hM.1 rfl rfl (Nat.le_of_ble_eq_true rfl) (Nat.le_of_ble_eq_true rfl) (Nat.le_of_ble_eq_true rfl) ⟨(Nat.le_of_ble_eq_true rfl), (Nat.le_of_ble_eq_true rfl)⟩ (fun r S1 hq => ?_)
    refine gg_k (k2 := (0, 0)) rfl ?_
    obtain ⟨e9, rfl⟩ := hq
    rw [e9, if_neg e2]
    clear e9 S1
    refine gg_if_eq (tgt := 28) dX7_way_5 (by decide) (fun c5 => ?_) (fun c5 => ?_)
    · refine gg_iconst (v := 0) dX7_way_28 (by decide) ?_
      exact gg_ireturn dX7_way_29 rfl rfl ⟨(Nat.le_of_ble_eq_true rfl), (Nat.le_of_ble_eq_true rfl)⟩ (⟨rfl, ⟨A, py, fr, mt, mc, hM, hG, hF⟩, hf⟩)
    · exact absurd rfl c5
  · have e2 := tix_in (n := zT s) (by omega) ht
    rcases tix_cases (n := 6) (by omega) k9 with ⟨e3, e4⟩ | ⟨k, hk, rfl, e3⟩
    · have e4 : ¬ (0 ≤ k9 ∧ k9 ≤ 5) := e4
      rw [show waN s (nI t) k9 m = none by unfold waN; rw [e1, e3]]
      refine gg_aload_n dX7_way_0 rfl rfl ?_
      refine gg_iload_n dX7_way_1 rfl rfl ?_
      refine gg_callV (sp_X7_isTeacher hM (nI t)) dX7_way_2 kw_X7_126 rfl hM.1 rfl rfl (Nat.le_of_ble_eq_true rfl) (Nat.le_of_ble_eq_true rfl) (Nat.le_of_ble_eq_true rfl) ⟨(Nat.le_of_ble_eq_true rfl), (Nat.le_of_ble_eq_true rfl)⟩ (fun r S1 hq => ?_)
      refine gg_k (k2 := (0, 0)) rfl ?_
      obtain ⟨e9, rfl⟩ := hq
      rw [e9, if_pos e2]
      clear e9 S1
      refine gg_if_eq (tgt := 28) dX7_way_5 (by decide) (fun c5 => ?_) (fun c5 => ?_)
      · exact absurd c5 (by decide)
      · refine gg_iload_n dX7_way_8 rfl rfl ?_
        refine gg_iconst (v := 0) dX7_way_9 (by decide) ?_
        refine gg_iconst (v := 5) dX7_way_10 (by decide) ?_
        refine gg_callS (sp_X7_lies S k9 0 5) dX7_way_11 kw_X7_97 rfl rfl (Nat.le_of_ble_eq_true rfl) (Nat.le_of_ble_eq_true rfl) (Nat.le_of_ble_eq_true rfl) ⟨(Nat.le_of_ble_eq_true rfl), (Nat.le_of_ble_eq_true rfl)⟩ (fun r S1 hq => ?_)
        refine gg_k (k2 := (0, 0)) rfl ?_
        obtain ⟨e9, rfl⟩ := hq
        rw [e9, if_neg e4]
        clear e9 S1
        refine gg_if_eq (tgt := 28) dX7_way_14 (by decide) (fun c14 => ?_) (fun c14 => ?_)
        · refine gg_iconst (v := 0) dX7_way_28 (by decide) ?_
          exact gg_ireturn dX7_way_29 rfl rfl ⟨(Nat.le_of_ble_eq_true rfl), (Nat.le_of_ble_eq_true rfl)⟩ (⟨rfl, ⟨A, py, fr, mt, mc, hM, hG, hF⟩, hf⟩)
        · exact absurd rfl c14
    · have e4 : (0 : Int32) ≤ nI k ∧ nI k ≤ 5 := tix_in (n := 6) (by omega) hk
      by_cases c2 : 0 ≤ m ∧ m ≤ 200
      · rw [show waN s (nI t) (nI k) m = some (setTe s (zf s) (up2 (zm s) t (upd (zm s t) k m)) (zp s)) by unfold waN; rw [e1, e3]; exact if_pos c2]
        refine gg_aload_n dX7_way_0 rfl rfl ?_
        refine gg_iload_n dX7_way_1 rfl rfl ?_
        refine gg_callV (sp_X7_isTeacher hM (nI t)) dX7_way_2 kw_X7_126 rfl hM.1 rfl rfl (Nat.le_of_ble_eq_true rfl) (Nat.le_of_ble_eq_true rfl) (Nat.le_of_ble_eq_true rfl) ⟨(Nat.le_of_ble_eq_true rfl), (Nat.le_of_ble_eq_true rfl)⟩ (fun r S1 hq => ?_)
        refine gg_k (k2 := (0, 0)) rfl ?_
        obtain ⟨e9, rfl⟩ := hq
        rw [e9, if_pos e2]
        clear e9 S1
        refine gg_if_eq (tgt := 28) dX7_way_5 (by decide) (fun c5 => ?_) (fun c5 => ?_)
        · exact absurd c5 (by decide)
        · refine gg_iload_n dX7_way_8 rfl rfl ?_
          refine gg_iconst (v := 0) dX7_way_9 (by decide) ?_
          refine gg_iconst (v := 5) dX7_way_10 (by decide) ?_
          refine gg_callS (sp_X7_lies S (nI k) 0 5) dX7_way_11 kw_X7_97 rfl rfl (Nat.le_of_ble_eq_true rfl) (Nat.le_of_ble_eq_true rfl) (Nat.le_of_ble_eq_true rfl) ⟨(Nat.le_of_ble_eq_true rfl), (Nat.le_of_ble_eq_true rfl)⟩ (fun r S1 hq => ?_)
          refine gg_k (k2 := (0, 0)) rfl ?_
          obtain ⟨e9, rfl⟩ := hq
          rw [e9, if_pos e4]
          clear e9 S1
          refine gg_if_eq (tgt := 28) dX7_way_14 (by decide) (fun c14 => ?_) (fun c14 => ?_)
          · exact absurd c14 (by decide)
          · refine gg_iload_n dX7_way_17 rfl rfl ?_
            refine gg_iconst (v := 0) dX7_way_18 (by decide) ?_
            refine gg_sipush (v := 200) dX7_way_19 (by decide) ?_
            refine gg_callS (sp_X7_lies S m 0 200) dX7_way_22 kw_X7_97 rfl rfl (Nat.le_of_ble_eq_true rfl) (Nat.le_of_ble_eq_true rfl) (Nat.le_of_ble_eq_true rfl) ⟨(Nat.le_of_ble_eq_true rfl), (Nat.le_of_ble_eq_true rfl)⟩ (fun r S1 hq => ?_)
            refine gg_k (k2 := (0, 0)) rfl ?_
            obtain ⟨e9, rfl⟩ := hq
            rw [e9, if_pos c2]
            clear e9 S1
            refine gg_if_ne (tgt := 30) dX7_way_25 (by decide) (fun c25 => ?_) (fun c25 => ?_)
            · refine gg_aload_n dX7_way_30 rfl rfl ?_
              refine gf_X7_29 rfl dX7_way_31 hM.1 rfl ?_
              refine gg_bipush (v := 6) dX7_way_34 (by decide) ?_
              refine gg_iload_n dX7_way_36 rfl rfl ?_
              refine gg_imul dX7_way_37 ?_
              refine gg_iload_n dX7_way_38 rfl rfl ?_
              refine gg_iadd dX7_way_39 ?_
              refine gg_iload_n dX7_way_40 rfl rfl ?_
              refine gg_ast_i (6 * t + k) dX7_way_41 hM.a6 (m6 _ _) (by omega) (by decide) ?_
              refine MPs_6 hM hf (fun S hM hf => ?_)
              refine gg_aload_n dX7_way_42 rfl rfl ?_
              refine gg_iconst (v := 0) dX7_way_43 (by decide) ?_
              refine pf_X7_116 rfl dX7_way_44 hM.1 (Nat.le_of_ble_eq_true rfl) rfl rfl ?_
              refine MPs_fr hM hf (fun S hM hf => ?_)
              refine gg_iconst (v := 1) dX7_way_47 (by decide) ?_
              exact gg_ireturn dX7_way_48 rfl rfl ⟨(Nat.le_of_ble_eq_true rfl), (Nat.le_of_ble_eq_true rfl)⟩ (⟨rfl, ⟨_, py, 0, mt, mc, hM, hG.setM ht hk m, Or.inl rfl⟩, hf⟩)
            · exact absurd c25 (by decide)
      · rw [show waN s (nI t) (nI k) m = none by unfold waN; rw [e1, e3]; exact if_neg c2]
        refine gg_aload_n dX7_way_0 rfl rfl ?_
        refine gg_iload_n dX7_way_1 rfl rfl ?_
        refine gg_callV (sp_X7_isTeacher hM (nI t)) dX7_way_2 kw_X7_126 rfl hM.1 rfl rfl (Nat.le_of_ble_eq_true rfl) (Nat.le_of_ble_eq_true rfl) (Nat.le_of_ble_eq_true rfl) ⟨(Nat.le_of_ble_eq_true rfl), (Nat.le_of_ble_eq_true rfl)⟩ (fun r S1 hq => ?_)
        refine gg_k (k2 := (0, 0)) rfl ?_
        obtain ⟨e9, rfl⟩ := hq
        rw [e9, if_pos e2]
        clear e9 S1
        refine gg_if_eq (tgt := 28) dX7_way_5 (by decide) (fun c5 => ?_) (fun c5 => ?_)
        · exact absurd c5 (by decide)
        · refine gg_iload_n dX7_way_8 rfl rfl ?_
          refine gg_iconst (v := 0) dX7_way_9 (by decide) ?_
          refine gg_iconst (v := 5) dX7_way_10 (by decide) ?_
          refine gg_callS (sp_X7_lies S (nI k) 0 5) dX7_way_11 kw_X7_97 rfl rfl (Nat.le_of_ble_eq_true rfl) (Nat.le_of_ble_eq_true rfl) (Nat.le_of_ble_eq_true rfl) ⟨(Nat.le_of_ble_eq_true rfl), (Nat.le_of_ble_eq_true rfl)⟩ (fun r S1 hq => ?_)
          refine gg_k (k2 := (0, 0)) rfl ?_
          obtain ⟨e9, rfl⟩ := hq
          rw [e9, if_pos e4]
          clear e9 S1
          refine gg_if_eq (tgt := 28) dX7_way_14 (by decide) (fun c14 => ?_) (fun c14 => ?_)
          · exact absurd c14 (by decide)
          · refine gg_iload_n dX7_way_17 rfl rfl ?_
            refine gg_iconst (v := 0) dX7_way_18 (by decide) ?_
            refine gg_sipush (v := 200) dX7_way_19 (by decide) ?_
            refine gg_callS (sp_X7_lies S m 0 200) dX7_way_22 kw_X7_97 rfl rfl (Nat.le_of_ble_eq_true rfl) (Nat.le_of_ble_eq_true rfl) (Nat.le_of_ble_eq_true rfl) ⟨(Nat.le_of_ble_eq_true rfl), (Nat.le_of_ble_eq_true rfl)⟩ (fun r S1 hq => ?_)
            refine gg_k (k2 := (0, 0)) rfl ?_
            obtain ⟨e9, rfl⟩ := hq
            rw [e9, if_neg c2]
            clear e9 S1
            refine gg_if_ne (tgt := 30) dX7_way_25 (by decide) (fun c25 => ?_) (fun c25 => ?_)
            · exact absurd rfl c25
            · refine gg_iconst (v := 0) dX7_way_28 (by decide) ?_
              exact gg_ireturn dX7_way_29 rfl rfl ⟨(Nat.le_of_ble_eq_true rfl), (Nat.le_of_ble_eq_true rfl)⟩ (⟨rfl, ⟨A, py, fr, mt, mc, hM, hG, hF⟩, hf⟩)
theorem sp_M_likes {S : gl_H} {s : DS} (h : MP S s) (hW : DW s) (t9 a b : Int32) : Sp mX7_likes yX7_likes [.ref 70, .int t9, .int a, .int b] S (fun r S1 => r = some (.int (opA (liN s t9 a b))) ∧ MP S1 ((liN s t9 a b).getD s) ∧ Fr 70 95 S S1) := by
  refine gl_enter (j := 0) (by decide +kernel) rfl (fun h => absurd h (by decide)) (Nat.le_of_ble_eq_true rfl) rfl (fun x => ?_)
  obtain ⟨A, py, fr, mt, mc, hM, hG, hF⟩ := h
  have hf : Fr 70 95 S S := Fr.rf
  have htc := hW.1
  have hgc := hW.2.1
  have hgn := hW.2.2.2.1
  rcases tix_cases (n := zT s) (by omega) t9 with ⟨e1, e2⟩ | ⟨t, ht, rfl, e1⟩
  · rw [show liN s t9 a b = none by unfold liN; rw [e1]]
    refine gg_aload_n dX7_likes_0 rfl rfl ?_
    refine gg_iload_n dX7_likes_1 rfl rfl ?_
    refine gg_callV (sp_X7_isTeacher hM (t9)) dX7_likes_2 kw_X7_126 rfl hM.1 rfl rfl (Nat.le_of_ble_eq_true rfl) (Nat.le_of_ble_eq_true rfl) (Nat.le_of_ble_eq_true rfl) ⟨(Nat.le_of_ble_eq_true rfl), (Nat.le_of_ble_eq_true rfl)⟩ (fun r S1 hq => ?_)
    refine gg_k (k2 := (0, 0)) rfl ?_
    obtain ⟨e9, rfl⟩ := hq
    rw [e9, if_neg e2]
    clear e9 S1
    refine gg_if_eq (tgt := 28) dX7_likes_5 (by decide) (fun c5 => ?_) (fun c5 => ?_)
    · refine gg_iconst (v := 0) dX7_likes_28 (by decide) ?_
      exact gg_ireturn dX7_likes_29 rfl rfl ⟨(Nat.le_of_ble_eq_true rfl), (Nat.le_of_ble_eq_true rfl)⟩ (⟨rfl, ⟨A, py, fr, mt, mc, hM, hG, hF⟩, hf⟩)
    · exact absurd rfl c5
  · have e2 := tix_in (n := zT s) (by omega) ht
    by_cases ca : 0 ≤ a ∧ a ≤ 63
    · by_cases cb : 0 ≤ b ∧ b ≤ 63
      · rw [show liN s (nI t) a b = some (setTe s (up2 (zf s) t (upd (upd (zf s t) 3 a) 4 b)) (zm s) (zp s)) by unfold liN; rw [e1]; exact if_pos ⟨ca, cb⟩]
        have hG2 := (hG.setF ht 3 a).setF (t := t) ht 4 b
        rw [show zf (setTe s (up2 (zf s) t (upd (zf s t) 3 a)) (zm s) (zp s)) = up2 (zf s) t (upd (zf s t) 3 a) from rfl, up2_2, up2_s] at hG2
        refine gg_aload_n dX7_likes_0 rfl rfl ?_
        refine gg_iload_n dX7_likes_1 rfl rfl ?_
        refine gg_callV (sp_X7_isTeacher hM (nI t)) dX7_likes_2 kw_X7_126 rfl hM.1 rfl rfl (Nat.le_of_ble_eq_true rfl) (Nat.le_of_ble_eq_true rfl) (Nat.le_of_ble_eq_true rfl) ⟨(Nat.le_of_ble_eq_true rfl), (Nat.le_of_ble_eq_true rfl)⟩ (fun r S1 hq => ?_)
        refine gg_k (k2 := (0, 0)) rfl ?_
        obtain ⟨e9, rfl⟩ := hq
        rw [e9, if_pos e2]
        clear e9 S1
        refine gg_if_eq (tgt := 28) dX7_likes_5 (by decide) (fun c5 => ?_) (fun c5 => ?_)
        · exact absurd c5 (by decide)
        · refine gg_iload_n dX7_likes_8 rfl rfl ?_
          refine gg_iconst (v := 0) dX7_likes_9 (by decide) ?_
          refine gg_bipush (v := 63) dX7_likes_10 (by decide) ?_
          refine gg_callS (sp_X7_lies S a 0 63) dX7_likes_12 kw_X7_97 rfl rfl (Nat.le_of_ble_eq_true rfl) (Nat.le_of_ble_eq_true rfl) (Nat.le_of_ble_eq_true rfl) ⟨(Nat.le_of_ble_eq_true rfl), (Nat.le_of_ble_eq_true rfl)⟩ (fun r S1 hq => ?_)
          refine gg_k (k2 := (0, 0)) rfl ?_
          obtain ⟨e9, rfl⟩ := hq
          rw [e9, if_pos ca]
          clear e9 S1
          refine gg_if_eq (tgt := 28) dX7_likes_15 (by decide) (fun c15 => ?_) (fun c15 => ?_)
          · exact absurd c15 (by decide)
          · refine gg_iload_n dX7_likes_18 rfl rfl ?_
            refine gg_iconst (v := 0) dX7_likes_19 (by decide) ?_
            refine gg_bipush (v := 63) dX7_likes_20 (by decide) ?_
            refine gg_callS (sp_X7_lies S b 0 63) dX7_likes_22 kw_X7_97 rfl rfl (Nat.le_of_ble_eq_true rfl) (Nat.le_of_ble_eq_true rfl) (Nat.le_of_ble_eq_true rfl) ⟨(Nat.le_of_ble_eq_true rfl), (Nat.le_of_ble_eq_true rfl)⟩ (fun r S1 hq => ?_)
            refine gg_k (k2 := (0, 0)) rfl ?_
            obtain ⟨e9, rfl⟩ := hq
            rw [e9, if_pos cb]
            clear e9 S1
            refine gg_if_ne (tgt := 30) dX7_likes_25 (by decide) (fun c25 => ?_) (fun c25 => ?_)
            · refine gg_aload_n dX7_likes_30 rfl rfl ?_
              refine gf_X7_32 rfl dX7_likes_31 hM.1 rfl ?_
              refine gg_iload_n dX7_likes_34 rfl rfl ?_
              refine gg_iload_n dX7_likes_35 rfl rfl ?_
              refine gg_ast_i (t) dX7_likes_36 hM.a7 rfl (by omega) (by decide) ?_
              refine MPs_7 hM hf (fun S hM hf => ?_)
              refine gg_aload_n dX7_likes_37 rfl rfl ?_
              refine gf_X7_35 rfl dX7_likes_38 hM.1 rfl ?_
              refine gg_iload_n dX7_likes_41 rfl rfl ?_
              refine gg_iload_n dX7_likes_42 rfl rfl ?_
              refine gg_ast_i (t) dX7_likes_43 hM.a8 rfl (by omega) (by decide) ?_
              refine MPs_8 hM hf (fun S hM hf => ?_)
              refine gg_aload_n dX7_likes_44 rfl rfl ?_
              refine gg_iconst (v := 0) dX7_likes_45 (by decide) ?_
              refine pf_X7_116 rfl dX7_likes_46 hM.1 (Nat.le_of_ble_eq_true rfl) rfl rfl ?_
              refine MPs_fr hM hf (fun S hM hf => ?_)
              refine gg_iconst (v := 1) dX7_likes_49 (by decide) ?_
              exact gg_ireturn dX7_likes_50 rfl rfl ⟨(Nat.le_of_ble_eq_true rfl), (Nat.le_of_ble_eq_true rfl)⟩ (⟨rfl, ⟨_, py, 0, mt, mc, hM, hG2, Or.inl rfl⟩, hf⟩)
            · exact absurd c25 (by decide)
      · rw [show liN s (nI t) a b = none by unfold liN; rw [e1]; exact if_neg (fun z => cb z.2)]
        refine gg_aload_n dX7_likes_0 rfl rfl ?_
        refine gg_iload_n dX7_likes_1 rfl rfl ?_
        refine gg_callV (sp_X7_isTeacher hM (nI t)) dX7_likes_2 kw_X7_126 rfl hM.1 rfl rfl (Nat.le_of_ble_eq_true rfl) (Nat.le_of_ble_eq_true rfl) (Nat.le_of_ble_eq_true rfl) ⟨(Nat.le_of_ble_eq_true rfl), (Nat.le_of_ble_eq_true rfl)⟩ (fun r S1 hq => ?_)
        refine gg_k (k2 := (0, 0)) rfl ?_
        obtain ⟨e9, rfl⟩ := hq
        rw [e9, if_pos e2]
        clear e9 S1
        refine gg_if_eq (tgt := 28) dX7_likes_5 (by decide) (fun c5 => ?_) (fun c5 => ?_)
        · exact absurd c5 (by decide)
        · refine gg_iload_n dX7_likes_8 rfl rfl ?_
          refine gg_iconst (v := 0) dX7_likes_9 (by decide) ?_
          refine gg_bipush (v := 63) dX7_likes_10 (by decide) ?_
          refine gg_callS (sp_X7_lies S a 0 63) dX7_likes_12 kw_X7_97 rfl rfl (Nat.le_of_ble_eq_true rfl) (Nat.le_of_ble_eq_true rfl) (Nat.le_of_ble_eq_true rfl) ⟨(Nat.le_of_ble_eq_true rfl), (Nat.le_of_ble_eq_true rfl)⟩ (fun r S1 hq => ?_)
          refine gg_k (k2 := (0, 0)) rfl ?_
          obtain ⟨e9, rfl⟩ := hq
          rw [e9, if_pos ca]
          clear e9 S1
          refine gg_if_eq (tgt := 28) dX7_likes_15 (by decide) (fun c15 => ?_) (fun c15 => ?_)
          · exact absurd c15 (by decide)
          · refine gg_iload_n dX7_likes_18 rfl rfl ?_
            refine gg_iconst (v := 0) dX7_likes_19 (by decide) ?_
            refine gg_bipush (v := 63) dX7_likes_20 (by decide) ?_
            refine gg_callS (sp_X7_lies S b 0 63) dX7_likes_22 kw_X7_97 rfl rfl (Nat.le_of_ble_eq_true rfl) (Nat.le_of_ble_eq_true rfl) (Nat.le_of_ble_eq_true rfl) ⟨(Nat.le_of_ble_eq_true rfl), (Nat.le_of_ble_eq_true rfl)⟩ (fun r S1 hq => ?_)
            refine gg_k (k2 := (0, 0)) rfl ?_
            obtain ⟨e9, rfl⟩ := hq
            rw [e9, if_neg cb]
            clear e9 S1
            refine gg_if_ne (tgt := 30) dX7_likes_25 (by decide) (fun c25 => ?_) (fun c25 => ?_)
            · exact absurd rfl c25
            · refine gg_iconst (v := 0) dX7_likes_28 (by decide) ?_
              exact gg_ireturn dX7_likes_29 rfl rfl ⟨(Nat.le_of_ble_eq_true rfl), (Nat.le_of_ble_eq_true rfl)⟩ (⟨rfl, ⟨A, py, fr, mt, mc, hM, hG, hF⟩, hf⟩)
    · rw [show liN s (nI t) a b = none by unfold liN; rw [e1]; exact if_neg (fun z => ca z.1)]
      refine gg_aload_n dX7_likes_0 rfl rfl ?_
      refine gg_iload_n dX7_likes_1 rfl rfl ?_
      refine gg_callV (sp_X7_isTeacher hM (nI t)) dX7_likes_2 kw_X7_126 rfl hM.1 rfl rfl (Nat.le_of_ble_eq_true rfl) (Nat.le_of_ble_eq_true rfl) (Nat.le_of_ble_eq_true rfl) ⟨(Nat.le_of_ble_eq_true rfl), (Nat.le_of_ble_eq_true rfl)⟩ (fun r S1 hq => ?_)
      refine gg_k (k2 := (0, 0)) rfl ?_
      obtain ⟨e9, rfl⟩ := hq
      rw [e9, if_pos e2]
      clear e9 S1
      refine gg_if_eq (tgt := 28) dX7_likes_5 (by decide) (fun c5 => ?_) (fun c5 => ?_)
      · exact absurd c5 (by decide)
      · refine gg_iload_n dX7_likes_8 rfl rfl ?_
        refine gg_iconst (v := 0) dX7_likes_9 (by decide) ?_
        refine gg_bipush (v := 63) dX7_likes_10 (by decide) ?_
        refine gg_callS (sp_X7_lies S a 0 63) dX7_likes_12 kw_X7_97 rfl rfl (Nat.le_of_ble_eq_true rfl) (Nat.le_of_ble_eq_true rfl) (Nat.le_of_ble_eq_true rfl) ⟨(Nat.le_of_ble_eq_true rfl), (Nat.le_of_ble_eq_true rfl)⟩ (fun r S1 hq => ?_)
        refine gg_k (k2 := (0, 0)) rfl ?_
        obtain ⟨e9, rfl⟩ := hq
        rw [e9, if_neg ca]
        clear e9 S1
        refine gg_if_eq (tgt := 28) dX7_likes_15 (by decide) (fun c15 => ?_) (fun c15 => ?_)
        · refine gg_iconst (v := 0) dX7_likes_28 (by decide) ?_
          exact gg_ireturn dX7_likes_29 rfl rfl ⟨(Nat.le_of_ble_eq_true rfl), (Nat.le_of_ble_eq_true rfl)⟩ (⟨rfl, ⟨A, py, fr, mt, mc, hM, hG, hF⟩, hf⟩)
        · exact absurd rfl c15
theorem AG.gap {A A2 : Nat → Nat → Int32} {py : Nat → Int64} {s : DS} (h : AG A py s) (e : ∀ j, j < 14 ∨ 19 ≤ j → A2 j = A j) {h9 : Nat → Nat} (hn : ∀ k, k < 5 → A2 (14 + k) = upd (A (14 + k)) (zG s) (nI (h9 k))) : AG A2 py ((zT s, zG s + 1, zD s, zN s + 1), s.2.1, s.2.2.1, s.2.2.2.1, up2 (zg s) (zG s) h9, s.2.2.2.2.2) := by
  refine ⟨(e 0 (by decide)).trans h.1, fun j hj => ?_, fun t ht k hk => ?_, fun t ht k hk => ?_, h.2.2.2.2.1, fun t h1 h2 => ⟨(h.2.2.2.2.2.1 t h1 h2).1, fun k hk h3 h6 => ?_⟩, fun g hg k hk => ?_, (e 19 (by decide)).trans h.2.2.2.2.2.2.2.1, (e 20 (by decide)).trans h.2.2.2.2.2.2.2.2.1, (e 21 (by decide)).trans h.2.2.2.2.2.2.2.2.2⟩
  · rw [e 1 (by decide)]; exact h.2.1 j hj
  · have := tA_rng k hk
    rw [e (tA k) (by omega)]; exact h.2.2.1 t ht k hk
  · rw [e 6 (by decide)]; exact h.2.2.2.1 t ht k hk
  · have := tA_rng k hk
    rw [e (tA k) (by omega)]; exact (h.2.2.2.2.2.1 t h1 h2).2 k hk h3 h6
  · rw [hn k hk]
    show _ = nI (up2 (zg s) (zG s) h9 g k)
    by_cases c : g = zG s
    · rw [c, pk_us, up2_s]
    · have hg2 : g < zG s + 1 := hg
      rw [pk_un c, up2_n _ _ c]
      exact h.2.2.2.2.2.2.1 g (by omega) k hk
theorem sp_M_gap {S : gl_H} {s : DS} (h : MP S s) (hW : DW s) (a b c d e : Int32) : Sp mX7_gap yX7_gap [.ref 70, .int a, .int b, .int c, .int d, .int e] S (fun r S1 => r = some (.int (gaA s (gaN s a b c d e))) ∧ MP S1 ((gaN s a b c d e).getD s) ∧ Fr 70 95 S S1) := by
  refine gl_enter (j := 0) (by decide +kernel) rfl (fun h => absurd h (by decide)) (Nat.le_of_ble_eq_true rfl) rfl (fun x => ?_)
  obtain ⟨A, py, fr, mt, mc, hM, hG, hF⟩ := h
  have hf : Fr 70 95 S S := Fr.rf
  have htc := hW.1
  have hgc := hW.2.1
  have hgn := hW.2.2.2.1
  by_cases cg : zG s < 10
  · rcases tix_cases (n := 6) (by decide) a with ⟨e_a, c_a⟩ | ⟨ga, h_a, rfl, e_a⟩
    · have c_a : ¬ (0 ≤ a ∧ a ≤ 5) := c_a
      rw [show gaN s a b c d e = none by unfold gaN; rw [if_pos cg, e_a]]
      refine gg_aload_n dX7_gap_0 rfl rfl ?_
      refine gf_X7_123 rfl dX7_gap_1 hM.1 rfl ?_
      refine gg_bipush (v := 10) dX7_gap_4 (by decide) ?_
      refine gg_icmp_eq (tgt := 59) dX7_gap_6 (by decide) (fun c6 => ?_) (fun c6 => ?_)
      · exact absurd (n_eq (a := zG s) (b := 10) c6) (by omega)
      · refine gg_iload_n dX7_gap_9 rfl rfl ?_
        refine gg_iconst (v := 0) dX7_gap_10 (by decide) ?_
        refine gg_iconst (v := 5) dX7_gap_11 (by decide) ?_
        refine gg_callS (sp_X7_lies S a 0 5) dX7_gap_12 kw_X7_97 rfl rfl (Nat.le_of_ble_eq_true rfl) (Nat.le_of_ble_eq_true rfl) (Nat.le_of_ble_eq_true rfl) ⟨(Nat.le_of_ble_eq_true rfl), (Nat.le_of_ble_eq_true rfl)⟩ (fun r S1 hq => ?_)
        refine gg_k (k2 := (0, 0)) rfl ?_
        obtain ⟨e9, rfl⟩ := hq
        rw [e9, if_neg c_a]
        clear e9 S1
        refine gg_if_eq (tgt := 59) dX7_gap_15 (by decide) (fun c15 => ?_) (fun c15 => ?_)
        · refine gg_iconst (v := -1) dX7_gap_59 (by decide) ?_
          exact gg_ireturn dX7_gap_60 rfl rfl ⟨(Nat.le_of_ble_eq_true rfl), (Nat.le_of_ble_eq_true rfl)⟩ (⟨rfl, ⟨A, py, fr, mt, mc, hM, hG, hF⟩, hf⟩)
        · exact absurd rfl c15
    · have c_a : (0 : Int32) ≤ nI ga ∧ nI ga ≤ 5 := tix_in (n := 6) (by decide) h_a
      rcases tix_cases (n := 16) (by decide) b with ⟨e_b, c_b⟩ | ⟨gb, h_b, rfl, e_b⟩
      · have c_b : ¬ (0 ≤ b ∧ b ≤ 15) := c_b
        rw [show gaN s (nI ga) b c d e = none by unfold gaN; rw [if_pos cg, e_a, e_b]]
        refine gg_aload_n dX7_gap_0 rfl rfl ?_
        refine gf_X7_123 rfl dX7_gap_1 hM.1 rfl ?_
        refine gg_bipush (v := 10) dX7_gap_4 (by decide) ?_
        refine gg_icmp_eq (tgt := 59) dX7_gap_6 (by decide) (fun c6 => ?_) (fun c6 => ?_)
        · exact absurd (n_eq (a := zG s) (b := 10) c6) (by omega)
        · refine gg_iload_n dX7_gap_9 rfl rfl ?_
          refine gg_iconst (v := 0) dX7_gap_10 (by decide) ?_
          refine gg_iconst (v := 5) dX7_gap_11 (by decide) ?_
          refine gg_callS (sp_X7_lies S (nI ga) 0 5) dX7_gap_12 kw_X7_97 rfl rfl (Nat.le_of_ble_eq_true rfl) (Nat.le_of_ble_eq_true rfl) (Nat.le_of_ble_eq_true rfl) ⟨(Nat.le_of_ble_eq_true rfl), (Nat.le_of_ble_eq_true rfl)⟩ (fun r S1 hq => ?_)
          refine gg_k (k2 := (0, 0)) rfl ?_
          obtain ⟨e9, rfl⟩ := hq
          rw [e9, if_pos c_a]
          clear e9 S1
          refine gg_if_eq (tgt := 59) dX7_gap_15 (by decide) (fun c15 => ?_) (fun c15 => ?_)
          · exact absurd c15 (by decide)
          · refine gg_iload_n dX7_gap_18 rfl rfl ?_
            refine gg_iconst (v := 0) dX7_gap_19 (by decide) ?_
            refine gg_bipush (v := 15) dX7_gap_20 (by decide) ?_
            refine gg_callS (sp_X7_lies S b 0 15) dX7_gap_22 kw_X7_97 rfl rfl (Nat.le_of_ble_eq_true rfl) (Nat.le_of_ble_eq_true rfl) (Nat.le_of_ble_eq_true rfl) ⟨(Nat.le_of_ble_eq_true rfl), (Nat.le_of_ble_eq_true rfl)⟩ (fun r S1 hq => ?_)
            refine gg_k (k2 := (0, 0)) rfl ?_
            obtain ⟨e9, rfl⟩ := hq
            rw [e9, if_neg c_b]
            clear e9 S1
            refine gg_if_eq (tgt := 59) dX7_gap_25 (by decide) (fun c25 => ?_) (fun c25 => ?_)
            · refine gg_iconst (v := -1) dX7_gap_59 (by decide) ?_
              exact gg_ireturn dX7_gap_60 rfl rfl ⟨(Nat.le_of_ble_eq_true rfl), (Nat.le_of_ble_eq_true rfl)⟩ (⟨rfl, ⟨A, py, fr, mt, mc, hM, hG, hF⟩, hf⟩)
            · exact absurd rfl c25
      · have c_b : (0 : Int32) ≤ nI gb ∧ nI gb ≤ 15 := tix_in (n := 16) (by decide) h_b
        rcases tix_cases (n := 8) (by decide) c with ⟨e_c, c_c⟩ | ⟨gc9, h_c, rfl, e_c⟩
        · have c_c : ¬ (0 ≤ c ∧ c ≤ 7) := c_c
          rw [show gaN s (nI ga) (nI gb) c d e = none by unfold gaN; rw [if_pos cg, e_a, e_b, e_c]]
          refine gg_aload_n dX7_gap_0 rfl rfl ?_
          refine gf_X7_123 rfl dX7_gap_1 hM.1 rfl ?_
          refine gg_bipush (v := 10) dX7_gap_4 (by decide) ?_
          refine gg_icmp_eq (tgt := 59) dX7_gap_6 (by decide) (fun c6 => ?_) (fun c6 => ?_)
          · exact absurd (n_eq (a := zG s) (b := 10) c6) (by omega)
          · refine gg_iload_n dX7_gap_9 rfl rfl ?_
            refine gg_iconst (v := 0) dX7_gap_10 (by decide) ?_
            refine gg_iconst (v := 5) dX7_gap_11 (by decide) ?_
            refine gg_callS (sp_X7_lies S (nI ga) 0 5) dX7_gap_12 kw_X7_97 rfl rfl (Nat.le_of_ble_eq_true rfl) (Nat.le_of_ble_eq_true rfl) (Nat.le_of_ble_eq_true rfl) ⟨(Nat.le_of_ble_eq_true rfl), (Nat.le_of_ble_eq_true rfl)⟩ (fun r S1 hq => ?_)
            refine gg_k (k2 := (0, 0)) rfl ?_
            obtain ⟨e9, rfl⟩ := hq
            rw [e9, if_pos c_a]
            clear e9 S1
            refine gg_if_eq (tgt := 59) dX7_gap_15 (by decide) (fun c15 => ?_) (fun c15 => ?_)
            · exact absurd c15 (by decide)
            · refine gg_iload_n dX7_gap_18 rfl rfl ?_
              refine gg_iconst (v := 0) dX7_gap_19 (by decide) ?_
              refine gg_bipush (v := 15) dX7_gap_20 (by decide) ?_
              refine gg_callS (sp_X7_lies S (nI gb) 0 15) dX7_gap_22 kw_X7_97 rfl rfl (Nat.le_of_ble_eq_true rfl) (Nat.le_of_ble_eq_true rfl) (Nat.le_of_ble_eq_true rfl) ⟨(Nat.le_of_ble_eq_true rfl), (Nat.le_of_ble_eq_true rfl)⟩ (fun r S1 hq => ?_)
              refine gg_k (k2 := (0, 0)) rfl ?_
              obtain ⟨e9, rfl⟩ := hq
              rw [e9, if_pos c_b]
              clear e9 S1
              refine gg_if_eq (tgt := 59) dX7_gap_25 (by decide) (fun c25 => ?_) (fun c25 => ?_)
              · exact absurd c25 (by decide)
              · refine gg_iload_n dX7_gap_28 rfl rfl ?_
                refine gg_iconst (v := 0) dX7_gap_29 (by decide) ?_
                refine gg_bipush (v := 7) dX7_gap_30 (by decide) ?_
                refine gg_callS (sp_X7_lies S c 0 7) dX7_gap_32 kw_X7_97 rfl rfl (Nat.le_of_ble_eq_true rfl) (Nat.le_of_ble_eq_true rfl) (Nat.le_of_ble_eq_true rfl) ⟨(Nat.le_of_ble_eq_true rfl), (Nat.le_of_ble_eq_true rfl)⟩ (fun r S1 hq => ?_)
                refine gg_k (k2 := (0, 0)) rfl ?_
                obtain ⟨e9, rfl⟩ := hq
                rw [e9, if_neg c_c]
                clear e9 S1
                refine gg_if_eq (tgt := 59) dX7_gap_35 (by decide) (fun c35 => ?_) (fun c35 => ?_)
                · refine gg_iconst (v := -1) dX7_gap_59 (by decide) ?_
                  exact gg_ireturn dX7_gap_60 rfl rfl ⟨(Nat.le_of_ble_eq_true rfl), (Nat.le_of_ble_eq_true rfl)⟩ (⟨rfl, ⟨A, py, fr, mt, mc, hM, hG, hF⟩, hf⟩)
                · exact absurd rfl c35
        · have c_c : (0 : Int32) ≤ nI gc9 ∧ nI gc9 ≤ 7 := tix_in (n := 8) (by decide) h_c
          rcases tix_cases (n := 4) (by decide) d with ⟨e_d, c_d⟩ | ⟨gd, h_d, rfl, e_d⟩
          · have c_d : ¬ (0 ≤ d ∧ d ≤ 3) := c_d
            rw [show gaN s (nI ga) (nI gb) (nI gc9) d e = none by unfold gaN; rw [if_pos cg, e_a, e_b, e_c, e_d]]
            refine gg_aload_n dX7_gap_0 rfl rfl ?_
            refine gf_X7_123 rfl dX7_gap_1 hM.1 rfl ?_
            refine gg_bipush (v := 10) dX7_gap_4 (by decide) ?_
            refine gg_icmp_eq (tgt := 59) dX7_gap_6 (by decide) (fun c6 => ?_) (fun c6 => ?_)
            · exact absurd (n_eq (a := zG s) (b := 10) c6) (by omega)
            · refine gg_iload_n dX7_gap_9 rfl rfl ?_
              refine gg_iconst (v := 0) dX7_gap_10 (by decide) ?_
              refine gg_iconst (v := 5) dX7_gap_11 (by decide) ?_
              refine gg_callS (sp_X7_lies S (nI ga) 0 5) dX7_gap_12 kw_X7_97 rfl rfl (Nat.le_of_ble_eq_true rfl) (Nat.le_of_ble_eq_true rfl) (Nat.le_of_ble_eq_true rfl) ⟨(Nat.le_of_ble_eq_true rfl), (Nat.le_of_ble_eq_true rfl)⟩ (fun r S1 hq => ?_)
              refine gg_k (k2 := (0, 0)) rfl ?_
              obtain ⟨e9, rfl⟩ := hq
              rw [e9, if_pos c_a]
              clear e9 S1
              refine gg_if_eq (tgt := 59) dX7_gap_15 (by decide) (fun c15 => ?_) (fun c15 => ?_)
              · exact absurd c15 (by decide)
              · refine gg_iload_n dX7_gap_18 rfl rfl ?_
                refine gg_iconst (v := 0) dX7_gap_19 (by decide) ?_
                refine gg_bipush (v := 15) dX7_gap_20 (by decide) ?_
                refine gg_callS (sp_X7_lies S (nI gb) 0 15) dX7_gap_22 kw_X7_97 rfl rfl (Nat.le_of_ble_eq_true rfl) (Nat.le_of_ble_eq_true rfl) (Nat.le_of_ble_eq_true rfl) ⟨(Nat.le_of_ble_eq_true rfl), (Nat.le_of_ble_eq_true rfl)⟩ (fun r S1 hq => ?_)
                refine gg_k (k2 := (0, 0)) rfl ?_
                obtain ⟨e9, rfl⟩ := hq
                rw [e9, if_pos c_b]
                clear e9 S1
                refine gg_if_eq (tgt := 59) dX7_gap_25 (by decide) (fun c25 => ?_) (fun c25 => ?_)
                · exact absurd c25 (by decide)
                · refine gg_iload_n dX7_gap_28 rfl rfl ?_
                  refine gg_iconst (v := 0) dX7_gap_29 (by decide) ?_
                  refine gg_bipush (v := 7) dX7_gap_30 (by decide) ?_
                  refine gg_callS (sp_X7_lies S (nI gc9) 0 7) dX7_gap_32 kw_X7_97 rfl rfl (Nat.le_of_ble_eq_true rfl) (Nat.le_of_ble_eq_true rfl) (Nat.le_of_ble_eq_true rfl) ⟨(Nat.le_of_ble_eq_true rfl), (Nat.le_of_ble_eq_true rfl)⟩ (fun r S1 hq => ?_)
                  refine gg_k (k2 := (0, 0)) rfl ?_
                  obtain ⟨e9, rfl⟩ := hq
                  rw [e9, if_pos c_c]
                  clear e9 S1
                  refine gg_if_eq (tgt := 59) dX7_gap_35 (by decide) (fun c35 => ?_) (fun c35 => ?_)
                  · exact absurd c35 (by decide)
                  · refine gg_iload dX7_gap_38 rfl ?_
                    refine gg_iconst (v := 0) dX7_gap_40 (by decide) ?_
                    refine gg_iconst (v := 3) dX7_gap_41 (by decide) ?_
                    refine gg_callS (sp_X7_lies S d 0 3) dX7_gap_42 kw_X7_97 rfl rfl (Nat.le_of_ble_eq_true rfl) (Nat.le_of_ble_eq_true rfl) (Nat.le_of_ble_eq_true rfl) ⟨(Nat.le_of_ble_eq_true rfl), (Nat.le_of_ble_eq_true rfl)⟩ (fun r S1 hq => ?_)
                    refine gg_k (k2 := (0, 0)) rfl ?_
                    obtain ⟨e9, rfl⟩ := hq
                    rw [e9, if_neg c_d]
                    clear e9 S1
                    refine gg_if_eq (tgt := 59) dX7_gap_45 (by decide) (fun c45 => ?_) (fun c45 => ?_)
                    · refine gg_iconst (v := -1) dX7_gap_59 (by decide) ?_
                      exact gg_ireturn dX7_gap_60 rfl rfl ⟨(Nat.le_of_ble_eq_true rfl), (Nat.le_of_ble_eq_true rfl)⟩ (⟨rfl, ⟨A, py, fr, mt, mc, hM, hG, hF⟩, hf⟩)
                    · exact absurd rfl c45
          · have c_d : (0 : Int32) ≤ nI gd ∧ nI gd ≤ 3 := tix_in (n := 4) (by decide) h_d
            rcases hix_cases e with ⟨e_e, c_e⟩ | ⟨ge, h_e, h8, rfl, e_e, c_e⟩
            · have c_e : ¬ (1 ≤ e ∧ e ≤ 8) := c_e
              rw [show gaN s (nI ga) (nI gb) (nI gc9) (nI gd) e = none by unfold gaN; rw [if_pos cg, e_a, e_b, e_c, e_d, e_e]]
              refine gg_aload_n dX7_gap_0 rfl rfl ?_
              refine gf_X7_123 rfl dX7_gap_1 hM.1 rfl ?_
              refine gg_bipush (v := 10) dX7_gap_4 (by decide) ?_
              refine gg_icmp_eq (tgt := 59) dX7_gap_6 (by decide) (fun c6 => ?_) (fun c6 => ?_)
              · exact absurd (n_eq (a := zG s) (b := 10) c6) (by omega)
              · refine gg_iload_n dX7_gap_9 rfl rfl ?_
                refine gg_iconst (v := 0) dX7_gap_10 (by decide) ?_
                refine gg_iconst (v := 5) dX7_gap_11 (by decide) ?_
                refine gg_callS (sp_X7_lies S (nI ga) 0 5) dX7_gap_12 kw_X7_97 rfl rfl (Nat.le_of_ble_eq_true rfl) (Nat.le_of_ble_eq_true rfl) (Nat.le_of_ble_eq_true rfl) ⟨(Nat.le_of_ble_eq_true rfl), (Nat.le_of_ble_eq_true rfl)⟩ (fun r S1 hq => ?_)
                refine gg_k (k2 := (0, 0)) rfl ?_
                obtain ⟨e9, rfl⟩ := hq
                rw [e9, if_pos c_a]
                clear e9 S1
                refine gg_if_eq (tgt := 59) dX7_gap_15 (by decide) (fun c15 => ?_) (fun c15 => ?_)
                · exact absurd c15 (by decide)
                · refine gg_iload_n dX7_gap_18 rfl rfl ?_
                  refine gg_iconst (v := 0) dX7_gap_19 (by decide) ?_
                  refine gg_bipush (v := 15) dX7_gap_20 (by decide) ?_
                  refine gg_callS (sp_X7_lies S (nI gb) 0 15) dX7_gap_22 kw_X7_97 rfl rfl (Nat.le_of_ble_eq_true rfl) (Nat.le_of_ble_eq_true rfl) (Nat.le_of_ble_eq_true rfl) ⟨(Nat.le_of_ble_eq_true rfl), (Nat.le_of_ble_eq_true rfl)⟩ (fun r S1 hq => ?_)
                  refine gg_k (k2 := (0, 0)) rfl ?_
                  obtain ⟨e9, rfl⟩ := hq
                  rw [e9, if_pos c_b]
                  clear e9 S1
                  refine gg_if_eq (tgt := 59) dX7_gap_25 (by decide) (fun c25 => ?_) (fun c25 => ?_)
                  · exact absurd c25 (by decide)
                  · refine gg_iload_n dX7_gap_28 rfl rfl ?_
                    refine gg_iconst (v := 0) dX7_gap_29 (by decide) ?_
                    refine gg_bipush (v := 7) dX7_gap_30 (by decide) ?_
                    refine gg_callS (sp_X7_lies S (nI gc9) 0 7) dX7_gap_32 kw_X7_97 rfl rfl (Nat.le_of_ble_eq_true rfl) (Nat.le_of_ble_eq_true rfl) (Nat.le_of_ble_eq_true rfl) ⟨(Nat.le_of_ble_eq_true rfl), (Nat.le_of_ble_eq_true rfl)⟩ (fun r S1 hq => ?_)
                    refine gg_k (k2 := (0, 0)) rfl ?_
                    obtain ⟨e9, rfl⟩ := hq
                    rw [e9, if_pos c_c]
                    clear e9 S1
                    refine gg_if_eq (tgt := 59) dX7_gap_35 (by decide) (fun c35 => ?_) (fun c35 => ?_)
                    · exact absurd c35 (by decide)
                    · refine gg_iload dX7_gap_38 rfl ?_
                      refine gg_iconst (v := 0) dX7_gap_40 (by decide) ?_
                      refine gg_iconst (v := 3) dX7_gap_41 (by decide) ?_
                      refine gg_callS (sp_X7_lies S (nI gd) 0 3) dX7_gap_42 kw_X7_97 rfl rfl (Nat.le_of_ble_eq_true rfl) (Nat.le_of_ble_eq_true rfl) (Nat.le_of_ble_eq_true rfl) ⟨(Nat.le_of_ble_eq_true rfl), (Nat.le_of_ble_eq_true rfl)⟩ (fun r S1 hq => ?_)
                      refine gg_k (k2 := (0, 0)) rfl ?_
                      obtain ⟨e9, rfl⟩ := hq
                      rw [e9, if_pos c_d]
                      clear e9 S1
                      refine gg_if_eq (tgt := 59) dX7_gap_45 (by decide) (fun c45 => ?_) (fun c45 => ?_)
                      · exact absurd c45 (by decide)
                      · refine gg_iload dX7_gap_48 rfl ?_
                        refine gg_iconst (v := 1) dX7_gap_50 (by decide) ?_
                        refine gg_bipush (v := 8) dX7_gap_51 (by decide) ?_
                        refine gg_callS (sp_X7_lies S e 1 8) dX7_gap_53 kw_X7_97 rfl rfl (Nat.le_of_ble_eq_true rfl) (Nat.le_of_ble_eq_true rfl) (Nat.le_of_ble_eq_true rfl) ⟨(Nat.le_of_ble_eq_true rfl), (Nat.le_of_ble_eq_true rfl)⟩ (fun r S1 hq => ?_)
                        refine gg_k (k2 := (0, 0)) rfl ?_
                        obtain ⟨e9, rfl⟩ := hq
                        rw [e9, if_neg c_e]
                        clear e9 S1
                        refine gg_if_ne (tgt := 61) dX7_gap_56 (by decide) (fun c56 => ?_) (fun c56 => ?_)
                        · exact absurd rfl c56
                        · refine gg_iconst (v := -1) dX7_gap_59 (by decide) ?_
                          exact gg_ireturn dX7_gap_60 rfl rfl ⟨(Nat.le_of_ble_eq_true rfl), (Nat.le_of_ble_eq_true rfl)⟩ (⟨rfl, ⟨A, py, fr, mt, mc, hM, hG, hF⟩, hf⟩)
            · rw [show gaN s (nI ga) (nI gb) (nI gc9) (nI gd) (nI ge) = some ((zT s, zG s + 1, zD s, zN s + 1), s.2.1, s.2.2.1, s.2.2.2.1, up2 (zg s) (zG s) (gaF ga gb gc9 gd ge), s.2.2.2.2.2) by unfold gaN; rw [if_pos cg, e_a, e_b, e_c, e_d, e_e]]
              refine gg_aload_n dX7_gap_0 rfl rfl ?_
              refine gf_X7_123 rfl dX7_gap_1 hM.1 rfl ?_
              refine gg_bipush (v := 10) dX7_gap_4 (by decide) ?_
              refine gg_icmp_eq (tgt := 59) dX7_gap_6 (by decide) (fun c6 => ?_) (fun c6 => ?_)
              · exact absurd (n_eq (a := zG s) (b := 10) c6) (by omega)
              · refine gg_iload_n dX7_gap_9 rfl rfl ?_
                refine gg_iconst (v := 0) dX7_gap_10 (by decide) ?_
                refine gg_iconst (v := 5) dX7_gap_11 (by decide) ?_
                refine gg_callS (sp_X7_lies S (nI ga) 0 5) dX7_gap_12 kw_X7_97 rfl rfl (Nat.le_of_ble_eq_true rfl) (Nat.le_of_ble_eq_true rfl) (Nat.le_of_ble_eq_true rfl) ⟨(Nat.le_of_ble_eq_true rfl), (Nat.le_of_ble_eq_true rfl)⟩ (fun r S1 hq => ?_)
                refine gg_k (k2 := (0, 0)) rfl ?_
                obtain ⟨e9, rfl⟩ := hq
                rw [e9, if_pos c_a]
                clear e9 S1
                refine gg_if_eq (tgt := 59) dX7_gap_15 (by decide) (fun c15 => ?_) (fun c15 => ?_)
                · exact absurd c15 (by decide)
                · refine gg_iload_n dX7_gap_18 rfl rfl ?_
                  refine gg_iconst (v := 0) dX7_gap_19 (by decide) ?_
                  refine gg_bipush (v := 15) dX7_gap_20 (by decide) ?_
                  refine gg_callS (sp_X7_lies S (nI gb) 0 15) dX7_gap_22 kw_X7_97 rfl rfl (Nat.le_of_ble_eq_true rfl) (Nat.le_of_ble_eq_true rfl) (Nat.le_of_ble_eq_true rfl) ⟨(Nat.le_of_ble_eq_true rfl), (Nat.le_of_ble_eq_true rfl)⟩ (fun r S1 hq => ?_)
                  refine gg_k (k2 := (0, 0)) rfl ?_
                  obtain ⟨e9, rfl⟩ := hq
                  rw [e9, if_pos c_b]
                  clear e9 S1
                  refine gg_if_eq (tgt := 59) dX7_gap_25 (by decide) (fun c25 => ?_) (fun c25 => ?_)
                  · exact absurd c25 (by decide)
                  · refine gg_iload_n dX7_gap_28 rfl rfl ?_
                    refine gg_iconst (v := 0) dX7_gap_29 (by decide) ?_
                    refine gg_bipush (v := 7) dX7_gap_30 (by decide) ?_
                    refine gg_callS (sp_X7_lies S (nI gc9) 0 7) dX7_gap_32 kw_X7_97 rfl rfl (Nat.le_of_ble_eq_true rfl) (Nat.le_of_ble_eq_true rfl) (Nat.le_of_ble_eq_true rfl) ⟨(Nat.le_of_ble_eq_true rfl), (Nat.le_of_ble_eq_true rfl)⟩ (fun r S1 hq => ?_)
                    refine gg_k (k2 := (0, 0)) rfl ?_
                    obtain ⟨e9, rfl⟩ := hq
                    rw [e9, if_pos c_c]
                    clear e9 S1
                    refine gg_if_eq (tgt := 59) dX7_gap_35 (by decide) (fun c35 => ?_) (fun c35 => ?_)
                    · exact absurd c35 (by decide)
                    · refine gg_iload dX7_gap_38 rfl ?_
                      refine gg_iconst (v := 0) dX7_gap_40 (by decide) ?_
                      refine gg_iconst (v := 3) dX7_gap_41 (by decide) ?_
                      refine gg_callS (sp_X7_lies S (nI gd) 0 3) dX7_gap_42 kw_X7_97 rfl rfl (Nat.le_of_ble_eq_true rfl) (Nat.le_of_ble_eq_true rfl) (Nat.le_of_ble_eq_true rfl) ⟨(Nat.le_of_ble_eq_true rfl), (Nat.le_of_ble_eq_true rfl)⟩ (fun r S1 hq => ?_)
                      refine gg_k (k2 := (0, 0)) rfl ?_
                      obtain ⟨e9, rfl⟩ := hq
                      rw [e9, if_pos c_d]
                      clear e9 S1
                      refine gg_if_eq (tgt := 59) dX7_gap_45 (by decide) (fun c45 => ?_) (fun c45 => ?_)
                      · exact absurd c45 (by decide)
                      · refine gg_iload dX7_gap_48 rfl ?_
                        refine gg_iconst (v := 1) dX7_gap_50 (by decide) ?_
                        refine gg_bipush (v := 8) dX7_gap_51 (by decide) ?_
                        refine gg_callS (sp_X7_lies S (nI ge) 1 8) dX7_gap_53 kw_X7_97 rfl rfl (Nat.le_of_ble_eq_true rfl) (Nat.le_of_ble_eq_true rfl) (Nat.le_of_ble_eq_true rfl) ⟨(Nat.le_of_ble_eq_true rfl), (Nat.le_of_ble_eq_true rfl)⟩ (fun r S1 hq => ?_)
                        refine gg_k (k2 := (0, 0)) rfl ?_
                        obtain ⟨e9, rfl⟩ := hq
                        rw [e9, if_pos c_e]
                        clear e9 S1
                        refine gg_if_ne (tgt := 61) dX7_gap_56 (by decide) (fun c56 => ?_) (fun c56 => ?_)
                        · refine gg_aload_n dX7_gap_61 rfl rfl ?_
                          refine gf_X7_54 rfl dX7_gap_62 hM.1 rfl ?_
                          refine gg_aload_n dX7_gap_65 rfl rfl ?_
                          refine gf_X7_123 rfl dX7_gap_66 hM.1 rfl ?_
                          refine gg_iload_n dX7_gap_69 rfl rfl ?_
                          refine gg_ast_i (zG s) dX7_gap_70 hM.a14 rfl (by omega) (by decide) ?_
                          refine MPs_14 hM hf (fun S hM hf => ?_)
                          refine gg_aload_n dX7_gap_71 rfl rfl ?_
                          refine gf_X7_57 rfl dX7_gap_72 hM.1 rfl ?_
                          refine gg_aload_n dX7_gap_75 rfl rfl ?_
                          refine gf_X7_123 rfl dX7_gap_76 hM.1 rfl ?_
                          refine gg_iload_n dX7_gap_79 rfl rfl ?_
                          refine gg_ast_i (zG s) dX7_gap_80 hM.a15 rfl (by omega) (by decide) ?_
                          refine MPs_15 hM hf (fun S hM hf => ?_)
                          refine gg_aload_n dX7_gap_81 rfl rfl ?_
                          refine gf_X7_60 rfl dX7_gap_82 hM.1 rfl ?_
                          refine gg_aload_n dX7_gap_85 rfl rfl ?_
                          refine gf_X7_123 rfl dX7_gap_86 hM.1 rfl ?_
                          refine gg_iload_n dX7_gap_89 rfl rfl ?_
                          refine gg_ast_i (zG s) dX7_gap_90 hM.a16 rfl (by omega) (by decide) ?_
                          refine MPs_16 hM hf (fun S hM hf => ?_)
                          refine gg_aload_n dX7_gap_91 rfl rfl ?_
                          refine gf_X7_63 rfl dX7_gap_92 hM.1 rfl ?_
                          refine gg_aload_n dX7_gap_95 rfl rfl ?_
                          refine gf_X7_123 rfl dX7_gap_96 hM.1 rfl ?_
                          refine gg_iload dX7_gap_99 rfl ?_
                          refine gg_ast_i (zG s) dX7_gap_101 hM.a17 rfl (by omega) (by decide) ?_
                          refine MPs_17 hM hf (fun S hM hf => ?_)
                          refine gg_aload_n dX7_gap_102 rfl rfl ?_
                          refine gf_X7_66 rfl dX7_gap_103 hM.1 rfl ?_
                          refine gg_aload_n dX7_gap_106 rfl rfl ?_
                          refine gf_X7_123 rfl dX7_gap_107 hM.1 rfl ?_
                          refine gg_iload dX7_gap_110 rfl ?_
                          refine gg_ast_i (zG s) dX7_gap_112 hM.a18 rfl (by omega) (by decide) ?_
                          refine MPs_18 hM hf (fun S hM hf => ?_)
                          refine gg_aload_n dX7_gap_113 rfl rfl ?_
                          refine gg_dup dX7_gap_114 rfl ?_
                          refine gf_X7_123 rfl dX7_gap_115 hM.1 rfl ?_
                          refine gg_iconst (v := 1) dX7_gap_118 (by decide) ?_
                          refine gg_iadd dX7_gap_119 ?_
                          refine pf_X7_123 rfl dX7_gap_120 hM.1 (Nat.le_of_ble_eq_true rfl) ?_
                          refine MPs_gc (zG s + 1) (nI_1 _) hM hf (fun S hM hf => ?_)
                          refine gg_aload_n dX7_gap_123 rfl rfl ?_
                          refine gg_iconst (v := 0) dX7_gap_124 (by decide) ?_
                          refine pf_X7_116 rfl dX7_gap_125 hM.1 (Nat.le_of_ble_eq_true rfl) rfl rfl ?_
                          refine MPs_fr hM hf (fun S hM hf => ?_)
                          refine gg_aload_n dX7_gap_128 rfl rfl ?_
                          refine gf_X7_123 rfl dX7_gap_129 hM.1 rfl ?_
                          refine gg_iconst (v := 1) dX7_gap_132 (by decide) ?_
                          refine gg_isub dX7_gap_133 ?_
                          rw [nI_pred]
                          exact gg_ireturn dX7_gap_134 rfl rfl ⟨(Nat.le_of_ble_eq_true rfl), (Nat.le_of_ble_eq_true rfl)⟩ (⟨rfl, ⟨_, py, 0, mt, mc, hM, hG.gap (h9 := gaF ga gb gc9 gd ge) (fun j hj => by rw [up2_n _ _ (by omega), up2_n _ _ (by omega), up2_n _ _ (by omega), up2_n _ _ (by omega), up2_n _ _ (by omega)]) (fun k hk => by
                            rcases (show k = 0 ∨ k = 1 ∨ k = 2 ∨ k = 3 ∨ k = 4 by omega) with rfl | rfl | rfl | rfl | rfl <;> rfl), Or.inl rfl⟩, hf⟩)
                        · exact absurd c56 (by decide)
  · rw [show gaN s a b c d e = none by unfold gaN; exact if_neg cg]
    refine gg_aload_n dX7_gap_0 rfl rfl ?_
    refine gf_X7_123 rfl dX7_gap_1 hM.1 rfl ?_
    refine gg_bipush (v := 10) dX7_gap_4 (by decide) ?_
    refine gg_icmp_eq (tgt := 59) dX7_gap_6 (by decide) (fun c6 => ?_) (fun c6 => ?_)
    · refine gg_iconst (v := -1) dX7_gap_59 (by decide) ?_
      exact gg_ireturn dX7_gap_60 rfl rfl ⟨(Nat.le_of_ble_eq_true rfl), (Nat.le_of_ble_eq_true rfl)⟩ (⟨rfl, ⟨A, py, fr, mt, mc, hM, hG, hF⟩, hf⟩)
    · exact absurd (congrArg nI (show zG s = 10 by omega)) c6
