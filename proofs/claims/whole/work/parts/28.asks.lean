/-! what asks THE MATCH -/
theorem Met.conseq {l : Launch} {y : MethodName} {ws : List Cond} {rm : Room} {Pc : Array Value → State → Prop} {Qc Qd : Array Value → State → Outcome → State → Prop} {mc ms : Nat} {free : Addr → Prop} (h : ∀ a s o t, Qc a s o t → Qd a s o t) (hM : Met l y ws rm Pc Qc mc ms free) : Met l y ws rm Pc Qd mc ms free := by
  intro p e ha hc hk s m args below hf happ hP hK
  obtain ⟨k, o, h1, h2, h3, h4, h5⟩ := hM p e ha hc hk s m args below hf happ hP hK
  exact ⟨k, o, h1, h2, h3, h _ _ _ _ h4, h5⟩
/-- A is what the match's algorithm finds for the state, o what it starts from -/
def Mtd (s : DS) (A : Nat → Nat) (o : oa_T) : Prop := ∃ (num : Nat → Int32) (w : Nat → Nat → Int64) (tks : Nat → Int32) (a : Nat → Nat) (tl : Nat → Int64) (par : Nat → Option Nat), (∀ j, j < 7 → num j = zr s j) ∧ (∀ i, a i ≤ 12) ∧ (∀ i h, par i = some h → i < 10 ∧ h < 10) ∧ o = mtO (zT s) (zG s) (zD s) (zf s) (zm s) (zg s) num w tks ∧ A = (mtS o a tl par).1
def Mto (s : DS) (o : oa_T) : Prop := ∃ (num : Nat → Int32) (w : Nat → Nat → Int64) (tks : Nat → Int32), (∀ j, j < 7 → num j = zr s j) ∧ o = mtO (zT s) (zG s) (zD s) (zf s) (zm s) (zg s) num w tks
def PMr (S : gl_H) (o : oa_T) (A : Nat → Nat) : Prop := (∀ i, A i ≤ 12) ∧ ∃ (tk : Int32) (tl : Nat → Int64) (par : Nat → Option Nat), PM S o.1 tk o.2.1 o.2.2 (fun i => nI (A i)) tl (fun i => oI (par i)) ∧ ∀ i h, par i = some h → i < 10 ∧ h < 10
theorem PMr.x {S : gl_H} {o : oa_T} {A : Nat → Nat} (h : PMr S o A) : PMx S := by
  obtain ⟨h1, tk, tl, par, h2, h3⟩ := h
  exact ⟨_, tk, _, _, A, tl, par, h2, h1, h3⟩
theorem DP.pm {S S1 : gl_H} {s : DS} (h : DP S s) (hW : DW s) (hf : Fr 12 30 S S1) (hM : PMx S1) : DP S1 s := by
  obtain ⟨hDx, hT, hBx, hVx, hMx⟩ := h
  exact ⟨hDx.fr hW.1 hf (by decide) (by decide), hT.fr2 hf (Or.inr (by decide)), hBx.fr hf (Or.inr (by decide)), hVx.fr hf (Or.inr (by decide)), hM⟩
theorem sp_findM {S : gl_H} {s : DS} (h : DP S s) (hW : DW s) : Sp mX6_findMatch yX6_findMatch [.ref 0] S (fun r S1 => r = none ∧ ∃ A o, Mtd s A o ∧ PMr S1 o A ∧ DP S1 s ∧ Fr 12 30 S S1) := by
  have h0 := h
  obtain ⟨⟨gp, hD⟩, hT, ⟨num, dr, pl, hnum, hB⟩, hVx, og, tk, w, tks, a, tl, par, hp, h1, h2⟩ := h
  have hs := sp_X6_findMatch hD hW.1 hW.2.1 hW.2.2.2.1 hB h1 h2 hp
  intro l D K ad sz hb
  have hm := hs l D K ad sz hb
  refine Met.conseq ?_ hm
  intro args st oc t hq
  obtain ⟨⟨r, S1, ad1, e1, ⟨e2, e3, e4⟩, e5⟩, e6⟩ := hq
  have hok := slF_ok (w := (mtO (zT s) (zG s) (zD s) (zf s) (zm s) (zg s) num w tks).2.1) (og := (mtO (zT s) (zG s) (zD s) (zf s) (zm s) (zg s) num w tks).1) (s := (fillN a 10 12, 0, tl, par)) (mt_ok h1 h2) 10 (Nat.le_refl 10)
  have hr : PMr S1 (mtO (zT s) (zG s) (zD s) (zf s) (zm s) (zg s) num w tks) (mtS (mtO (zT s) (zG s) (zD s) (zf s) (zm s) (zg s) num w tks) a tl par).1 := ⟨hok.1, _, _, _, e3, hok.2⟩
  exact ⟨⟨r, S1, ad1, e1, ⟨e2, _, _, ⟨num, w, tks, a, tl, par, hnum, h1, h2, rfl, rfl⟩, hr, h0.pm hW e4 hr.x, e4⟩, e5⟩, e6⟩
theorem sp_X6_match {S : gl_H} {s : DS} (h : DP S s) (hW : DW s) : Sp mX6_match yX6_match [.ref 0] S (fun r S1 => ∃ A o, Mtd s A o ∧ r = some (.int (nI (cntN (fun i => !(A i == 12)) 10))) ∧ DP S1 s ∧ FrD S S1) := by
  refine gl_enter (j := 0) (by decide +kernel) rfl (fun h => absurd h (by decide)) (Nat.le_of_ble_eq_true rfl) rfl (fun x => ?_)
  have h0 := h
  obtain ⟨⟨gp, hD⟩, hT, ⟨num, dr, pl, hnum, hB⟩, hVx, hMx⟩ := h
  have htc := hW.1
  have hgc := hW.2.1
  refine gg_aload_n dX6_match_0 rfl rfl ?_
  refine gg_callV (sp_findM h0 hW) dX6_match_1 kw_X6_117 rfl hD.1 rfl rfl (Nat.le_of_ble_eq_true rfl) (Nat.le_of_ble_eq_true rfl) (Nat.le_of_ble_eq_true rfl) ⟨(Nat.le_of_ble_eq_true rfl), (Nat.le_of_ble_eq_true rfl)⟩ (fun r S1 hq => ?_)
  refine gg_k (k2 := (0, 0)) rfl ?_
  obtain ⟨rfl, A, o, hMt, hr, h1, hf⟩ := hq
  obtain ⟨⟨gp1, hD⟩, hT, ⟨num, dr, pl, hnum, hB⟩, hVx, -⟩ := id h1
  obtain ⟨hA, tk, tl, par, hp, hpar⟩ := id hr
  refine gg_aload_n dX6_match_4 rfl rfl ?_
  refine gf_X6_45 rfl dX6_match_5 hD.1 rfl ?_
  refine gg_callV (sp_X1_filled hp hA) dX6_match_8 kw_X6_120 rfl hp.1 rfl rfl (Nat.le_of_ble_eq_true rfl) (Nat.le_of_ble_eq_true rfl) (Nat.le_of_ble_eq_true rfl) ⟨(Nat.le_of_ble_eq_true rfl), (Nat.le_of_ble_eq_true rfl)⟩ (fun r S1 hq => ?_)
  refine gg_k (k2 := (0, 0)) rfl ?_
  obtain ⟨e9, rfl⟩ := hq
  rw [e9]
  clear e9 S1
  exact gg_ireturn dX6_match_11 rfl rfl ⟨(Nat.le_of_ble_eq_true rfl), (Nat.le_of_ble_eq_true rfl)⟩ (⟨A, o, hMt, rfl, h1, hf.D (by decide)⟩)
theorem sp_X6_costs {S : gl_H} {s : DS} (h : DP S s) (hW : DW s) : Sp mX6_costs yX6_costs [.ref 0] S (fun r S1 => ∃ A o, Mtd s A o ∧ r = some (.int (ciF o.2.1 A 10)) ∧ DP S1 s ∧ FrD S S1) := by
  refine gl_enter (j := 0) (by decide +kernel) rfl (fun h => absurd h (by decide)) (Nat.le_of_ble_eq_true rfl) rfl (fun x => ?_)
  have h0 := h
  obtain ⟨⟨gp, hD⟩, hT, ⟨num, dr, pl, hnum, hB⟩, hVx, hMx⟩ := h
  have htc := hW.1
  have hgc := hW.2.1
  refine gg_aload_n dX6_costs_0 rfl rfl ?_
  refine gg_callV (sp_findM h0 hW) dX6_costs_1 kw_X6_117 rfl hD.1 rfl rfl (Nat.le_of_ble_eq_true rfl) (Nat.le_of_ble_eq_true rfl) (Nat.le_of_ble_eq_true rfl) ⟨(Nat.le_of_ble_eq_true rfl), (Nat.le_of_ble_eq_true rfl)⟩ (fun r S1 hq => ?_)
  refine gg_k (k2 := (0, 0)) rfl ?_
  obtain ⟨rfl, A, o, hMt, hr, h1, hf⟩ := hq
  obtain ⟨⟨gp1, hD⟩, hT, ⟨num, dr, pl, hnum, hB⟩, hVx, -⟩ := id h1
  obtain ⟨hA, tk, tl, par, hp, hpar⟩ := id hr
  refine gg_aload_n dX6_costs_4 rfl rfl ?_
  refine gf_X6_45 rfl dX6_costs_5 hD.1 rfl ?_
  refine gg_callV (sp_X1_costInAll hp hA) dX6_costs_8 kw_X6_124 rfl hp.1 rfl rfl (Nat.le_of_ble_eq_true rfl) (Nat.le_of_ble_eq_true rfl) (Nat.le_of_ble_eq_true rfl) ⟨(Nat.le_of_ble_eq_true rfl), (Nat.le_of_ble_eq_true rfl)⟩ (fun r S1 hq => ?_)
  refine gg_k (k2 := (0, 0)) rfl ?_
  obtain ⟨e9, rfl⟩ := hq
  rw [e9]
  clear e9 S1
  exact gg_ireturn dX6_costs_11 rfl rfl ⟨(Nat.le_of_ble_eq_true rfl), (Nat.le_of_ble_eq_true rfl)⟩ (⟨A, o, hMt, rfl, h1, hf.D (by decide)⟩)
def whA (s : DS) (A : Nat → Nat) (g : Int32) : Int32 := match tix (zG s) g with
  | none => -1
  | some j => match opB (zf s) (zT s) j with
    | some t => nI t
    | none => oI (tfO A j)
theorem sp_X6_who {S : gl_H} {s : DS} (h : DP S s) (hW : DW s) (g9 : Int32) : Sp mX6_who yX6_who [.ref 0, .int g9] S (fun r S1 => ∃ A o, (tix (zG s) g9 = none ∨ (∃ j t, tix (zG s) g9 = some j ∧ opB (zf s) (zT s) j = some t) ∨ Mtd s A o) ∧ r = some (.int (whA s A g9)) ∧ DP S1 s ∧ FrD S S1) := by
  refine gl_enter (j := 1) (by decide +kernel) rfl (fun h => absurd h (by decide)) (Nat.le_of_ble_eq_true rfl) rfl (fun x => ?_)
  have h0 := h
  obtain ⟨⟨gp, hD⟩, hT, ⟨num, dr, pl, hnum, hB⟩, hVx, hMx⟩ := h
  have htc := hW.1
  have hgc := hW.2.1
  rcases tix_cases (n := zG s) (by omega) g9 with ⟨e3, e4⟩ | ⟨j, hj, rfl, e3⟩
  · refine gg_aload_n dX6_who_0 rfl rfl ?_
    refine gg_iload_n dX6_who_1 rfl rfl ?_
    refine gg_callV (sp_X6_gapAt_n hD e4) dX6_who_2 kw_X6_102 rfl hD.1 rfl rfl (Nat.le_of_ble_eq_true rfl) (Nat.le_of_ble_eq_true rfl) (Nat.le_of_ble_eq_true rfl) ⟨(Nat.le_of_ble_eq_true rfl), (Nat.le_of_ble_eq_true rfl)⟩ (fun r S1 hq => ?_)
    refine gg_k (k2 := (0, 0)) rfl ?_
    obtain ⟨e9, rfl⟩ := hq
    rw [e9]
    clear e9 S1
    refine gg_ifnonnullN dX6_who_5 ?_
    refine gg_iconst (v := -1) dX6_who_8 (by decide) ?_
    exact gg_ireturn dX6_who_9 rfl rfl ⟨(Nat.le_of_ble_eq_true rfl), (Nat.le_of_ble_eq_true rfl)⟩ (⟨fun _ => 0, (0, fun _ _ => 0, fun _ => 0), Or.inl e3, by unfold whA; rw [e3], h0, FrD.rf⟩)
  · obtain ⟨q, hq0, hq3, hq4, hG⟩ := hD.2.2.2.2.1 j hj
    cases hop : opB (zf s) (zT s) j with
    | some t9 =>
      have ht9 : t9 < zT s := by have := (ffst_lt hop).2.1; omega
      refine gg_aload_n dX6_who_0 rfl rfl ?_
      refine gg_iload_n dX6_who_1 rfl rfl ?_
      refine gg_callV (sp_X6_gapAt_y hD hgc hj hq0) dX6_who_2 kw_X6_102 rfl hD.1 rfl rfl (Nat.le_of_ble_eq_true rfl) (Nat.le_of_ble_eq_true rfl) (Nat.le_of_ble_eq_true rfl) ⟨(Nat.le_of_ble_eq_true rfl), (Nat.le_of_ble_eq_true rfl)⟩ (fun r S1 hq => ?_)
      refine gg_k (k2 := (0, 0)) rfl ?_
      obtain ⟨e9, rfl⟩ := hq
      rw [e9]
      clear e9 S1
      refine gg_ifnonnull (tgt := 10) dX6_who_5 (by decide) ?_
      refine gg_aload_n dX6_who_10 rfl rfl ?_
      refine gg_iload_n dX6_who_11 rfl rfl ?_
      refine gg_callV (sp_X6_sentTo hD htc (nI j)) dX6_who_12 kw_X6_127 rfl hD.1 rfl rfl (Nat.le_of_ble_eq_true rfl) (Nat.le_of_ble_eq_true rfl) (Nat.le_of_ble_eq_true rfl) ⟨(Nat.le_of_ble_eq_true rfl), (Nat.le_of_ble_eq_true rfl)⟩ (fun r S1 hq => ?_)
      refine gg_k (k2 := (0, 0)) rfl ?_
      obtain ⟨e9, rfl⟩ := hq
      rw [e9, show ffst (fun t => (zf s t 5 == 1) && (zf s t 6 == nI j)) 0 (zT s) = _ from hop]
      clear e9 S1
      refine gg_istore_n dX6_who_15 rfl (Nat.le_of_ble_eq_true rfl) rfl ?_
      refine gg_iload_n dX6_who_16 rfl rfl ?_
      refine gg_iconst (v := -1) dX6_who_17 (by decide) ?_
      refine gg_icmp_eq (tgt := 23) dX6_who_18 (by decide) (fun c18 => ?_) (fun c18 => ?_)
      · exact absurd c18 (nI_m1 (by omega))
      · refine gg_iload_n dX6_who_21 rfl rfl ?_
        exact gg_ireturn dX6_who_22 rfl rfl ⟨(Nat.le_of_ble_eq_true rfl), (Nat.le_of_ble_eq_true rfl)⟩ (⟨fun _ => 0, (0, fun _ _ => 0, fun _ => 0), Or.inr (Or.inl ⟨j, t9, e3, hop⟩), by unfold whA; rw [e3]; dsimp only; rw [hop]; rfl, h0, FrD.rf⟩)
    | none =>
      refine gg_aload_n dX6_who_0 rfl rfl ?_
      refine gg_iload_n dX6_who_1 rfl rfl ?_
      refine gg_callV (sp_X6_gapAt_y hD hgc hj hq0) dX6_who_2 kw_X6_102 rfl hD.1 rfl rfl (Nat.le_of_ble_eq_true rfl) (Nat.le_of_ble_eq_true rfl) (Nat.le_of_ble_eq_true rfl) ⟨(Nat.le_of_ble_eq_true rfl), (Nat.le_of_ble_eq_true rfl)⟩ (fun r S1 hq => ?_)
      refine gg_k (k2 := (0, 0)) rfl ?_
      obtain ⟨e9, rfl⟩ := hq
      rw [e9]
      clear e9 S1
      refine gg_ifnonnull (tgt := 10) dX6_who_5 (by decide) ?_
      refine gg_aload_n dX6_who_10 rfl rfl ?_
      refine gg_iload_n dX6_who_11 rfl rfl ?_
      refine gg_callV (sp_X6_sentTo hD htc (nI j)) dX6_who_12 kw_X6_127 rfl hD.1 rfl rfl (Nat.le_of_ble_eq_true rfl) (Nat.le_of_ble_eq_true rfl) (Nat.le_of_ble_eq_true rfl) ⟨(Nat.le_of_ble_eq_true rfl), (Nat.le_of_ble_eq_true rfl)⟩ (fun r S1 hq => ?_)
      refine gg_k (k2 := (0, 0)) rfl ?_
      obtain ⟨e9, rfl⟩ := hq
      rw [e9, show ffst (fun t => (zf s t 5 == 1) && (zf s t 6 == nI j)) 0 (zT s) = _ from hop]
      clear e9 S1
      refine gg_istore_n dX6_who_15 rfl (Nat.le_of_ble_eq_true rfl) rfl ?_
      refine gg_iload_n dX6_who_16 rfl rfl ?_
      refine gg_iconst (v := -1) dX6_who_17 (by decide) ?_
      refine gg_icmp_eq (tgt := 23) dX6_who_18 (by decide) (fun c18 => ?_) (fun c18 => ?_)
      · refine gg_aload_n dX6_who_23 rfl rfl ?_
        refine gg_callV (sp_findM h0 hW) dX6_who_24 kw_X6_117 rfl hD.1 rfl rfl (Nat.le_of_ble_eq_true rfl) (Nat.le_of_ble_eq_true rfl) (Nat.le_of_ble_eq_true rfl) ⟨(Nat.le_of_ble_eq_true rfl), (Nat.le_of_ble_eq_true rfl)⟩ (fun r S1 hq => ?_)
        refine gg_k (k2 := (0, 0)) rfl ?_
        obtain ⟨rfl, A, o, hMt, hr, h1, hf⟩ := hq
        obtain ⟨⟨gp1, hD⟩, hT, ⟨num, dr, pl, hnum, hB⟩, hVx, -⟩ := id h1
        obtain ⟨hA, tk, tl, par, hp, hpar⟩ := id hr
        refine gg_aload_n dX6_who_27 rfl rfl ?_
        refine gf_X6_45 rfl dX6_who_28 hD.1 rfl ?_
        refine gg_iload_n dX6_who_31 rfl rfl ?_
        refine gg_callV (sp_X1_teacherFor hp hA (show j < 10 by omega)) dX6_who_32 kw_X6_131 rfl hp.1 rfl rfl (Nat.le_of_ble_eq_true rfl) (Nat.le_of_ble_eq_true rfl) (Nat.le_of_ble_eq_true rfl) ⟨(Nat.le_of_ble_eq_true rfl), (Nat.le_of_ble_eq_true rfl)⟩ (fun r S1 hq => ?_)
        refine gg_k (k2 := (0, 0)) rfl ?_
        obtain ⟨e9, rfl⟩ := hq
        rw [e9]
        clear e9 S1
        exact gg_ireturn dX6_who_35 rfl rfl ⟨(Nat.le_of_ble_eq_true rfl), (Nat.le_of_ble_eq_true rfl)⟩ (⟨A, o, Or.inr (Or.inr hMt), by unfold whA; rw [e3]; dsimp only; rw [hop], h1, hf.D (by decide)⟩)
      · exact absurd rfl c18
def ahB (s : DS) (A : Nat → Nat) (g h : Nat) : Bool := if zf s (A g) 7 = zf s (A h) 7 then decide (nI (zg s h 4) < nI (zg s g 4)) else decide (zf s (A g) 7 < zf s (A h) 7)
theorem sp_X6_isCalledAhead {S : gl_H} {s : DS} (h : DP S s) (hW : DW s) {A : Nat → Nat} {o : oa_T} (hr : PMr S o A) {g h9 : Nat} (hg : g < zG s) (hh : h9 < zG s) (ag : A g < zT s) (ah : A h9 < zT s) : Sp mX6_isCalledAhead yX6_isCalledAhead [.ref 0, .int (nI g), .int (nI h9)] S (fun r S1 => S1 = S ∧ r = some (.int (bI (ahB s A g h9)))) := by
  refine gl_enter (j := 4) (by decide +kernel) rfl (fun h => absurd h (by decide)) (Nat.le_of_ble_eq_true rfl) rfl (fun x => ?_)
  obtain ⟨⟨gp, hD⟩, hT, ⟨num, dr, pl, hnum, hB⟩, hVx, hMx⟩ := h
  have htc := hW.1
  have hgc := hW.2.1
  obtain ⟨hA, tk, tl, par, hp, hpar⟩ := id hr
  obtain ⟨q, hq0, hq3, hq4, hG⟩ := hD.2.2.2.2.1 g hg
  obtain ⟨q2, hq02, hq32, hq42, hG2⟩ := hD.2.2.2.2.1 h9 hh
  have e1 : tfO A g = some (A g) := if_neg (by omega)
  have e2 : tfO A h9 = some (A h9) := if_neg (by omega)
  refine gg_aload_n dX6_isCalledAhead_0 rfl rfl ?_
  refine gg_aload_n dX6_isCalledAhead_1 rfl rfl ?_
  refine gf_X6_45 rfl dX6_isCalledAhead_2 hD.1 rfl ?_
  refine gg_iload_n dX6_isCalledAhead_5 rfl rfl ?_
  refine gg_callV (sp_X1_teacherFor hp hA (show g < 10 by omega)) dX6_isCalledAhead_6 kw_X6_131 rfl hp.1 rfl rfl (Nat.le_of_ble_eq_true rfl) (Nat.le_of_ble_eq_true rfl) (Nat.le_of_ble_eq_true rfl) ⟨(Nat.le_of_ble_eq_true rfl), (Nat.le_of_ble_eq_true rfl)⟩ (fun r S1 hq => ?_)
  refine gg_k (k2 := (0, 0)) rfl ?_
  obtain ⟨e9, rfl⟩ := hq
  rw [e9, e1]
  clear e9 S1
  refine gg_callV (sp_X6_teacherAt_y hD htc ag) dX6_isCalledAhead_9 kw_X6_75 rfl hD.1 rfl rfl (Nat.le_of_ble_eq_true rfl) (Nat.le_of_ble_eq_true rfl) (Nat.le_of_ble_eq_true rfl) ⟨(Nat.le_of_ble_eq_true rfl), (Nat.le_of_ble_eq_true rfl)⟩ (fun r S1 hq => ?_)
  refine gg_k (k2 := (0, 0)) rfl ?_
  obtain ⟨e9, rfl⟩ := hq
  rw [e9]
  clear e9 S1
  refine gg_astore_n dX6_isCalledAhead_12 rfl (Nat.le_of_ble_eq_true rfl) rfl ?_
  refine gg_aload_n dX6_isCalledAhead_13 rfl rfl ?_
  refine gg_aload_n dX6_isCalledAhead_14 rfl rfl ?_
  refine gf_X6_45 rfl dX6_isCalledAhead_15 hD.1 rfl ?_
  refine gg_iload_n dX6_isCalledAhead_18 rfl rfl ?_
  refine gg_callV (sp_X1_teacherFor hp hA (show h9 < 10 by omega)) dX6_isCalledAhead_19 kw_X6_131 rfl hp.1 rfl rfl (Nat.le_of_ble_eq_true rfl) (Nat.le_of_ble_eq_true rfl) (Nat.le_of_ble_eq_true rfl) ⟨(Nat.le_of_ble_eq_true rfl), (Nat.le_of_ble_eq_true rfl)⟩ (fun r S1 hq => ?_)
  refine gg_k (k2 := (0, 0)) rfl ?_
  obtain ⟨e9, rfl⟩ := hq
  rw [e9, e2]
  clear e9 S1
  refine gg_callV (sp_X6_teacherAt_y hD htc ah) dX6_isCalledAhead_22 kw_X6_75 rfl hD.1 rfl rfl (Nat.le_of_ble_eq_true rfl) (Nat.le_of_ble_eq_true rfl) (Nat.le_of_ble_eq_true rfl) ⟨(Nat.le_of_ble_eq_true rfl), (Nat.le_of_ble_eq_true rfl)⟩ (fun r S1 hq => ?_)
  refine gg_k (k2 := (0, 0)) rfl ?_
  obtain ⟨e9, rfl⟩ := hq
  rw [e9]
  clear e9 S1
  refine gg_astore dX6_isCalledAhead_25 (Nat.le_of_ble_eq_true rfl) rfl ?_
  refine gg_aload_n dX6_isCalledAhead_27 rfl rfl ?_
  refine gg_iload_n dX6_isCalledAhead_28 rfl rfl ?_
  refine gg_callV (sp_X6_gapAt_y hD hgc hg hq0) dX6_isCalledAhead_29 kw_X6_102 rfl hD.1 rfl rfl (Nat.le_of_ble_eq_true rfl) (Nat.le_of_ble_eq_true rfl) (Nat.le_of_ble_eq_true rfl) ⟨(Nat.le_of_ble_eq_true rfl), (Nat.le_of_ble_eq_true rfl)⟩ (fun r S1 hq => ?_)
  refine gg_k (k2 := (0, 0)) rfl ?_
  obtain ⟨e9, rfl⟩ := hq
  rw [e9]
  clear e9 S1
  refine gg_astore dX6_isCalledAhead_32 (Nat.le_of_ble_eq_true rfl) rfl ?_
  refine gg_aload_n dX6_isCalledAhead_34 rfl rfl ?_
  refine gg_iload_n dX6_isCalledAhead_35 rfl rfl ?_
  refine gg_callV (sp_X6_gapAt_y hD hgc hh hq02) dX6_isCalledAhead_36 kw_X6_102 rfl hD.1 rfl rfl (Nat.le_of_ble_eq_true rfl) (Nat.le_of_ble_eq_true rfl) (Nat.le_of_ble_eq_true rfl) ⟨(Nat.le_of_ble_eq_true rfl), (Nat.le_of_ble_eq_true rfl)⟩ (fun r S1 hq => ?_)
  refine gg_k (k2 := (0, 0)) rfl ?_
  obtain ⟨e9, rfl⟩ := hq
  rw [e9]
  clear e9 S1
  refine gg_astore dX6_isCalledAhead_39 (Nat.le_of_ble_eq_true rfl) rfl ?_
  refine gg_aload_n dX6_isCalledAhead_41 rfl rfl ?_
  refine gg_ifnull dX6_isCalledAhead_42 ?_
  refine gg_aload dX6_isCalledAhead_45 rfl ?_
  refine gg_ifnull dX6_isCalledAhead_47 ?_
  refine gg_aload dX6_isCalledAhead_50 rfl ?_
  refine gg_ifnull dX6_isCalledAhead_52 ?_
  refine gg_aload dX6_isCalledAhead_55 rfl ?_
  refine gg_ifnonnull (tgt := 62) dX6_isCalledAhead_57 (by decide) ?_
  refine gg_aload_n dX6_isCalledAhead_62 rfl rfl ?_
  refine gf_X6_179 rfl dX6_isCalledAhead_63 (hD.2.2.2.1 (A g) ag).1 rfl ?_
  refine gg_aload dX6_isCalledAhead_66 rfl ?_
  refine gf_X6_179 rfl dX6_isCalledAhead_68 (hD.2.2.2.1 (A h9) ah).1 rfl ?_
  refine gg_icmp_eq (tgt := 92) dX6_isCalledAhead_71 (by decide) (fun c71 => ?_) (fun c71 => ?_)
  · have e : ahB s A g h9 = decide (nI (zg s h9 4) < nI (zg s g 4)) := if_pos c71
    rw [e]
    refine gg_aload dX6_isCalledAhead_92 rfl ?_
    refine gf_X6_200 rfl dX6_isCalledAhead_94 hG rfl ?_
    refine gg_aload dX6_isCalledAhead_97 rfl ?_
    refine gf_X6_200 rfl dX6_isCalledAhead_99 hG2 rfl ?_
    refine gg_icmp_le (tgt := 109) dX6_isCalledAhead_102 (by decide) (fun c102 => ?_) (fun c102 => ?_)
    · rw [decide_eq_false (Int32.not_lt.mpr c102)]
      refine gg_iconst (v := 0) dX6_isCalledAhead_109 (by decide) ?_
      exact gg_ireturn dX6_isCalledAhead_110 rfl rfl ⟨(Nat.le_of_ble_eq_true rfl), (Nat.le_of_ble_eq_true rfl)⟩ (⟨rfl, rfl⟩)
    · rw [decide_eq_true (Int32.not_le.mp c102)]
      refine gg_iconst (v := 1) dX6_isCalledAhead_105 (by decide) ?_
      refine gg_goto (tgt := 110) dX6_isCalledAhead_106 (by decide) ?_
      exact gg_ireturn dX6_isCalledAhead_110 rfl rfl ⟨(Nat.le_of_ble_eq_true rfl), (Nat.le_of_ble_eq_true rfl)⟩ (⟨rfl, rfl⟩)
  · have e : ahB s A g h9 = decide (zf s (A g) 7 < zf s (A h9) 7) := if_neg c71
    rw [e]
    refine gg_aload_n dX6_isCalledAhead_74 rfl rfl ?_
    refine gf_X6_179 rfl dX6_isCalledAhead_75 (hD.2.2.2.1 (A g) ag).1 rfl ?_
    refine gg_aload dX6_isCalledAhead_78 rfl ?_
    refine gf_X6_179 rfl dX6_isCalledAhead_80 (hD.2.2.2.1 (A h9) ah).1 rfl ?_
    refine gg_icmp_ge (tgt := 90) dX6_isCalledAhead_83 (by decide) (fun c83 => ?_) (fun c83 => ?_)
    · rw [decide_eq_false (Int32.not_lt.mpr c83)]
      refine gg_iconst (v := 0) dX6_isCalledAhead_90 (by decide) ?_
      exact gg_ireturn dX6_isCalledAhead_91 rfl rfl ⟨(Nat.le_of_ble_eq_true rfl), (Nat.le_of_ble_eq_true rfl)⟩ (⟨rfl, rfl⟩)
    · rw [decide_eq_true (Int32.not_le.mp c83)]
      refine gg_iconst (v := 1) dX6_isCalledAhead_86 (by decide) ?_
      refine gg_goto (tgt := 91) dX6_isCalledAhead_87 (by decide) ?_
      exact gg_ireturn dX6_isCalledAhead_91 rfl rfl ⟨(Nat.le_of_ble_eq_true rfl), (Nat.le_of_ble_eq_true rfl)⟩ (⟨rfl, rfl⟩)
def nxS (s : DS) (A : Nat → Nat) (g : Nat) (b : Option Nat) : Option Nat := if A g = 12 then b else match b with
  | none => some g
  | some h => if ahB s A g h then some g else some h
def nxF (s : DS) (A : Nat → Nat) : Nat → Option Nat
  | 0 => none
  | g + 1 => nxS s A g (nxF s A g)
theorem nxF_ok (s : DS) (A : Nat → Nat) : ∀ g h, nxF s A g = some h → h < g ∧ A h ≠ 12
  | 0, h, e => by cases e
  | g + 1, h, e => by
    have e' : nxS s A g (nxF s A g) = some h := e
    have ih := nxF_ok s A g
    unfold nxS at e'
    by_cases c : A g = 12
    · rw [if_pos c] at e'
      have := ih h e'
      exact ⟨by omega, this.2⟩
    · rw [if_neg c] at e'
      cases hb : nxF s A g with
      | none => rw [hb] at e'; cases e'; exact ⟨Nat.lt_succ_self _, c⟩
      | some h2 =>
        rw [hb] at e'
        dsimp only at e'
        split at e'
        · cases e'; exact ⟨Nat.lt_succ_self _, c⟩
        · cases e'
          have := ih _ hb
          exact ⟨by omega, this.2⟩
def neA (s : DS) (A : Nat → Nat) : Int32 := match nxF s A (zG s) with
  | none => -1
  | some g => nI (A g)
theorem nx_loop {S S0 : gl_H} {s : DS} (h : DP S s) (hW : DW s) {A : Nat → Nat} {o : oa_T} (hMt : Mtd s A o) (hr : PMr S o A) (hAT : ∀ g, g < zG s → A g ≠ 12 → A g < zT s) (hfD : FrD S0 S) (x : gl_X) : ∀ (m g : Nat), g + m = zG s → GG mX6_next x (gl_Z mX6_next x (fun r S1 => ∃ A o, Mtd s A o ∧ r = some (.int (neA s A)) ∧ DP S1 s ∧ FrD S0 S1)) 8 [some (.ref 0), some (.int (oI (nxF s A g))), some (.int (nI g))] [] S (0, 0) := by
  have h0 := h
  obtain ⟨⟨gp, hD⟩, hT, ⟨num, dr, pl, hnum, hB⟩, hVx, hMx⟩ := h
  have htc := hW.1
  have hgc := hW.2.1
  obtain ⟨hA, tk, tl, par, hp, hpar⟩ := id hr
  intro m
  induction m with
  | zero =>
    intro g hm
    have e : g = zG s := by omega
    subst e
    have hok := nxF_ok s A (zG s)
    cases hn : nxF s A (zG s) with
    | none =>
      have en : neA s A = -1 := by unfold neA; rw [hn]
      refine gg_iload_n dX6_next_8 rfl rfl ?_
      refine gg_aload_n dX6_next_9 rfl rfl ?_
      refine gf_X6_93 rfl dX6_next_10 hD.1 rfl ?_
      refine gg_icmp_ge (tgt := 50) dX6_next_13 (by decide) (fun c13 => ?_) (fun c13 => ?_)
      · refine gg_iload_n dX6_next_50 rfl rfl ?_
        refine gg_iconst (v := -1) dX6_next_51 (by decide) ?_
        refine gg_icmp_ne (tgt := 59) dX6_next_52 (by decide) (fun c52 => ?_) (fun c52 => ?_)
        · exact absurd rfl c52
        · refine gg_iconst (v := -1) dX6_next_55 (by decide) ?_
          refine gg_goto (tgt := 67) dX6_next_56 (by decide) ?_
          exact gg_ireturn dX6_next_67 rfl rfl ⟨(Nat.le_of_ble_eq_true rfl), (Nat.le_of_ble_eq_true rfl)⟩ (⟨A, o, hMt, by rw [en], h0, hfD⟩)
      · exact absurd (nI_le (Nat.le_refl (zG s)) (by omega)) c13
    | some b =>
      have hb := hok b hn
      have en : neA s A = nI (A b) := by unfold neA; rw [hn]
      refine gg_iload_n dX6_next_8 rfl rfl ?_
      refine gg_aload_n dX6_next_9 rfl rfl ?_
      refine gf_X6_93 rfl dX6_next_10 hD.1 rfl ?_
      refine gg_icmp_ge (tgt := 50) dX6_next_13 (by decide) (fun c13 => ?_) (fun c13 => ?_)
      · refine gg_iload_n dX6_next_50 rfl rfl ?_
        refine gg_iconst (v := -1) dX6_next_51 (by decide) ?_
        refine gg_icmp_ne (tgt := 59) dX6_next_52 (by decide) (fun c52 => ?_) (fun c52 => ?_)
        · refine gg_aload_n dX6_next_59 rfl rfl ?_
          refine gf_X6_45 rfl dX6_next_60 hD.1 rfl ?_
          refine gg_iload_n dX6_next_63 rfl rfl ?_
          refine gg_callV (sp_X1_teacherFor hp hA (show b < 10 by omega)) dX6_next_64 kw_X6_131 rfl hp.1 rfl rfl (Nat.le_of_ble_eq_true rfl) (Nat.le_of_ble_eq_true rfl) (Nat.le_of_ble_eq_true rfl) ⟨(Nat.le_of_ble_eq_true rfl), (Nat.le_of_ble_eq_true rfl)⟩ (fun r S1 hq => ?_)
          refine gg_k (k2 := (0, 0)) rfl ?_
          obtain ⟨e9, rfl⟩ := hq
          rw [e9, show tfO A b = some (A b) from if_neg hb.2]
          clear e9 S1
          exact gg_ireturn dX6_next_67 rfl rfl ⟨(Nat.le_of_ble_eq_true rfl), (Nat.le_of_ble_eq_true rfl)⟩ (⟨A, o, hMt, by rw [en]; rfl, h0, hfD⟩)
        · exact absurd c52 (nI_m1 (by omega))
      · exact absurd (nI_le (Nat.le_refl (zG s)) (by omega)) c13
  | succ m ih =>
    intro g hm
    have hg : g < zG s := by omega
    have hok := nxF_ok s A g
    by_cases cA : A g = 12
    · have e : nxF s A (g + 1) = nxF s A g := if_pos cA
      have et : tfO A g = none := if_pos cA
      refine gg_iload_n dX6_next_8 rfl rfl ?_
      refine gg_aload_n dX6_next_9 rfl rfl ?_
      refine gf_X6_93 rfl dX6_next_10 hD.1 rfl ?_
      refine gg_icmp_ge (tgt := 50) dX6_next_13 (by decide) (fun c13 => ?_) (fun c13 => ?_)
      · exact absurd (n_le c13) (by omega)
      · refine gg_aload_n dX6_next_16 rfl rfl ?_
        refine gf_X6_45 rfl dX6_next_17 hD.1 rfl ?_
        refine gg_iload_n dX6_next_20 rfl rfl ?_
        refine gg_callV (sp_X1_teacherFor hp hA (show g < 10 by omega)) dX6_next_21 kw_X6_131 rfl hp.1 rfl rfl (Nat.le_of_ble_eq_true rfl) (Nat.le_of_ble_eq_true rfl) (Nat.le_of_ble_eq_true rfl) ⟨(Nat.le_of_ble_eq_true rfl), (Nat.le_of_ble_eq_true rfl)⟩ (fun r S1 hq => ?_)
        refine gg_k (k2 := (0, 0)) rfl ?_
        obtain ⟨e9, rfl⟩ := hq
        rw [e9, et]
        clear e9 S1
        refine gg_iconst (v := -1) dX6_next_24 (by decide) ?_
        refine gg_icmp_eq (tgt := 44) dX6_next_25 (by decide) (fun c25 => ?_) (fun c25 => ?_)
        · refine gg_iinc (w := nI (g + 1)) dX6_next_44 rfl (nI_1 g) (Nat.le_of_ble_eq_true rfl) rfl ?_
          refine gg_goto (tgt := 8) dX6_next_47 (by decide) ?_
          have h9 := ih (g + 1) (by omega)
          rw [e] at h9
          exact h9
        · exact absurd rfl c25
    · have et : tfO A g = some (A g) := if_neg cA
      have ag := hAT g hg cA
      cases hn : nxF s A g with
      | none =>
        have e : nxF s A (g + 1) = some g := by
          show nxS s A g (nxF s A g) = _
          unfold nxS
          rw [if_neg cA, hn]
        refine gg_iload_n dX6_next_8 rfl rfl ?_
        refine gg_aload_n dX6_next_9 rfl rfl ?_
        refine gf_X6_93 rfl dX6_next_10 hD.1 rfl ?_
        refine gg_icmp_ge (tgt := 50) dX6_next_13 (by decide) (fun c13 => ?_) (fun c13 => ?_)
        · exact absurd (n_le c13) (by omega)
        · refine gg_aload_n dX6_next_16 rfl rfl ?_
          refine gf_X6_45 rfl dX6_next_17 hD.1 rfl ?_
          refine gg_iload_n dX6_next_20 rfl rfl ?_
          refine gg_callV (sp_X1_teacherFor hp hA (show g < 10 by omega)) dX6_next_21 kw_X6_131 rfl hp.1 rfl rfl (Nat.le_of_ble_eq_true rfl) (Nat.le_of_ble_eq_true rfl) (Nat.le_of_ble_eq_true rfl) ⟨(Nat.le_of_ble_eq_true rfl), (Nat.le_of_ble_eq_true rfl)⟩ (fun r S1 hq => ?_)
          refine gg_k (k2 := (0, 0)) rfl ?_
          obtain ⟨e9, rfl⟩ := hq
          rw [e9, et]
          clear e9 S1
          refine gg_iconst (v := -1) dX6_next_24 (by decide) ?_
          refine gg_icmp_eq (tgt := 44) dX6_next_25 (by decide) (fun c25 => ?_) (fun c25 => ?_)
          · exact absurd c25 (nI_m1 (by omega))
          · refine gg_iload_n dX6_next_28 rfl rfl ?_
            refine gg_iconst (v := -1) dX6_next_29 (by decide) ?_
            refine gg_icmp_eq (tgt := 42) dX6_next_30 (by decide) (fun c30 => ?_) (fun c30 => ?_)
            · refine gg_iload_n dX6_next_42 rfl rfl ?_
              refine gg_istore_n dX6_next_43 rfl (Nat.le_of_ble_eq_true rfl) rfl ?_
              refine gg_iinc (w := nI (g + 1)) dX6_next_44 rfl (nI_1 g) (Nat.le_of_ble_eq_true rfl) rfl ?_
              refine gg_goto (tgt := 8) dX6_next_47 (by decide) ?_
              have h9 := ih (g + 1) (by omega)
              rw [e] at h9
              exact h9
            · exact absurd rfl c30
      | some b =>
        have hb := hok b hn
        have ab := hAT b (by omega) hb.2
        have e0 : nxF s A (g + 1) = if ahB s A g b then some g else some b := by
          show nxS s A g (nxF s A g) = _
          unfold nxS
          rw [if_neg cA, hn]
        refine gg_iload_n dX6_next_8 rfl rfl ?_
        refine gg_aload_n dX6_next_9 rfl rfl ?_
        refine gf_X6_93 rfl dX6_next_10 hD.1 rfl ?_
        refine gg_icmp_ge (tgt := 50) dX6_next_13 (by decide) (fun c13 => ?_) (fun c13 => ?_)
        · exact absurd (n_le c13) (by omega)
        · refine gg_aload_n dX6_next_16 rfl rfl ?_
          refine gf_X6_45 rfl dX6_next_17 hD.1 rfl ?_
          refine gg_iload_n dX6_next_20 rfl rfl ?_
          refine gg_callV (sp_X1_teacherFor hp hA (show g < 10 by omega)) dX6_next_21 kw_X6_131 rfl hp.1 rfl rfl (Nat.le_of_ble_eq_true rfl) (Nat.le_of_ble_eq_true rfl) (Nat.le_of_ble_eq_true rfl) ⟨(Nat.le_of_ble_eq_true rfl), (Nat.le_of_ble_eq_true rfl)⟩ (fun r S1 hq => ?_)
          refine gg_k (k2 := (0, 0)) rfl ?_
          obtain ⟨e9, rfl⟩ := hq
          rw [e9, et]
          clear e9 S1
          refine gg_iconst (v := -1) dX6_next_24 (by decide) ?_
          refine gg_icmp_eq (tgt := 44) dX6_next_25 (by decide) (fun c25 => ?_) (fun c25 => ?_)
          · exact absurd c25 (nI_m1 (by omega))
          · refine gg_iload_n dX6_next_28 rfl rfl ?_
            refine gg_iconst (v := -1) dX6_next_29 (by decide) ?_
            refine gg_icmp_eq (tgt := 42) dX6_next_30 (by decide) (fun c30 => ?_) (fun c30 => ?_)
            · exact absurd c30 (nI_m1 (by omega))
            · refine gg_aload_n dX6_next_33 rfl rfl ?_
              refine gg_iload_n dX6_next_34 rfl rfl ?_
              refine gg_iload_n dX6_next_35 rfl rfl ?_
              refine gg_callV (sp_X6_isCalledAhead h0 hW hr hg (show b < zG s by omega) ag ab) dX6_next_36 kw_X6_134 rfl hD.1 rfl rfl (Nat.le_of_ble_eq_true rfl) (Nat.le_of_ble_eq_true rfl) (Nat.le_of_ble_eq_true rfl) ⟨(Nat.le_of_ble_eq_true rfl), (Nat.le_of_ble_eq_true rfl)⟩ (fun r S1 hq => ?_)
              refine gg_k (k2 := (0, 0)) rfl ?_
              obtain ⟨e9, rfl⟩ := hq
              rw [e9]
              clear e9 S1
              refine gg_if_eq (tgt := 44) dX6_next_39 (by decide) (fun c39 => ?_) (fun c39 => ?_)
              · have e : nxF s A (g + 1) = some b := by rw [e0, bI_z c39]; rfl
                refine gg_iinc (w := nI (g + 1)) dX6_next_44 rfl (nI_1 g) (Nat.le_of_ble_eq_true rfl) rfl ?_
                refine gg_goto (tgt := 8) dX6_next_47 (by decide) ?_
                have h9 := ih (g + 1) (by omega)
                rw [e] at h9
                exact h9
              · have e : nxF s A (g + 1) = some g := by rw [e0, bI_nz c39]; rfl
                refine gg_iload_n dX6_next_42 rfl rfl ?_
                refine gg_istore_n dX6_next_43 rfl (Nat.le_of_ble_eq_true rfl) rfl ?_
                refine gg_iinc (w := nI (g + 1)) dX6_next_44 rfl (nI_1 g) (Nat.le_of_ble_eq_true rfl) rfl ?_
                refine gg_goto (tgt := 8) dX6_next_47 (by decide) ?_
                have h9 := ih (g + 1) (by omega)
                rw [e] at h9
                exact h9
theorem sp_X6_next {S : gl_H} {s : DS} (h : DP S s) (hW : DW s) (hAT : ∀ A o, Mtd s A o → ∀ g, g < zG s → A g ≠ 12 → A g < zT s) : Sp mX6_next yX6_next [.ref 0] S (fun r S1 => ∃ A o, Mtd s A o ∧ r = some (.int (neA s A)) ∧ DP S1 s ∧ FrD S S1) := by
  refine gl_enter (j := 2) (by decide +kernel) rfl (fun h => absurd h (by decide)) (Nat.le_of_ble_eq_true rfl) rfl (fun x => ?_)
  have h0 := h
  obtain ⟨⟨gp, hD⟩, hT, ⟨num, dr, pl, hnum, hB⟩, hVx, hMx⟩ := h
  have htc := hW.1
  have hgc := hW.2.1
  refine gg_aload_n dX6_next_0 rfl rfl ?_
  refine gg_callV (sp_findM h0 hW) dX6_next_1 kw_X6_117 rfl hD.1 rfl rfl (Nat.le_of_ble_eq_true rfl) (Nat.le_of_ble_eq_true rfl) (Nat.le_of_ble_eq_true rfl) ⟨(Nat.le_of_ble_eq_true rfl), (Nat.le_of_ble_eq_true rfl)⟩ (fun r S1 hq => ?_)
  refine gg_k (k2 := (0, 0)) rfl ?_
  obtain ⟨rfl, A, o, hMt, hr, h1, hf⟩ := hq
  obtain ⟨⟨gp1, hD⟩, hT, ⟨num, dr, pl, hnum, hB⟩, hVx, -⟩ := id h1
  obtain ⟨hA, tk, tl, par, hp, hpar⟩ := id hr
  refine gg_iconst (v := -1) dX6_next_4 (by decide) ?_
  refine gg_istore_n dX6_next_5 rfl (Nat.le_of_ble_eq_true rfl) rfl ?_
  refine gg_iconst (v := 0) dX6_next_6 (by decide) ?_
  refine gg_istore_n dX6_next_7 rfl (Nat.le_of_ble_eq_true rfl) rfl ?_
  exact nx_loop h1 hW hMt hr (hAT A o hMt) (hf.D (by decide)) x (zG s) 0 (by omega)
def gpA (A : Nat → Nat) (t : Nat) : Option Nat := ffst (fun i => !(A i == 12) && A i == t) 0 10
def anN (s : DS) (A : Nat → Nat) (t a : Int32) : Option DS := match tix (zT s) t, tix 3 a with
  | some i, some k => match gpA A i with
    | some g => some (setTe s (up2 (zf s) i (taF (zf s i) k (nI g) (zr s 6))) (zm s) (zp s))
    | none => none
  | _, _ => none
theorem sp_X6_answer {S : gl_H} {s : DS} (h : DP S s) (hW : DW s) (t9 a9 : Int32) : Sp mX6_answer yX6_answer [.ref 0, .int t9, .int a9] S (fun r S1 => ∃ A o, ((tix (zT s) t9 = none ∨ tix 3 a9 = none) ∨ Mtd s A o) ∧ r = some (.int (opA (anN s A t9 a9))) ∧ DP S1 ((anN s A t9 a9).getD s) ∧ FrD S S1) := by
  refine gl_enter (j := 2) (by decide +kernel) rfl (fun h => absurd h (by decide)) (Nat.le_of_ble_eq_true rfl) rfl (fun x => ?_)
  have h0 := h
  obtain ⟨⟨gp, hD⟩, hT, ⟨num, dr, pl, hnum, hB⟩, hVx, hMx⟩ := h
  have htc := hW.1
  have hgc := hW.2.1
  rcases tix_cases (n := zT s) (by omega) t9 with ⟨e1, e2⟩ | ⟨t, ht, rfl, e1⟩
  · have en : anN s (fun _ => 0) t9 a9 = none := by unfold anN; rw [e1]
    refine gg_aload_n dX6_answer_0 rfl rfl ?_
    refine gg_iload_n dX6_answer_1 rfl rfl ?_
    refine gg_callV (sp_X6_teacherAt_n hD e2) dX6_answer_2 kw_X6_75 rfl hD.1 rfl rfl (Nat.le_of_ble_eq_true rfl) (Nat.le_of_ble_eq_true rfl) (Nat.le_of_ble_eq_true rfl) ⟨(Nat.le_of_ble_eq_true rfl), (Nat.le_of_ble_eq_true rfl)⟩ (fun r S1 hq => ?_)
    refine gg_k (k2 := (0, 0)) rfl ?_
    obtain ⟨e9, rfl⟩ := hq
    rw [e9]
    clear e9 S1
    refine gg_astore_nN dX6_answer_5 rfl (Nat.le_of_ble_eq_true rfl) rfl ?_
    refine gg_aload_nN dX6_answer_6 rfl rfl ?_
    refine gg_ifnullN (tgt := 19) dX6_answer_7 (by decide) ?_
    refine gg_iconst (v := 0) dX6_answer_19 (by decide) ?_
    exact gg_ireturn dX6_answer_20 rfl rfl ⟨(Nat.le_of_ble_eq_true rfl), (Nat.le_of_ble_eq_true rfl)⟩ (⟨fun _ => 0, (0, fun _ _ => 0, fun _ => 0), Or.inl (Or.inl e1), by rw [en]; rfl, by rw [en]; exact h0, FrD.rf⟩)
  · rcases tix_cases (n := 3) (by decide) a9 with ⟨e3, e4⟩ | ⟨k, hk, rfl, e3⟩
    · have e4 : ¬ (0 ≤ a9 ∧ a9 ≤ 2) := e4
      have en : anN s (fun _ => 0) (nI t) a9 = none := by unfold anN; rw [e1, e3]
      refine gg_aload_n dX6_answer_0 rfl rfl ?_
      refine gg_iload_n dX6_answer_1 rfl rfl ?_
      refine gg_callV (sp_X6_teacherAt_y hD hW.1 ht) dX6_answer_2 kw_X6_75 rfl hD.1 rfl rfl (Nat.le_of_ble_eq_true rfl) (Nat.le_of_ble_eq_true rfl) (Nat.le_of_ble_eq_true rfl) ⟨(Nat.le_of_ble_eq_true rfl), (Nat.le_of_ble_eq_true rfl)⟩ (fun r S1 hq => ?_)
      refine gg_k (k2 := (0, 0)) rfl ?_
      obtain ⟨e9, rfl⟩ := hq
      rw [e9]
      clear e9 S1
      refine gg_astore_n dX6_answer_5 rfl (Nat.le_of_ble_eq_true rfl) rfl ?_
      refine gg_aload_n dX6_answer_6 rfl rfl ?_
      refine gg_ifnull dX6_answer_7 ?_
      refine gg_iload_n dX6_answer_10 rfl rfl ?_
      refine gg_iconst (v := 0) dX6_answer_11 (by decide) ?_
      refine gg_iconst (v := 2) dX6_answer_12 (by decide) ?_
      refine gg_callS (sp_X6_within S a9 0 2) dX6_answer_13 kw_X6_61 rfl rfl (Nat.le_of_ble_eq_true rfl) (Nat.le_of_ble_eq_true rfl) (Nat.le_of_ble_eq_true rfl) ⟨(Nat.le_of_ble_eq_true rfl), (Nat.le_of_ble_eq_true rfl)⟩ (fun r S1 hq => ?_)
      refine gg_k (k2 := (0, 0)) rfl ?_
      obtain ⟨e9, rfl⟩ := hq
      rw [e9, if_neg e4]
      clear e9 S1
      refine gg_if_ne (tgt := 21) dX6_answer_16 (by decide) (fun c16 => ?_) (fun c16 => ?_)
      · exact absurd rfl c16
      · refine gg_iconst (v := 0) dX6_answer_19 (by decide) ?_
        exact gg_ireturn dX6_answer_20 rfl rfl ⟨(Nat.le_of_ble_eq_true rfl), (Nat.le_of_ble_eq_true rfl)⟩ (⟨fun _ => 0, (0, fun _ _ => 0, fun _ => 0), Or.inl (Or.inr e3), by rw [en]; rfl, by rw [en]; exact h0, FrD.rf⟩)
    · have e4 : (0 : Int32) ≤ nI k ∧ nI k ≤ 2 := tix_in (n := 3) (by decide) hk
      refine gg_aload_n dX6_answer_0 rfl rfl ?_
      refine gg_iload_n dX6_answer_1 rfl rfl ?_
      refine gg_callV (sp_X6_teacherAt_y hD hW.1 ht) dX6_answer_2 kw_X6_75 rfl hD.1 rfl rfl (Nat.le_of_ble_eq_true rfl) (Nat.le_of_ble_eq_true rfl) (Nat.le_of_ble_eq_true rfl) ⟨(Nat.le_of_ble_eq_true rfl), (Nat.le_of_ble_eq_true rfl)⟩ (fun r S1 hq => ?_)
      refine gg_k (k2 := (0, 0)) rfl ?_
      obtain ⟨e9, rfl⟩ := hq
      rw [e9]
      clear e9 S1
      refine gg_astore_n dX6_answer_5 rfl (Nat.le_of_ble_eq_true rfl) rfl ?_
      refine gg_aload_n dX6_answer_6 rfl rfl ?_
      refine gg_ifnull dX6_answer_7 ?_
      refine gg_iload_n dX6_answer_10 rfl rfl ?_
      refine gg_iconst (v := 0) dX6_answer_11 (by decide) ?_
      refine gg_iconst (v := 2) dX6_answer_12 (by decide) ?_
      refine gg_callS (sp_X6_within S (nI k) 0 2) dX6_answer_13 kw_X6_61 rfl rfl (Nat.le_of_ble_eq_true rfl) (Nat.le_of_ble_eq_true rfl) (Nat.le_of_ble_eq_true rfl) ⟨(Nat.le_of_ble_eq_true rfl), (Nat.le_of_ble_eq_true rfl)⟩ (fun r S1 hq => ?_)
      refine gg_k (k2 := (0, 0)) rfl ?_
      obtain ⟨e9, rfl⟩ := hq
      rw [e9, if_pos e4]
      clear e9 S1
      refine gg_if_ne (tgt := 21) dX6_answer_16 (by decide) (fun c16 => ?_) (fun c16 => ?_)
      · refine gg_aload_n dX6_answer_21 rfl rfl ?_
        refine gg_callV (sp_findM h0 hW) dX6_answer_22 kw_X6_117 rfl hD.1 rfl rfl (Nat.le_of_ble_eq_true rfl) (Nat.le_of_ble_eq_true rfl) (Nat.le_of_ble_eq_true rfl) ⟨(Nat.le_of_ble_eq_true rfl), (Nat.le_of_ble_eq_true rfl)⟩ (fun r S1 hq => ?_)
        refine gg_k (k2 := (0, 0)) rfl ?_
        obtain ⟨rfl, A, o, hMt, hr, h1, hf⟩ := hq
        obtain ⟨⟨gp1, hD⟩, hT, ⟨num, dr, pl, hnum, hB⟩, hVx, -⟩ := id h1
        obtain ⟨hA, tk, tl, par, hp, hpar⟩ := id hr
        cases hgp : gpA A t with
        | none =>
          have en : anN s A (nI t) (nI k) = none := by unfold anN; rw [e1, e3]; dsimp only; rw [hgp]
          refine gg_k (k2 := (0, 0)) rfl ?_
          refine gg_aload_n dX6_answer_25 rfl rfl ?_
          refine gf_X6_45 rfl dX6_answer_26 hD.1 rfl ?_
          refine gg_iload_n dX6_answer_29 rfl rfl ?_
          refine gg_callV (sp_X1_gapFor hp hA (show t < 12 by omega)) dX6_answer_30 kw_X6_138 rfl hp.1 rfl rfl (Nat.le_of_ble_eq_true rfl) (Nat.le_of_ble_eq_true rfl) (Nat.le_of_ble_eq_true rfl) ⟨(Nat.le_of_ble_eq_true rfl), (Nat.le_of_ble_eq_true rfl)⟩ (fun r S2 hq => ?_)
          refine gg_k (k2 := (0, 0)) rfl ?_
          obtain ⟨e9, rfl⟩ := hq
          rw [e9, show ffst (fun i => !(A i == 12) && A i == t) 0 10 = _ from hgp]
          clear e9 S2
          refine gg_istore dX6_answer_33 (Nat.le_of_ble_eq_true rfl) rfl ?_
          refine gg_iload dX6_answer_35 rfl ?_
          refine gg_iconst (v := -1) dX6_answer_37 (by decide) ?_
          refine gg_icmp_ne (tgt := 43) dX6_answer_38 (by decide) (fun c38 => ?_) (fun c38 => ?_)
          · exact absurd rfl c38
          · refine gg_iconst (v := 0) dX6_answer_41 (by decide) ?_
            exact gg_ireturn dX6_answer_42 rfl rfl ⟨(Nat.le_of_ble_eq_true rfl), (Nat.le_of_ble_eq_true rfl)⟩ (⟨A, o, Or.inr hMt, by rw [en]; rfl, by rw [en]; exact h1, hf.D (by decide)⟩)
        | some g =>
          have hg9 : g < 10 := by have := (ffst_lt hgp).2.1; omega
          have en : anN s A (nI t) (nI k) = some (setTe s (up2 (zf s) t (taF (zf s t) k (nI g) (zr s 6))) (zm s) (zp s)) := by unfold anN; rw [e1, e3]; dsimp only; rw [hgp]
          refine gg_k (k2 := (0, 0)) rfl ?_
          refine gg_aload_n dX6_answer_25 rfl rfl ?_
          refine gf_X6_45 rfl dX6_answer_26 hD.1 rfl ?_
          refine gg_iload_n dX6_answer_29 rfl rfl ?_
          refine gg_callV (sp_X1_gapFor hp hA (show t < 12 by omega)) dX6_answer_30 kw_X6_138 rfl hp.1 rfl rfl (Nat.le_of_ble_eq_true rfl) (Nat.le_of_ble_eq_true rfl) (Nat.le_of_ble_eq_true rfl) ⟨(Nat.le_of_ble_eq_true rfl), (Nat.le_of_ble_eq_true rfl)⟩ (fun r S2 hq => ?_)
          refine gg_k (k2 := (0, 0)) rfl ?_
          obtain ⟨e9, rfl⟩ := hq
          rw [e9, show ffst (fun i => !(A i == 12) && A i == t) 0 10 = _ from hgp]
          clear e9 S2
          refine gg_istore dX6_answer_33 (Nat.le_of_ble_eq_true rfl) rfl ?_
          refine gg_iload dX6_answer_35 rfl ?_
          refine gg_iconst (v := -1) dX6_answer_37 (by decide) ?_
          refine gg_icmp_ne (tgt := 43) dX6_answer_38 (by decide) (fun c38 => ?_) (fun c38 => ?_)
          · refine gg_aload_n dX6_answer_43 rfl rfl ?_
            refine gg_iload_n dX6_answer_44 rfl rfl ?_
            refine gg_iload dX6_answer_45 rfl ?_
            refine gg_aload_n dX6_answer_47 rfl rfl ?_
            refine gf_X6_19 rfl dX6_answer_48 hD.1 rfl ?_
            refine gg_bipush (v := 6) dX6_answer_51 (by decide) ?_
            refine gg_callV (sp_X2_number (k := 6) hB (by decide)) dX6_answer_53 kw_X6_141 rfl hB.1 rfl rfl (Nat.le_of_ble_eq_true rfl) (Nat.le_of_ble_eq_true rfl) (Nat.le_of_ble_eq_true rfl) ⟨(Nat.le_of_ble_eq_true rfl), (Nat.le_of_ble_eq_true rfl)⟩ (fun r S2 hq => ?_)
            refine gg_k (k2 := (0, 0)) rfl ?_
            obtain ⟨e9, rfl⟩ := hq
            rw [e9, hnum 6 (by decide)]
            clear e9 S2
            refine gg_callV (sp_X4_takeAnswer (hD.2.2.2.1 t ht) (show k ≤ 2 by omega) _ _) dX6_answer_56 kw_X6_144 rfl (hD.2.2.2.1 t ht).1 rfl rfl (Nat.le_of_ble_eq_true rfl) (Nat.le_of_ble_eq_true rfl) (Nat.le_of_ble_eq_true rfl) ⟨(Nat.le_of_ble_eq_true rfl), (Nat.le_of_ble_eq_true rfl)⟩ (fun r S2 hq => ?_)
            refine gg_k (k2 := (0, 0)) rfl ?_
            obtain ⟨rfl, hE, hf2⟩ := hq
            have hN := h1.te hW ht hf2 hE
            rw [up2_id, up2_id] at hN
            refine gg_iconst (v := 1) dX6_answer_59 (by decide) ?_
            exact gg_ireturn dX6_answer_60 rfl rfl ⟨(Nat.le_of_ble_eq_true rfl), (Nat.le_of_ble_eq_true rfl)⟩ (⟨A, o, Or.inr hMt, by rw [en]; rfl, by rw [en]; exact hN, (hf.D (by decide)).tr (hf2.D (by omega))⟩)
          · exact absurd c38 (nI_m1 (by omega))
      · exact absurd c16 (by decide)
theorem sp_X6_hall {S : gl_H} {s : DS} (h : DP S s) (hW : DW s) (hO : ∀ o, Mto s o → ∃ o9, o9 < 1024 ∧ o.1 = nI o9) : Sp mX6_hall yX6_hall [.ref 0] S (fun r S1 => ∃ o, Mto s o ∧ (∃ o9, o9 < 1024 ∧ o.1 = nI o9 ∧ r = some (.int (nI (fuF o.2.2 (nI o9) o9).1))) ∧ DP S1 s ∧ FrD S S1) := by
  refine gl_enter (j := 0) (by decide +kernel) rfl (fun h => absurd h (by decide)) (Nat.le_of_ble_eq_true rfl) rfl (fun x => ?_)
  have h0 := h
  obtain ⟨⟨gp, hD⟩, hT, ⟨num, dr, pl, hnum, hB⟩, hVx, hMx⟩ := h
  have htc := hW.1
  have hgc := hW.2.1
  obtain ⟨og, tk, w, tks, a, tl, par, hp, hA, hpar⟩ := hMx
  refine gg_aload_n dX6_hall_0 rfl rfl ?_
  refine gg_callV (sp_X6_offerAll hD htc hgc hW.2.2.2.1 hB hp) dX6_hall_1 kw_X6_147 rfl hD.1 rfl rfl (Nat.le_of_ble_eq_true rfl) (Nat.le_of_ble_eq_true rfl) (Nat.le_of_ble_eq_true rfl) ⟨(Nat.le_of_ble_eq_true rfl), (Nat.le_of_ble_eq_true rfl)⟩ (fun r S1 hq => ?_)
  refine gg_k (k2 := (0, 0)) rfl ?_
  obtain ⟨rfl, hp, hf⟩ := hq
  have hMo : Mto s (mtO (zT s) (zG s) (zD s) (zf s) (zm s) (zg s) num w tks) := ⟨num, w, tks, hnum, rfl⟩
  obtain ⟨o9, ho, eo⟩ := hO _ hMo
  have h1 : DP S1 s := h0.pm hW hf ⟨_, _, _, _, fillN a 10 12, tl, par, hp, (mt_ok (tl := tl) hA hpar).1, hpar⟩
  obtain ⟨⟨gp1, hD⟩, -⟩ := id h1
  have eo2 : (oaF (zT s) (zD s) (zf s) (zm s) (zg s) num (zG s) (0, clW w 10, fillN tks 10 0)).1 = nI o9 := eo
  rw [eo2] at hp
  refine gg_aload_n dX6_hall_4 rfl rfl ?_
  refine gf_X6_45 rfl dX6_hall_5 hD.1 rfl ?_
  refine gg_callV (sp_X1_fewestUnfillable hp ho) dX6_hall_8 kw_X6_150 rfl hp.1 rfl rfl (Nat.le_of_ble_eq_true rfl) (Nat.le_of_ble_eq_true rfl) (Nat.le_of_ble_eq_true rfl) ⟨(Nat.le_of_ble_eq_true rfl), (Nat.le_of_ble_eq_true rfl)⟩ (fun r S2 hq => ?_)
  refine gg_k (k2 := (0, 0)) rfl ?_
  obtain ⟨e9, rfl⟩ := hq
  rw [e9]
  clear e9 S2
  exact gg_ireturn dX6_hall_11 rfl rfl ⟨(Nat.le_of_ble_eq_true rfl), (Nat.le_of_ble_eq_true rfl)⟩ (⟨_, hMo, ⟨o9, ho, eo, rfl⟩, h1, hf.D (by decide)⟩)
