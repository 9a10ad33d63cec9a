/-! A TEACHER (P, P + 1), A GAP (q), THE VISITS (8 .. 11) -/
def PE (S : gl_H) (P : Nat) (f mn : Nat → Int32) (pd : Int64) : Prop := S P = some (.inr (4, [.int (f 0), .int (f 1), .int (f 2), .ref (P + 1), .int (f 3), .int (f 4), .int (f 5), .int (f 6), .int (f 7), .int (f 8), .long pd])) ∧ S (P + 1) = some (.inl (0, 6, .inl mn))
def PG (S : gl_H) (q : Nat) (h : Nat → Int32) : Prop := S q = some (.inr (0, [.int (h 0), .int (h 1), .int (h 2), .int (h 3), .int (h 4)]))
def PV (S : gl_H) (v r d : Nat → Int32) (nx kp : Nat) : Prop := S 8 = some (.inr (5, [.ref 9, .ref 10, .ref 11, .int (nI nx), .int (nI kp)])) ∧ S 9 = some (.inl (2, 400, .inl v)) ∧ S 10 = some (.inl (2, 400, .inl r)) ∧ S 11 = some (.inl (3, 400, .inl d))
section PES
variable {M : gl_M} {x : gl_X} {Z : State → Prop} {pc : Nat} {ls : List (Option Value)} {st : List Value} {S S0 : gl_H} {k : Nat × Nat} {f mn v r d : Nat → Int32} {pd : Int64} {P nx kp : Nat}
theorem PEs_3 {w : Int32} (h : PE S P f mn pd) (hf : Fr P (P + 2) S0 S) (K : ∀ S1, PE S1 P (upd f 3 w) mn pd → Fr P (P + 2) S0 S1 → GG M x Z pc ls st S1 k) : GG M x Z pc ls st (gl_pu S P (.inr (4, [.int (f 0), .int (f 1), .int (f 2), .ref (P + 1), .int w, .int (f 4), .int (f 5), .int (f 6), .int (f 7), .int (f 8), .long pd]))) k := K _ ⟨gl_pu_s S _ _, (gl_pu_n S _ (by omega)).trans h.2⟩ (hf.pu (by omega) (by omega))
theorem PEs_4 {w : Int32} (h : PE S P f mn pd) (hf : Fr P (P + 2) S0 S) (K : ∀ S1, PE S1 P (upd f 4 w) mn pd → Fr P (P + 2) S0 S1 → GG M x Z pc ls st S1 k) : GG M x Z pc ls st (gl_pu S P (.inr (4, [.int (f 0), .int (f 1), .int (f 2), .ref (P + 1), .int (f 3), .int w, .int (f 5), .int (f 6), .int (f 7), .int (f 8), .long pd]))) k := K _ ⟨gl_pu_s S _ _, (gl_pu_n S _ (by omega)).trans h.2⟩ (hf.pu (by omega) (by omega))
theorem PEs_5 {w : Int32} (h : PE S P f mn pd) (hf : Fr P (P + 2) S0 S) (K : ∀ S1, PE S1 P (upd f 5 w) mn pd → Fr P (P + 2) S0 S1 → GG M x Z pc ls st S1 k) : GG M x Z pc ls st (gl_pu S P (.inr (4, [.int (f 0), .int (f 1), .int (f 2), .ref (P + 1), .int (f 3), .int (f 4), .int w, .int (f 6), .int (f 7), .int (f 8), .long pd]))) k := K _ ⟨gl_pu_s S _ _, (gl_pu_n S _ (by omega)).trans h.2⟩ (hf.pu (by omega) (by omega))
theorem PEs_6 {w : Int32} (h : PE S P f mn pd) (hf : Fr P (P + 2) S0 S) (K : ∀ S1, PE S1 P (upd f 6 w) mn pd → Fr P (P + 2) S0 S1 → GG M x Z pc ls st S1 k) : GG M x Z pc ls st (gl_pu S P (.inr (4, [.int (f 0), .int (f 1), .int (f 2), .ref (P + 1), .int (f 3), .int (f 4), .int (f 5), .int w, .int (f 7), .int (f 8), .long pd]))) k := K _ ⟨gl_pu_s S _ _, (gl_pu_n S _ (by omega)).trans h.2⟩ (hf.pu (by omega) (by omega))
theorem PEs_7 {w : Int32} (h : PE S P f mn pd) (hf : Fr P (P + 2) S0 S) (K : ∀ S1, PE S1 P (upd f 7 w) mn pd → Fr P (P + 2) S0 S1 → GG M x Z pc ls st S1 k) : GG M x Z pc ls st (gl_pu S P (.inr (4, [.int (f 0), .int (f 1), .int (f 2), .ref (P + 1), .int (f 3), .int (f 4), .int (f 5), .int (f 6), .int w, .int (f 8), .long pd]))) k := K _ ⟨gl_pu_s S _ _, (gl_pu_n S _ (by omega)).trans h.2⟩ (hf.pu (by omega) (by omega))
theorem PEs_8 {w : Int32} (h : PE S P f mn pd) (hf : Fr P (P + 2) S0 S) (K : ∀ S1, PE S1 P (upd f 8 w) mn pd → Fr P (P + 2) S0 S1 → GG M x Z pc ls st S1 k) : GG M x Z pc ls st (gl_pu S P (.inr (4, [.int (f 0), .int (f 1), .int (f 2), .ref (P + 1), .int (f 3), .int (f 4), .int (f 5), .int (f 6), .int (f 7), .int w, .long pd]))) k := K _ ⟨gl_pu_s S _ _, (gl_pu_n S _ (by omega)).trans h.2⟩ (hf.pu (by omega) (by omega))
theorem PEs_pd {w : Int64} (h : PE S P f mn pd) (hf : Fr P (P + 2) S0 S) (K : ∀ S1, PE S1 P f mn w → Fr P (P + 2) S0 S1 → GG M x Z pc ls st S1 k) : GG M x Z pc ls st (gl_pu S P (.inr (4, [.int (f 0), .int (f 1), .int (f 2), .ref (P + 1), .int (f 3), .int (f 4), .int (f 5), .int (f 6), .int (f 7), .int (f 8), .long w]))) k := K _ ⟨gl_pu_s S _ _, (gl_pu_n S _ (by omega)).trans h.2⟩ (hf.pu (by omega) (by omega))
theorem PEs_mn {w : Nat → Int32} (h : PE S P f mn pd) (hf : Fr P (P + 2) S0 S) (K : ∀ S1, PE S1 P f w pd → Fr P (P + 2) S0 S1 → GG M x Z pc ls st S1 k) : GG M x Z pc ls st (gl_pu S (P + 1) (.inl (0, 6, .inl w))) k := K _ ⟨(gl_pu_n S _ (by omega)).trans h.1, gl_pu_s S _ _⟩ (hf.pu (by omega) (by omega))
theorem PVs_nx {w : Int32} (m : Nat) (hw : w = nI m) (h : PV S v r d nx kp) (hf : Fr 8 12 S0 S) (K : ∀ S1, PV S1 v r d m kp → Fr 8 12 S0 S1 → GG M x Z pc ls st S1 k) : GG M x Z pc ls st (gl_pu S 8 (.inr (5, [.ref 9, .ref 10, .ref 11, .int w, .int (nI kp)]))) k := by subst hw; exact K _ ⟨gl_pu_s S _ _, (gl_pu_n S _ (by decide)).trans h.2.1, (gl_pu_n S _ (by decide)).trans h.2.2.1, (gl_pu_n S _ (by decide)).trans h.2.2.2⟩ (hf.pu (by decide) (by decide))
theorem PVs_kp {w : Int32} (m : Nat) (hw : w = nI m) (h : PV S v r d nx kp) (hf : Fr 8 12 S0 S) (K : ∀ S1, PV S1 v r d nx m → Fr 8 12 S0 S1 → GG M x Z pc ls st S1 k) : GG M x Z pc ls st (gl_pu S 8 (.inr (5, [.ref 9, .ref 10, .ref 11, .int (nI nx), .int w]))) k := by subst hw; exact K _ ⟨gl_pu_s S _ _, (gl_pu_n S _ (by decide)).trans h.2.1, (gl_pu_n S _ (by decide)).trans h.2.2.1, (gl_pu_n S _ (by decide)).trans h.2.2.2⟩ (hf.pu (by decide) (by decide))
theorem PVs_v {w : Nat → Int32} (h : PV S v r d nx kp) (hf : Fr 8 12 S0 S) (K : ∀ S1, PV S1 w r d nx kp → Fr 8 12 S0 S1 → GG M x Z pc ls st S1 k) : GG M x Z pc ls st (gl_pu S 9 (.inl (2, 400, .inl w))) k := by exact K _ ⟨(gl_pu_n S _ (by decide)).trans h.1, gl_pu_s S _ _, (gl_pu_n S _ (by decide)).trans h.2.2.1, (gl_pu_n S _ (by decide)).trans h.2.2.2⟩ (hf.pu (by decide) (by decide))
theorem PVs_r {w : Nat → Int32} (h : PV S v r d nx kp) (hf : Fr 8 12 S0 S) (K : ∀ S1, PV S1 v w d nx kp → Fr 8 12 S0 S1 → GG M x Z pc ls st S1 k) : GG M x Z pc ls st (gl_pu S 10 (.inl (2, 400, .inl w))) k := by exact K _ ⟨(gl_pu_n S _ (by decide)).trans h.1, (gl_pu_n S _ (by decide)).trans h.2.1, gl_pu_s S _ _, (gl_pu_n S _ (by decide)).trans h.2.2.2⟩ (hf.pu (by decide) (by decide))
theorem PVs_d {w : Nat → Int32} (h : PV S v r d nx kp) (hf : Fr 8 12 S0 S) (K : ∀ S1, PV S1 v r w nx kp → Fr 8 12 S0 S1 → GG M x Z pc ls st S1 k) : GG M x Z pc ls st (gl_pu S 11 (.inl (3, 400, .inl w))) k := by exact K _ ⟨(gl_pu_n S _ (by decide)).trans h.1, (gl_pu_n S _ (by decide)).trans h.2.1, (gl_pu_n S _ (by decide)).trans h.2.2.1, gl_pu_s S _ _⟩ (hf.pu (by decide) (by decide))
end PES
theorem sp_X4_minutesTo {S : gl_H} {P : Nat} {f mn : Nat → Int32} {pd : Int64} (hE : PE S P f mn pd) {k : Nat} (hk : k < 6) : Sp mX4_minutesTo yX4_minutesTo [.ref P, .int (nI k)] S (fun r S1 => S1 = S ∧ r = some (.int (mn k))) := by
  refine gl_enter (j := 0) (by decide +kernel) rfl (fun h => absurd h (by decide)) (Nat.le_of_ble_eq_true rfl) rfl (fun x => ?_)
  refine gg_iload_n dX4_minutesTo_0 rfl rfl ?_
  refine gg_if_lt (tgt := 19) dX4_minutesTo_1 (by decide) (fun c1 => ?_) (fun c1 => ?_)
  · exact absurd c1 (nI_pos (by omega))
  · refine gg_iload_n dX4_minutesTo_4 rfl rfl ?_
    refine gg_bipush (v := 6) dX4_minutesTo_5 (by decide) ?_
    refine gg_icmp_ge (tgt := 19) dX4_minutesTo_7 (by decide) (fun c7 => ?_) (fun c7 => ?_)
    · exact absurd (n_le (a := 6) c7) (by omega)
    · refine gg_aload_n dX4_minutesTo_10 rfl rfl ?_
      refine gf_X4_9 rfl dX4_minutesTo_11 hE.1 rfl ?_
      refine gg_iload_n dX4_minutesTo_14 rfl rfl ?_
      refine gg_ald_i (k) dX4_minutesTo_15 hE.2 rfl hk (by decide) ?_
      refine gg_goto (tgt := 20) dX4_minutesTo_16 (by decide) ?_
      exact gg_ireturn dX4_minutesTo_20 rfl rfl ⟨(Nat.le_of_ble_eq_true rfl), (Nat.le_of_ble_eq_true rfl)⟩ (⟨rfl, rfl⟩)
def flB (f mn h num : Nat → Int32) (sc day : Nat) : Bool := hb_ (f 1) (h 3) && (!hb_ (f 4) (h 0) && (decide (mn sc ≤ num 0) && decide (nI day ≤ f 2)))
theorem sp_X4_fills {S : gl_H} {P : Nat} {f mn : Nat → Int32} {pd : Int64} {h num dr : Nat → Int32} {q pl sc : Nat} (hE : PE S P f mn pd) (hG : PG S q h) (hB : PB S num dr pl) (hs : h 0 = nI sc) (hsc : sc < 6) (day : Nat) : Sp mX4_fills yX4_fills [.ref P, .ref q, .ref 5, .int (nI day)] S (fun r S1 => S1 = S ∧ r = some (.int (bI (flB f mn h num sc day)))) := by
  refine gl_enter (j := 0) (by decide +kernel) rfl (fun h => absurd h (by decide)) (Nat.le_of_ble_eq_true rfl) rfl (fun x => ?_)
  refine gg_aload_n dX4_fills_0 rfl rfl ?_
  refine gf_X4_19 rfl dX4_fills_1 hE.1 rfl ?_
  refine gg_aload_n dX4_fills_4 rfl rfl ?_
  refine gf_X4_43 rfl dX4_fills_5 hG rfl ?_
  refine gg_callSN (host := RX6) (sp_X6_hasBit S (f 1) (h 3)) dX4_fills_8 (fun _ _ _ _ h => h.2.2.2.2.2.2.2.2.1) kw_X4_48 rfl rfl (Nat.le_of_ble_eq_true rfl) (Nat.le_of_ble_eq_true rfl) (Nat.le_of_ble_eq_true rfl) ⟨(Nat.le_of_ble_eq_true rfl), (Nat.le_of_ble_eq_true rfl)⟩ (fun r S1 hq => ?_)
  refine gg_k (k2 := (0, 0)) rfl ?_
  obtain ⟨e9, rfl⟩ := hq
  rw [e9]
  clear e9 S1
  refine gg_if_eq (tgt := 56) dX4_fills_11 (by decide) (fun c11 => ?_) (fun c11 => ?_)
  · have e : flB f mn h num sc day = false := by unfold flB; rw [bI_z c11]; rfl
    refine gg_iconst (v := 0) dX4_fills_56 (by decide) ?_
    exact gg_ireturn dX4_fills_57 rfl rfl ⟨(Nat.le_of_ble_eq_true rfl), (Nat.le_of_ble_eq_true rfl)⟩ (⟨rfl, by rw [e]; rfl⟩)
  · have c11 := bI_nz c11
    refine gg_aload_n dX4_fills_14 rfl rfl ?_
    refine gf_X4_52 rfl dX4_fills_15 hE.1 rfl ?_
    refine gg_aload_n dX4_fills_18 rfl rfl ?_
    refine gf_X4_55 rfl dX4_fills_19 hG rfl ?_
    refine gg_callSN (host := RX6) (sp_X6_hasBit S (f 4) (h 0)) dX4_fills_22 (fun _ _ _ _ h => h.2.2.2.2.2.2.2.2.1) kw_X4_48 rfl rfl (Nat.le_of_ble_eq_true rfl) (Nat.le_of_ble_eq_true rfl) (Nat.le_of_ble_eq_true rfl) ⟨(Nat.le_of_ble_eq_true rfl), (Nat.le_of_ble_eq_true rfl)⟩ (fun r S1 hq => ?_)
    refine gg_k (k2 := (0, 0)) rfl ?_
    obtain ⟨e9, rfl⟩ := hq
    rw [e9]
    clear e9 S1
    refine gg_if_ne (tgt := 56) dX4_fills_25 (by decide) (fun c25 => ?_) (fun c25 => ?_)
    · have e : flB f mn h num sc day = false := by unfold flB; rw [c11, bI_nz c25]; rfl
      refine gg_iconst (v := 0) dX4_fills_56 (by decide) ?_
      exact gg_ireturn dX4_fills_57 rfl rfl ⟨(Nat.le_of_ble_eq_true rfl), (Nat.le_of_ble_eq_true rfl)⟩ (⟨rfl, by rw [e]; rfl⟩)
    · have c25 : hb_ (f 4) (h 0) = false := bI_z c25
      refine gg_aload_n dX4_fills_28 rfl rfl ?_
      refine gg_aload_n dX4_fills_29 rfl rfl ?_
      refine gf_X4_55 rfl dX4_fills_30 hG rfl ?_
      rw [hs]
      refine gg_callV (sp_X4_minutesTo hE hsc) dX4_fills_33 kw_X4_58 rfl hE.1 rfl rfl (Nat.le_of_ble_eq_true rfl) (Nat.le_of_ble_eq_true rfl) (Nat.le_of_ble_eq_true rfl) ⟨(Nat.le_of_ble_eq_true rfl), (Nat.le_of_ble_eq_true rfl)⟩ (fun r S1 hq => ?_)
      refine gg_k (k2 := (0, 0)) rfl ?_
      obtain ⟨e9, rfl⟩ := hq
      rw [e9]
      clear e9 S1
      refine gg_aload_n dX4_fills_36 rfl rfl ?_
      refine gg_iconst (v := 0) dX4_fills_37 (by decide) ?_
      refine gg_callV (sp_X2_number (k := 0) hB (by decide)) dX4_fills_38 kw_X4_64 rfl hB.1 rfl rfl (Nat.le_of_ble_eq_true rfl) (Nat.le_of_ble_eq_true rfl) (Nat.le_of_ble_eq_true rfl) ⟨(Nat.le_of_ble_eq_true rfl), (Nat.le_of_ble_eq_true rfl)⟩ (fun r S1 hq => ?_)
      refine gg_k (k2 := (0, 0)) rfl ?_
      obtain ⟨e9, rfl⟩ := hq
      rw [e9]
      clear e9 S1
      refine gg_icmp_gt (tgt := 56) dX4_fills_41 (by decide) (fun c41 => ?_) (fun c41 => ?_)
      · have e : flB f mn h num sc day = false := by unfold flB; rw [c11, c25, decide_eq_false (Int32.not_le.mpr c41)]; rfl
        refine gg_iconst (v := 0) dX4_fills_56 (by decide) ?_
        exact gg_ireturn dX4_fills_57 rfl rfl ⟨(Nat.le_of_ble_eq_true rfl), (Nat.le_of_ble_eq_true rfl)⟩ (⟨rfl, by rw [e]; rfl⟩)
      · have c41 := Int32.not_lt.mp c41
        refine gg_aload_n dX4_fills_44 rfl rfl ?_
        refine gf_X4_22 rfl dX4_fills_45 hE.1 rfl ?_
        refine gg_iload_n dX4_fills_48 rfl rfl ?_
        refine gg_icmp_lt (tgt := 56) dX4_fills_49 (by decide) (fun c49 => ?_) (fun c49 => ?_)
        · have e : flB f mn h num sc day = false := by unfold flB; rw [c11, c25, decide_eq_true c41, decide_eq_false (Int32.not_le.mpr c49)]; rfl
          refine gg_iconst (v := 0) dX4_fills_56 (by decide) ?_
          exact gg_ireturn dX4_fills_57 rfl rfl ⟨(Nat.le_of_ble_eq_true rfl), (Nat.le_of_ble_eq_true rfl)⟩ (⟨rfl, by rw [e]; rfl⟩)
        · have e : flB f mn h num sc day = true := by unfold flB; rw [c11, c25, decide_eq_true c41, decide_eq_true (Int32.not_lt.mp c49)]; rfl
          refine gg_iconst (v := 1) dX4_fills_52 (by decide) ?_
          refine gg_goto (tgt := 57) dX4_fills_53 (by decide) ?_
          exact gg_ireturn dX4_fills_57 rfl rfl ⟨(Nat.le_of_ble_eq_true rfl), (Nat.le_of_ble_eq_true rfl)⟩ (⟨rfl, by rw [e]; rfl⟩)
def csI (f mn h num : Nat → Int32) (sc : Nat) : Int32 := (fun z : Int32 => if z < 0 then 0 else z) ((fun y : Int32 => if hb_ (f 3) (h 0) then y - num 3 else y) ((fun x : Int32 => if hb_ (f 0) (h 2) then x else x + num 1) (mn sc + f 8 * num 2)))
theorem sp_X4_costFor {S : gl_H} {P : Nat} {f mn : Nat → Int32} {pd : Int64} {h num dr : Nat → Int32} {q pl sc : Nat} (hE : PE S P f mn pd) (hG : PG S q h) (hB : PB S num dr pl) (hs : h 0 = nI sc) (hsc : sc < 6) : Sp mX4_costFor yX4_costFor [.ref P, .ref q, .ref 5] S (fun r S1 => S1 = S ∧ r = some (.int (csI f mn h num sc))) := by
  refine gl_enter (j := 1) (by decide +kernel) rfl (fun h => absurd h (by decide)) (Nat.le_of_ble_eq_true rfl) rfl (fun x => ?_)
  have e0 : ∀ y, csI f mn h num sc = y → csI f mn h num sc = y := fun _ z => z
  refine gg_aload_n dX4_costFor_0 rfl rfl ?_
  refine gg_aload_n dX4_costFor_1 rfl rfl ?_
  refine gf_X4_55 rfl dX4_costFor_2 hG rfl ?_
  rw [hs]
  refine gg_callV (sp_X4_minutesTo hE hsc) dX4_costFor_5 kw_X4_58 rfl hE.1 rfl rfl (Nat.le_of_ble_eq_true rfl) (Nat.le_of_ble_eq_true rfl) (Nat.le_of_ble_eq_true rfl) ⟨(Nat.le_of_ble_eq_true rfl), (Nat.le_of_ble_eq_true rfl)⟩ (fun r S1 hq => ?_)
  refine gg_k (k2 := (0, 0)) rfl ?_
  obtain ⟨e9, rfl⟩ := hq
  rw [e9]
  clear e9 S1
  refine gg_aload_n dX4_costFor_8 rfl rfl ?_
  refine gf_X4_67 rfl dX4_costFor_9 hE.1 rfl ?_
  refine gg_aload_n dX4_costFor_12 rfl rfl ?_
  refine gg_iconst (v := 2) dX4_costFor_13 (by decide) ?_
  refine gg_callV (sp_X2_number (k := 2) hB (by decide)) dX4_costFor_14 kw_X4_64 rfl hB.1 rfl rfl (Nat.le_of_ble_eq_true rfl) (Nat.le_of_ble_eq_true rfl) (Nat.le_of_ble_eq_true rfl) ⟨(Nat.le_of_ble_eq_true rfl), (Nat.le_of_ble_eq_true rfl)⟩ (fun r S1 hq => ?_)
  refine gg_k (k2 := (0, 0)) rfl ?_
  obtain ⟨e9, rfl⟩ := hq
  rw [e9]
  clear e9 S1
  refine gg_imul dX4_costFor_17 ?_
  refine gg_iadd dX4_costFor_18 ?_
  refine gg_istore_n dX4_costFor_19 rfl (Nat.le_of_ble_eq_true rfl) rfl ?_
  refine gg_aload_n dX4_costFor_20 rfl rfl ?_
  refine gf_X4_15 rfl dX4_costFor_21 hE.1 rfl ?_
  refine gg_aload_n dX4_costFor_24 rfl rfl ?_
  refine gf_X4_70 rfl dX4_costFor_25 hG rfl ?_
  refine gg_callSN (host := RX6) (sp_X6_hasBit S (f 0) (h 2)) dX4_costFor_28 (fun _ _ _ _ h => h.2.2.2.2.2.2.2.2.1) kw_X4_48 rfl rfl (Nat.le_of_ble_eq_true rfl) (Nat.le_of_ble_eq_true rfl) (Nat.le_of_ble_eq_true rfl) ⟨(Nat.le_of_ble_eq_true rfl), (Nat.le_of_ble_eq_true rfl)⟩ (fun r S1 hq => ?_)
  refine gg_k (k2 := (0, 0)) rfl ?_
  obtain ⟨e9, rfl⟩ := hq
  rw [e9]
  clear e9 S1
  refine gg_if_ne (tgt := 42) dX4_costFor_31 (by decide) (fun c31 => ?_) (fun c31 => ?_)
  · have c31 : hb_ (f 0) (h 2) = true := bI_nz c31
    refine gg_aload_n dX4_costFor_42 rfl rfl ?_
    refine gf_X4_73 rfl dX4_costFor_43 hE.1 rfl ?_
    refine gg_aload_n dX4_costFor_46 rfl rfl ?_
    refine gf_X4_55 rfl dX4_costFor_47 hG rfl ?_
    refine gg_callSN (host := RX6) (sp_X6_hasBit S (f 3) (h 0)) dX4_costFor_50 (fun _ _ _ _ h => h.2.2.2.2.2.2.2.2.1) kw_X4_48 rfl rfl (Nat.le_of_ble_eq_true rfl) (Nat.le_of_ble_eq_true rfl) (Nat.le_of_ble_eq_true rfl) ⟨(Nat.le_of_ble_eq_true rfl), (Nat.le_of_ble_eq_true rfl)⟩ (fun r S1 hq => ?_)
    refine gg_k (k2 := (0, 0)) rfl ?_
    obtain ⟨e9, rfl⟩ := hq
    rw [e9]
    clear e9 S1
    refine gg_if_eq (tgt := 64) dX4_costFor_53 (by decide) (fun c53 => ?_) (fun c53 => ?_)
    · have c53 : hb_ (f 3) (h 0) = false := bI_z c53
      refine gg_iload_n dX4_costFor_64 rfl rfl ?_
      refine gg_iconst (v := 0) dX4_costFor_65 (by decide) ?_
      refine gg_mmax dX4_costFor_66 kw_X4_76 (Nat.le_of_ble_eq_true rfl) (Nat.le_of_ble_eq_true rfl) ⟨(Nat.le_of_ble_eq_true rfl), (Nat.le_of_ble_eq_true rfl)⟩ ?_
      have e1 := e0 _ rfl
      unfold csI at e1
      rw [c31, c53] at e1
      exact gg_ireturn dX4_costFor_69 rfl rfl ⟨(Nat.le_of_ble_eq_true rfl), (Nat.le_of_ble_eq_true rfl)⟩ (⟨rfl, by unfold csI; rw [c31, c53]; rfl⟩)
    · have c53 : hb_ (f 3) (h 0) = true := bI_nz c53
      refine gg_iload_n dX4_costFor_56 rfl rfl ?_
      refine gg_aload_n dX4_costFor_57 rfl rfl ?_
      refine gg_iconst (v := 3) dX4_costFor_58 (by decide) ?_
      refine gg_callV (sp_X2_number (k := 3) hB (by decide)) dX4_costFor_59 kw_X4_64 rfl hB.1 rfl rfl (Nat.le_of_ble_eq_true rfl) (Nat.le_of_ble_eq_true rfl) (Nat.le_of_ble_eq_true rfl) ⟨(Nat.le_of_ble_eq_true rfl), (Nat.le_of_ble_eq_true rfl)⟩ (fun r S1 hq => ?_)
      refine gg_k (k2 := (0, 0)) rfl ?_
      obtain ⟨e9, rfl⟩ := hq
      rw [e9]
      clear e9 S1
      refine gg_isub dX4_costFor_62 ?_
      refine gg_istore_n dX4_costFor_63 rfl (Nat.le_of_ble_eq_true rfl) rfl ?_
      refine gg_iload_n dX4_costFor_64 rfl rfl ?_
      refine gg_iconst (v := 0) dX4_costFor_65 (by decide) ?_
      refine gg_mmax dX4_costFor_66 kw_X4_76 (Nat.le_of_ble_eq_true rfl) (Nat.le_of_ble_eq_true rfl) ⟨(Nat.le_of_ble_eq_true rfl), (Nat.le_of_ble_eq_true rfl)⟩ ?_
      have e1 := e0 _ rfl
      unfold csI at e1
      rw [c31, c53] at e1
      exact gg_ireturn dX4_costFor_69 rfl rfl ⟨(Nat.le_of_ble_eq_true rfl), (Nat.le_of_ble_eq_true rfl)⟩ (⟨rfl, by unfold csI; rw [c31, c53]; rfl⟩)
  · have c31 : hb_ (f 0) (h 2) = false := bI_z c31
    refine gg_iload_n dX4_costFor_34 rfl rfl ?_
    refine gg_aload_n dX4_costFor_35 rfl rfl ?_
    refine gg_iconst (v := 1) dX4_costFor_36 (by decide) ?_
    refine gg_callV (sp_X2_number (k := 1) hB (by decide)) dX4_costFor_37 kw_X4_64 rfl hB.1 rfl rfl (Nat.le_of_ble_eq_true rfl) (Nat.le_of_ble_eq_true rfl) (Nat.le_of_ble_eq_true rfl) ⟨(Nat.le_of_ble_eq_true rfl), (Nat.le_of_ble_eq_true rfl)⟩ (fun r S1 hq => ?_)
    refine gg_k (k2 := (0, 0)) rfl ?_
    obtain ⟨e9, rfl⟩ := hq
    rw [e9]
    clear e9 S1
    refine gg_iadd dX4_costFor_40 ?_
    refine gg_istore_n dX4_costFor_41 rfl (Nat.le_of_ble_eq_true rfl) rfl ?_
    refine gg_aload_n dX4_costFor_42 rfl rfl ?_
    refine gf_X4_73 rfl dX4_costFor_43 hE.1 rfl ?_
    refine gg_aload_n dX4_costFor_46 rfl rfl ?_
    refine gf_X4_55 rfl dX4_costFor_47 hG rfl ?_
    refine gg_callSN (host := RX6) (sp_X6_hasBit S (f 3) (h 0)) dX4_costFor_50 (fun _ _ _ _ h => h.2.2.2.2.2.2.2.2.1) kw_X4_48 rfl rfl (Nat.le_of_ble_eq_true rfl) (Nat.le_of_ble_eq_true rfl) (Nat.le_of_ble_eq_true rfl) ⟨(Nat.le_of_ble_eq_true rfl), (Nat.le_of_ble_eq_true rfl)⟩ (fun r S1 hq => ?_)
    refine gg_k (k2 := (0, 0)) rfl ?_
    obtain ⟨e9, rfl⟩ := hq
    rw [e9]
    clear e9 S1
    refine gg_if_eq (tgt := 64) dX4_costFor_53 (by decide) (fun c53 => ?_) (fun c53 => ?_)
    · have c53 : hb_ (f 3) (h 0) = false := bI_z c53
      refine gg_iload_n dX4_costFor_64 rfl rfl ?_
      refine gg_iconst (v := 0) dX4_costFor_65 (by decide) ?_
      refine gg_mmax dX4_costFor_66 kw_X4_76 (Nat.le_of_ble_eq_true rfl) (Nat.le_of_ble_eq_true rfl) ⟨(Nat.le_of_ble_eq_true rfl), (Nat.le_of_ble_eq_true rfl)⟩ ?_
      have e1 := e0 _ rfl
      unfold csI at e1
      rw [c31, c53] at e1
      exact gg_ireturn dX4_costFor_69 rfl rfl ⟨(Nat.le_of_ble_eq_true rfl), (Nat.le_of_ble_eq_true rfl)⟩ (⟨rfl, by unfold csI; rw [c31, c53]; rfl⟩)
    · have c53 : hb_ (f 3) (h 0) = true := bI_nz c53
      refine gg_iload_n dX4_costFor_56 rfl rfl ?_
      refine gg_aload_n dX4_costFor_57 rfl rfl ?_
      refine gg_iconst (v := 3) dX4_costFor_58 (by decide) ?_
      refine gg_callV (sp_X2_number (k := 3) hB (by decide)) dX4_costFor_59 kw_X4_64 rfl hB.1 rfl rfl (Nat.le_of_ble_eq_true rfl) (Nat.le_of_ble_eq_true rfl) (Nat.le_of_ble_eq_true rfl) ⟨(Nat.le_of_ble_eq_true rfl), (Nat.le_of_ble_eq_true rfl)⟩ (fun r S1 hq => ?_)
      refine gg_k (k2 := (0, 0)) rfl ?_
      obtain ⟨e9, rfl⟩ := hq
      rw [e9]
      clear e9 S1
      refine gg_isub dX4_costFor_62 ?_
      refine gg_istore_n dX4_costFor_63 rfl (Nat.le_of_ble_eq_true rfl) rfl ?_
      refine gg_iload_n dX4_costFor_64 rfl rfl ?_
      refine gg_iconst (v := 0) dX4_costFor_65 (by decide) ?_
      refine gg_mmax dX4_costFor_66 kw_X4_76 (Nat.le_of_ble_eq_true rfl) (Nat.le_of_ble_eq_true rfl) ⟨(Nat.le_of_ble_eq_true rfl), (Nat.le_of_ble_eq_true rfl)⟩ ?_
      have e1 := e0 _ rfl
      unfold csI at e1
      rw [c31, c53] at e1
      exact gg_ireturn dX4_costFor_69 rfl rfl ⟨(Nat.le_of_ble_eq_true rfl), (Nat.le_of_ble_eq_true rfl)⟩ (⟨rfl, by unfold csI; rw [c31, c53]; rfl⟩)
def sdF (f : Nat → Int32) : Nat → Int32 := upd (upd (upd f 5 0) 6 (-1)) 7 0
theorem sp_X4_startDay {S : gl_H} {P : Nat} {f mn : Nat → Int32} {pd : Int64} (hE : PE S P f mn pd) : Sp mX4_startDay yX4_startDay [.ref P] S (fun r S1 => r = none ∧ PE S1 P (sdF f) mn pd ∧ Fr P (P + 2) S S1) := by
  refine gl_enter (j := 0) (by decide +kernel) rfl (fun h => absurd h (by decide)) (Nat.le_of_ble_eq_true rfl) rfl (fun x => ?_)
  have hf : Fr P (P + 2) S S := Fr.rf
  refine gg_aload_n dX4_startDay_0 rfl rfl ?_
  refine gg_iconst (v := 0) dX4_startDay_1 (by decide) ?_
  refine pf_X4_34 rfl dX4_startDay_2 hE.1 (Nat.le_of_ble_eq_true rfl) ?_
  refine PEs_5 hE hf (fun S hE hf => ?_)
  refine gg_aload_n dX4_startDay_5 rfl rfl ?_
  refine gg_iconst (v := -1) dX4_startDay_6 (by decide) ?_
  refine pf_X4_37 rfl dX4_startDay_7 hE.1 (Nat.le_of_ble_eq_true rfl) ?_
  refine PEs_6 hE hf (fun S hE hf => ?_)
  refine gg_aload_n dX4_startDay_10 rfl rfl ?_
  refine gg_iconst (v := 0) dX4_startDay_11 (by decide) ?_
  refine pf_X4_40 rfl dX4_startDay_12 hE.1 (Nat.le_of_ble_eq_true rfl) ?_
  refine PEs_7 hE hf (fun S hE hf => ?_)
  exact gg_return dX4_startDay_15 rfl ⟨(Nat.le_of_ble_eq_true rfl), (Nat.le_of_ble_eq_true rfl)⟩ (⟨rfl, hE, hf⟩)
def taF (f : Nat → Int32) (a : Nat) (g tr : Int32) : Nat → Int32 := if a = 0 then upd (upd f 5 1) 6 g else if a = 1 then upd f 5 2 else if f 7 + 1 < tr then upd f 7 (f 7 + 1) else upd (upd f 7 (f 7 + 1)) 5 2
theorem sp_X4_takeAnswer {S : gl_H} {P : Nat} {f mn : Nat → Int32} {pd : Int64} (hE : PE S P f mn pd) {a : Nat} (ha : a ≤ 2) (g tr : Int32) : Sp mX4_takeAnswer yX4_takeAnswer [.ref P, .int (nI a), .int g, .int tr] S (fun r S1 => r = none ∧ PE S1 P (taF f a g tr) mn pd ∧ Fr P (P + 2) S S1) := by
  refine gl_enter (j := 0) (by decide +kernel) rfl (fun h => absurd h (by decide)) (Nat.le_of_ble_eq_true rfl) rfl (fun x => ?_)
  have hf : Fr P (P + 2) S S := Fr.rf
  refine gg_iload_n dX4_takeAnswer_0 rfl rfl ?_
  refine gg_if_ne (tgt := 15) dX4_takeAnswer_1 (by decide) (fun c1 => ?_) (fun c1 => ?_)
  · have c1 : a ≠ 0 := n_ne (b := 0) c1
    refine gg_iload_n dX4_takeAnswer_15 rfl rfl ?_
    refine gg_iconst (v := 2) dX4_takeAnswer_16 (by decide) ?_
    refine gg_icmp_ne (tgt := 30) dX4_takeAnswer_17 (by decide) (fun c17 => ?_) (fun c17 => ?_)
    · have c17 : a = 1 := by have := n_ne (b := 2) c17; omega
      rw [show taF f a g tr = upd f 5 2 from (if_neg c1).trans (if_pos c17)]
      refine gg_iload_n dX4_takeAnswer_30 rfl rfl ?_
      refine gg_iconst (v := 1) dX4_takeAnswer_31 (by decide) ?_
      refine gg_icmp_eq (tgt := 43) dX4_takeAnswer_32 (by decide) (fun c32 => ?_) (fun c32 => ?_)
      · refine gg_aload_n dX4_takeAnswer_43 rfl rfl ?_
        refine gg_iconst (v := 2) dX4_takeAnswer_44 (by decide) ?_
        refine pf_X4_34 rfl dX4_takeAnswer_45 hE.1 (Nat.le_of_ble_eq_true rfl) ?_
        refine PEs_5 hE hf (fun S hE hf => ?_)
        exact gg_return dX4_takeAnswer_48 rfl ⟨(Nat.le_of_ble_eq_true rfl), (Nat.le_of_ble_eq_true rfl)⟩ (⟨rfl, hE, hf⟩)
      · exact absurd (show nI a = 1 by rw [c17]; rfl) c32
    · have c17 : a = 2 := n_eq (b := 2) c17
      rw [show taF f a g tr = if f 7 + 1 < tr then upd f 7 (f 7 + 1) else upd (upd f 7 (f 7 + 1)) 5 2 from (if_neg c1).trans (if_neg (by omega))]
      refine gg_aload_n dX4_takeAnswer_20 rfl rfl ?_
      refine gg_dup dX4_takeAnswer_21 rfl ?_
      refine gf_X4_40 rfl dX4_takeAnswer_22 hE.1 rfl ?_
      refine gg_iconst (v := 1) dX4_takeAnswer_25 (by decide) ?_
      refine gg_iadd dX4_takeAnswer_26 ?_
      refine pf_X4_40 rfl dX4_takeAnswer_27 hE.1 (Nat.le_of_ble_eq_true rfl) ?_
      refine PEs_7 hE hf (fun S hE hf => ?_)
      refine gg_iload_n dX4_takeAnswer_30 rfl rfl ?_
      refine gg_iconst (v := 1) dX4_takeAnswer_31 (by decide) ?_
      refine gg_icmp_eq (tgt := 43) dX4_takeAnswer_32 (by decide) (fun c32 => ?_) (fun c32 => ?_)
      · exact absurd (n_eq (b := 1) c32) (by omega)
      · refine gg_aload_n dX4_takeAnswer_35 rfl rfl ?_
        refine gf_X4_40 rfl dX4_takeAnswer_36 hE.1 rfl ?_
        refine gg_iload_n dX4_takeAnswer_39 rfl rfl ?_
        refine gg_icmp_lt (tgt := 48) dX4_takeAnswer_40 (by decide) (fun c40 => ?_) (fun c40 => ?_)
        · rw [if_pos (show f 7 + 1 < tr from c40)]
          exact gg_return dX4_takeAnswer_48 rfl ⟨(Nat.le_of_ble_eq_true rfl), (Nat.le_of_ble_eq_true rfl)⟩ (⟨rfl, hE, hf⟩)
        · rw [if_neg (show ¬ f 7 + 1 < tr from c40)]
          refine gg_aload_n dX4_takeAnswer_43 rfl rfl ?_
          refine gg_iconst (v := 2) dX4_takeAnswer_44 (by decide) ?_
          refine pf_X4_34 rfl dX4_takeAnswer_45 hE.1 (Nat.le_of_ble_eq_true rfl) ?_
          refine PEs_5 hE hf (fun S hE hf => ?_)
          exact gg_return dX4_takeAnswer_48 rfl ⟨(Nat.le_of_ble_eq_true rfl), (Nat.le_of_ble_eq_true rfl)⟩ (⟨rfl, hE, hf⟩)
  · have c1 : a = 0 := n_eq (b := 0) c1
    rw [show taF f a g tr = upd (upd f 5 1) 6 g from if_pos c1]
    refine gg_aload_n dX4_takeAnswer_4 rfl rfl ?_
    refine gg_iconst (v := 1) dX4_takeAnswer_5 (by decide) ?_
    refine pf_X4_34 rfl dX4_takeAnswer_6 hE.1 (Nat.le_of_ble_eq_true rfl) ?_
    refine PEs_5 hE hf (fun S hE hf => ?_)
    refine gg_aload_n dX4_takeAnswer_9 rfl rfl ?_
    refine gg_iload_n dX4_takeAnswer_10 rfl rfl ?_
    refine pf_X4_37 rfl dX4_takeAnswer_11 hE.1 (Nat.le_of_ble_eq_true rfl) ?_
    refine PEs_6 hE hf (fun S hE hf => ?_)
    exact gg_return dX4_takeAnswer_14 rfl ⟨(Nat.le_of_ble_eq_true rfl), (Nat.le_of_ble_eq_true rfl)⟩ (⟨rfl, hE, hf⟩)
def wgI (f h num : Nat → Int32) : Int32 := if hb_ (f 0) (h 2) then num 4 + num 5 else num 4
theorem sp_X4_workAt {S : gl_H} {P : Nat} {f mn : Nat → Int32} {pd : Int64} {h num dr : Nat → Int32} {q pl sc : Nat} (hE : PE S P f mn pd) (hG : PG S q h) (hB : PB S num dr pl) (hq0 : q < P ∨ P + 2 ≤ q) (hP8 : 8 ≤ P) : Sp mX4_workAt yX4_workAt [.ref P, .ref q, .ref 5] S (fun r S1 => r = none ∧ PE S1 P (upd f 8 (f 8 + 1)) mn (pd + (wgI f h num).toInt64 * (h 4).toInt64) ∧ Fr P (P + 2) S S1) := by
  refine gl_enter (j := 1) (by decide +kernel) rfl (fun h => absurd h (by decide)) (Nat.le_of_ble_eq_true rfl) rfl (fun x => ?_)
  have hf : Fr P (P + 2) S S := Fr.rf
  refine gg_aload_n dX4_workAt_0 rfl rfl ?_
  refine gg_iconst (v := 4) dX4_workAt_1 (by decide) ?_
  refine gg_callV (sp_X2_number (k := 4) hB (by decide)) dX4_workAt_2 kw_X4_64 rfl hB.1 rfl rfl (Nat.le_of_ble_eq_true rfl) (Nat.le_of_ble_eq_true rfl) (Nat.le_of_ble_eq_true rfl) ⟨(Nat.le_of_ble_eq_true rfl), (Nat.le_of_ble_eq_true rfl)⟩ (fun r S1 hq => ?_)
  refine gg_k (k2 := (0, 0)) rfl ?_
  obtain ⟨e9, rfl⟩ := hq
  rw [e9]
  clear e9 S1
  refine gg_istore_n dX4_workAt_5 rfl (Nat.le_of_ble_eq_true rfl) rfl ?_
  refine gg_aload_n dX4_workAt_6 rfl rfl ?_
  refine gf_X4_15 rfl dX4_workAt_7 hE.1 rfl ?_
  refine gg_aload_n dX4_workAt_10 rfl rfl ?_
  refine gf_X4_70 rfl dX4_workAt_11 hG rfl ?_
  refine gg_callSN (host := RX6) (sp_X6_hasBit S (f 0) (h 2)) dX4_workAt_14 (fun _ _ _ _ h => h.2.2.2.2.2.2.2.2.1) kw_X4_48 rfl rfl (Nat.le_of_ble_eq_true rfl) (Nat.le_of_ble_eq_true rfl) (Nat.le_of_ble_eq_true rfl) ⟨(Nat.le_of_ble_eq_true rfl), (Nat.le_of_ble_eq_true rfl)⟩ (fun r S1 hq => ?_)
  refine gg_k (k2 := (0, 0)) rfl ?_
  obtain ⟨e9, rfl⟩ := hq
  rw [e9]
  clear e9 S1
  refine gg_if_eq (tgt := 28) dX4_workAt_17 (by decide) (fun c17 => ?_) (fun c17 => ?_)
  · have e : wgI f h num = num 4 := if_neg (by rw [show hb_ (f 0) (h 2) = false from bI_z c17]; decide)
    rw [e]
    refine gg_aload_n dX4_workAt_28 rfl rfl ?_
    refine gg_dup dX4_workAt_29 rfl ?_
    refine gf_X4_67 rfl dX4_workAt_30 hE.1 rfl ?_
    refine gg_iconst (v := 1) dX4_workAt_33 (by decide) ?_
    refine gg_iadd dX4_workAt_34 ?_
    refine pf_X4_67 rfl dX4_workAt_35 hE.1 (Nat.le_of_ble_eq_true rfl) ?_
    refine PEs_8 hE hf (fun S hE hf => ?_)
    have hG : PG S q h := (hf q (by omega)).trans hG
    refine gg_aload_n dX4_workAt_38 rfl rfl ?_
    refine gg_dup dX4_workAt_39 rfl ?_
    refine gf_X4_82 rfl dX4_workAt_40 hE.1 rfl ?_
    refine gg_iload_n dX4_workAt_43 rfl rfl ?_
    refine gg_i2l dX4_workAt_44 ?_
    refine gg_aload_n dX4_workAt_45 rfl rfl ?_
    refine gf_X4_86 rfl dX4_workAt_46 hG rfl ?_
    refine gg_i2l dX4_workAt_49 ?_
    refine gg_lmul dX4_workAt_50 ?_
    refine gg_ladd dX4_workAt_51 ?_
    refine pf_X4_82 rfl dX4_workAt_52 hE.1 (Nat.le_of_ble_eq_true rfl) ?_
    refine PEs_pd hE hf (fun S hE hf => ?_)
    exact gg_return dX4_workAt_55 rfl ⟨(Nat.le_of_ble_eq_true rfl), (Nat.le_of_ble_eq_true rfl)⟩ (⟨rfl, hE, hf⟩)
  · have e : wgI f h num = num 4 + num 5 := if_pos (show hb_ (f 0) (h 2) = true from bI_nz c17)
    rw [e]
    refine gg_iload_n dX4_workAt_20 rfl rfl ?_
    refine gg_aload_n dX4_workAt_21 rfl rfl ?_
    refine gg_iconst (v := 5) dX4_workAt_22 (by decide) ?_
    refine gg_callV (sp_X2_number (k := 5) hB (by decide)) dX4_workAt_23 kw_X4_64 rfl hB.1 rfl rfl (Nat.le_of_ble_eq_true rfl) (Nat.le_of_ble_eq_true rfl) (Nat.le_of_ble_eq_true rfl) ⟨(Nat.le_of_ble_eq_true rfl), (Nat.le_of_ble_eq_true rfl)⟩ (fun r S1 hq => ?_)
    refine gg_k (k2 := (0, 0)) rfl ?_
    obtain ⟨e9, rfl⟩ := hq
    rw [e9]
    clear e9 S1
    refine gg_iadd dX4_workAt_26 ?_
    refine gg_istore_n dX4_workAt_27 rfl (Nat.le_of_ble_eq_true rfl) rfl ?_
    refine gg_aload_n dX4_workAt_28 rfl rfl ?_
    refine gg_dup dX4_workAt_29 rfl ?_
    refine gf_X4_67 rfl dX4_workAt_30 hE.1 rfl ?_
    refine gg_iconst (v := 1) dX4_workAt_33 (by decide) ?_
    refine gg_iadd dX4_workAt_34 ?_
    refine pf_X4_67 rfl dX4_workAt_35 hE.1 (Nat.le_of_ble_eq_true rfl) ?_
    refine PEs_8 hE hf (fun S hE hf => ?_)
    have hG : PG S q h := (hf q (by omega)).trans hG
    refine gg_aload_n dX4_workAt_38 rfl rfl ?_
    refine gg_dup dX4_workAt_39 rfl ?_
    refine gf_X4_82 rfl dX4_workAt_40 hE.1 rfl ?_
    refine gg_iload_n dX4_workAt_43 rfl rfl ?_
    refine gg_i2l dX4_workAt_44 ?_
    refine gg_aload_n dX4_workAt_45 rfl rfl ?_
    refine gf_X4_86 rfl dX4_workAt_46 hG rfl ?_
    refine gg_i2l dX4_workAt_49 ?_
    refine gg_lmul dX4_workAt_50 ?_
    refine gg_ladd dX4_workAt_51 ?_
    refine pf_X4_82 rfl dX4_workAt_52 hE.1 (Nat.le_of_ble_eq_true rfl) ?_
    refine PEs_pd hE hf (fun S hE hf => ?_)
    exact gg_return dX4_workAt_55 rfl ⟨(Nat.le_of_ble_eq_true rfl), (Nat.le_of_ble_eq_true rfl)⟩ (⟨rfl, hE, hf⟩)
theorem nb8 : ∀ n, n < 128 → (nI n).toInt8.toInt32 = nI n := by decide +kernel
set_option maxRecDepth 20000 in
theorem nb16 : ∀ n, n < 2048 → (nI n).toInt16.toInt32 = nI n := by decide +kernel
theorem sp_X5_roomOf (S : gl_H) (a b : Int32) : Sp mX5_roomOf yX5_roomOf [.int a, .int b] S (fun r S1 => S1 = S ∧ r = some (.int (16 * a + b))) := by
  refine gl_enter (j := 0) (by decide +kernel) rfl (fun h => absurd h (by decide)) (Nat.le_of_ble_eq_true rfl) rfl (fun x => ?_)
  refine gg_bipush (v := 16) dX5_roomOf_0 (by decide) ?_
  refine gg_iload_n dX5_roomOf_2 rfl rfl ?_
  refine gg_imul dX5_roomOf_3 ?_
  refine gg_iload_n dX5_roomOf_4 rfl rfl ?_
  refine gg_iadd dX5_roomOf_5 ?_
  exact gg_ireturn dX5_roomOf_6 rfl rfl ⟨(Nat.le_of_ble_eq_true rfl), (Nat.le_of_ble_eq_true rfl)⟩ (⟨rfl, rfl⟩)
def rgS (nx : Nat) : Nat := if nx < 400 then nx else 0
theorem mn400 (kp : Nat) (h : kp ≤ 400) : (if (400 : Int32) < nI kp + 1 then 400 else nI kp + 1) = nI (if kp + 1 ≤ 400 then kp + 1 else 400) := by
  rw [nI_1]
  by_cases c : kp + 1 ≤ 400
  · rw [if_pos c, if_neg (show ¬ (400 : Int32) < nI (kp + 1) from nI_nlt (b := kp + 1) (a := 400) c (by omega))]
  · rw [if_neg c, if_pos (show (400 : Int32) < nI (kp + 1) from nI_lt (a := 400) (b := kp + 1) (by omega) (by omega))]
    rfl
theorem sp_X5_keep {S : gl_H} {v r d h : Nat → Int32} {nx kp q : Nat} (hV : PV S v r d nx kp) (hG : PG S q h) (hq : q < 8 ∨ 12 ≤ q) (hnx : nx ≤ 400) (hkp : kp ≤ 400) {t sc kl day : Nat} (ht : t < 12) (hs : h 0 = nI sc) (hsc : sc < 6) (hk : h 1 = nI kl) (hkl : kl < 16) (hday : day < 2048) : Sp mX5_keep yX5_keep [.ref 8, .int (nI t), .ref q, .int (nI day)] S (fun rr S1 => rr = none ∧ PV S1 (upd v (rgS nx) (nI t)) (upd r (rgS nx) (nI (16 * sc + kl))) (upd d (rgS nx) (nI day)) (rgS nx + 1) (if kp + 1 ≤ 400 then kp + 1 else 400) ∧ Fr 8 12 S S1) := by
  refine gl_enter (j := 0) (by decide +kernel) rfl (fun h => absurd h (by decide)) (Nat.le_of_ble_eq_true rfl) rfl (fun x => ?_)
  have hf : Fr 8 12 S S := Fr.rf
  have hG0 := hG
  have hr9 : rgS nx < 400 := by unfold rgS; split <;> omega
  have e16 : (16 : Int32) * h 0 + h 1 = nI (16 * sc + kl) := by rw [hs, hk, ← nI_add, ← pk_mul]; rfl
  refine gg_aload_n dX5_keep_0 rfl rfl ?_
  refine gf_X5_22 rfl dX5_keep_1 hV.1 rfl ?_
  refine gg_if_lt (tgt := 17) dX5_keep_4 (by decide) (fun c4 => ?_) (fun c4 => ?_)
  · exact absurd c4 (nI_pos (by omega))
  · refine gg_aload_n dX5_keep_7 rfl rfl ?_
    refine gf_X5_22 rfl dX5_keep_8 hV.1 rfl ?_
    refine gg_sipush (v := 400) dX5_keep_11 (by decide) ?_
    refine gg_icmp_lt (tgt := 22) dX5_keep_14 (by decide) (fun c14 => ?_) (fun c14 => ?_)
    · have e : rgS nx = nx := if_pos (n_lt (b := 400) c14)
      rw [e]
      rw [e] at hr9
      refine gg_aload_n dX5_keep_22 rfl rfl ?_
      refine gf_X5_11 rfl dX5_keep_23 hV.1 rfl ?_
      refine gg_aload_n dX5_keep_26 rfl rfl ?_
      refine gf_X5_22 rfl dX5_keep_27 hV.1 rfl ?_
      refine gg_iload_n dX5_keep_30 rfl rfl ?_
      refine gg_i2b dX5_keep_31 ?_
      refine gg_ast_b (_) dX5_keep_32 hV.2.1 rfl hr9 (by decide) ?_
      rw [pk_vb, nb8 t (by omega)]
      refine PVs_v hV hf (fun S hV hf => ?_)
      have hG : PG S q h := (hf q (by omega)).trans hG0
      refine gg_aload_n dX5_keep_33 rfl rfl ?_
      refine gf_X5_15 rfl dX5_keep_34 hV.1 rfl ?_
      refine gg_aload_n dX5_keep_37 rfl rfl ?_
      refine gf_X5_22 rfl dX5_keep_38 hV.1 rfl ?_
      refine gg_aload_n dX5_keep_41 rfl rfl ?_
      refine gf_X5_26 rfl dX5_keep_42 hG rfl ?_
      refine gg_aload_n dX5_keep_45 rfl rfl ?_
      refine gf_X5_31 rfl dX5_keep_46 hG rfl ?_
      refine gg_callS (sp_X5_roomOf S (h 0) (h 1)) dX5_keep_49 kw_X5_34 rfl rfl (Nat.le_of_ble_eq_true rfl) (Nat.le_of_ble_eq_true rfl) (Nat.le_of_ble_eq_true rfl) ⟨(Nat.le_of_ble_eq_true rfl), (Nat.le_of_ble_eq_true rfl)⟩ (fun r S1 hq => ?_)
      refine gg_k (k2 := (0, 0)) rfl ?_
      obtain ⟨e9, rfl⟩ := hq
      rw [e9, e16]
      clear e9 S1
      refine gg_i2b dX5_keep_52 ?_
      refine gg_ast_b (_) dX5_keep_53 hV.2.2.1 rfl hr9 (by decide) ?_
      rw [pk_vb, nb8 (16 * sc + kl) (by omega)]
      refine PVs_r hV hf (fun S hV hf => ?_)
      have hG : PG S q h := (hf q (by omega)).trans hG0
      refine gg_aload_n dX5_keep_54 rfl rfl ?_
      refine gf_X5_18 rfl dX5_keep_55 hV.1 rfl ?_
      refine gg_aload_n dX5_keep_58 rfl rfl ?_
      refine gf_X5_22 rfl dX5_keep_59 hV.1 rfl ?_
      refine gg_iload_n dX5_keep_62 rfl rfl ?_
      refine gg_i2s dX5_keep_63 ?_
      refine gg_ast_s (_) dX5_keep_64 hV.2.2.2 rfl hr9 (by decide) ?_
      rw [pk_vs, nb16 day hday]
      refine PVs_d hV hf (fun S hV hf => ?_)
      have hG : PG S q h := (hf q (by omega)).trans hG0
      refine gg_aload_n dX5_keep_65 rfl rfl ?_
      refine gg_dup dX5_keep_66 rfl ?_
      refine gf_X5_22 rfl dX5_keep_67 hV.1 rfl ?_
      refine gg_iconst (v := 1) dX5_keep_70 (by decide) ?_
      refine gg_iadd dX5_keep_71 ?_
      refine pf_X5_22 rfl dX5_keep_72 hV.1 (Nat.le_of_ble_eq_true rfl) ?_
      refine PVs_nx _ (nI_1 _) hV hf (fun S hV hf => ?_)
      have hG : PG S q h := (hf q (by omega)).trans hG0
      refine gg_aload_n dX5_keep_75 rfl rfl ?_
      refine gg_aload_n dX5_keep_76 rfl rfl ?_
      refine gf_X5_38 rfl dX5_keep_77 hV.1 rfl ?_
      refine gg_iconst (v := 1) dX5_keep_80 (by decide) ?_
      refine gg_iadd dX5_keep_81 ?_
      refine gg_sipush (v := 400) dX5_keep_82 (by decide) ?_
      refine gg_mmin dX5_keep_85 kw_X5_41 (Nat.le_of_ble_eq_true rfl) (Nat.le_of_ble_eq_true rfl) ⟨(Nat.le_of_ble_eq_true rfl), (Nat.le_of_ble_eq_true rfl)⟩ ?_
      refine pf_X5_38 rfl dX5_keep_88 hV.1 (Nat.le_of_ble_eq_true rfl) ?_
      refine PVs_kp (if kp + 1 ≤ 400 then kp + 1 else 400) (mn400 kp hkp) hV hf (fun S hV hf => ?_)
      exact gg_return dX5_keep_91 rfl ⟨(Nat.le_of_ble_eq_true rfl), (Nat.le_of_ble_eq_true rfl)⟩ (⟨rfl, hV, hf⟩)
    · have e : rgS nx = 0 := if_neg (fun z => c14 (nI_lt (b := 400) z (by omega)))
      rw [e]
      rw [e] at hr9
      refine gg_aload_n dX5_keep_17 rfl rfl ?_
      refine gg_iconst (v := 0) dX5_keep_18 (by decide) ?_
      refine pf_X5_22 rfl dX5_keep_19 hV.1 (Nat.le_of_ble_eq_true rfl) ?_
      refine PVs_nx 0 rfl hV hf (fun S hV hf => ?_)
      have hG : PG S q h := (hf q (by omega)).trans hG0
      refine gg_aload_n dX5_keep_22 rfl rfl ?_
      refine gf_X5_11 rfl dX5_keep_23 hV.1 rfl ?_
      refine gg_aload_n dX5_keep_26 rfl rfl ?_
      refine gf_X5_22 rfl dX5_keep_27 hV.1 rfl ?_
      refine gg_iload_n dX5_keep_30 rfl rfl ?_
      refine gg_i2b dX5_keep_31 ?_
      refine gg_ast_b (_) dX5_keep_32 hV.2.1 rfl hr9 (by decide) ?_
      rw [pk_vb, nb8 t (by omega)]
      refine PVs_v hV hf (fun S hV hf => ?_)
      have hG : PG S q h := (hf q (by omega)).trans hG0
      refine gg_aload_n dX5_keep_33 rfl rfl ?_
      refine gf_X5_15 rfl dX5_keep_34 hV.1 rfl ?_
      refine gg_aload_n dX5_keep_37 rfl rfl ?_
      refine gf_X5_22 rfl dX5_keep_38 hV.1 rfl ?_
      refine gg_aload_n dX5_keep_41 rfl rfl ?_
      refine gf_X5_26 rfl dX5_keep_42 hG rfl ?_
      refine gg_aload_n dX5_keep_45 rfl rfl ?_
      refine gf_X5_31 rfl dX5_keep_46 hG rfl ?_
      refine gg_callS (sp_X5_roomOf S (h 0) (h 1)) dX5_keep_49 kw_X5_34 rfl rfl (Nat.le_of_ble_eq_true rfl) (Nat.le_of_ble_eq_true rfl) (Nat.le_of_ble_eq_true rfl) ⟨(Nat.le_of_ble_eq_true rfl), (Nat.le_of_ble_eq_true rfl)⟩ (fun r S1 hq => ?_)
      refine gg_k (k2 := (0, 0)) rfl ?_
      obtain ⟨e9, rfl⟩ := hq
      rw [e9, e16]
      clear e9 S1
      refine gg_i2b dX5_keep_52 ?_
      refine gg_ast_b (_) dX5_keep_53 hV.2.2.1 rfl hr9 (by decide) ?_
      rw [pk_vb, nb8 (16 * sc + kl) (by omega)]
      refine PVs_r hV hf (fun S hV hf => ?_)
      have hG : PG S q h := (hf q (by omega)).trans hG0
      refine gg_aload_n dX5_keep_54 rfl rfl ?_
      refine gf_X5_18 rfl dX5_keep_55 hV.1 rfl ?_
      refine gg_aload_n dX5_keep_58 rfl rfl ?_
      refine gf_X5_22 rfl dX5_keep_59 hV.1 rfl ?_
      refine gg_iload_n dX5_keep_62 rfl rfl ?_
      refine gg_i2s dX5_keep_63 ?_
      refine gg_ast_s (_) dX5_keep_64 hV.2.2.2 rfl hr9 (by decide) ?_
      rw [pk_vs, nb16 day hday]
      refine PVs_d hV hf (fun S hV hf => ?_)
      have hG : PG S q h := (hf q (by omega)).trans hG0
      refine gg_aload_n dX5_keep_65 rfl rfl ?_
      refine gg_dup dX5_keep_66 rfl ?_
      refine gf_X5_22 rfl dX5_keep_67 hV.1 rfl ?_
      refine gg_iconst (v := 1) dX5_keep_70 (by decide) ?_
      refine gg_iadd dX5_keep_71 ?_
      refine pf_X5_22 rfl dX5_keep_72 hV.1 (Nat.le_of_ble_eq_true rfl) ?_
      refine PVs_nx _ (nI_1 _) hV hf (fun S hV hf => ?_)
      have hG : PG S q h := (hf q (by omega)).trans hG0
      refine gg_aload_n dX5_keep_75 rfl rfl ?_
      refine gg_aload_n dX5_keep_76 rfl rfl ?_
      refine gf_X5_38 rfl dX5_keep_77 hV.1 rfl ?_
      refine gg_iconst (v := 1) dX5_keep_80 (by decide) ?_
      refine gg_iadd dX5_keep_81 ?_
      refine gg_sipush (v := 400) dX5_keep_82 (by decide) ?_
      refine gg_mmin dX5_keep_85 kw_X5_41 (Nat.le_of_ble_eq_true rfl) (Nat.le_of_ble_eq_true rfl) ⟨(Nat.le_of_ble_eq_true rfl), (Nat.le_of_ble_eq_true rfl)⟩ ?_
      refine pf_X5_38 rfl dX5_keep_88 hV.1 (Nat.le_of_ble_eq_true rfl) ?_
      refine PVs_kp (if kp + 1 ≤ 400 then kp + 1 else 400) (mn400 kp hkp) hV hf (fun S hV hf => ?_)
      exact gg_return dX5_keep_91 rfl ⟨(Nat.le_of_ble_eq_true rfl), (Nat.le_of_ble_eq_true rfl)⟩ (⟨rfl, hV, hf⟩)
def tsF (v r d : Nat → Int32) (room day : Int32) : Nat → Int32
  | 0 => 0
  | i + 1 => if r i = room ∧ day - d i ≤ 30 then tsF v r d room day i ||| ((1 : Int32) <<< (v i &&& 31)) else tsF v r d room day i
theorem ts_loop {S : gl_H} {v r d : Nat → Int32} {nx kp : Nat} (hV : PV S v r d nx kp) (hkp : kp ≤ 400) {sc kl room day : Int32} (x : gl_X) : ∀ (m i : Nat), i + m = kp → GG mX5_teachersSeen x (gl_Z mX5_teachersSeen x (fun rr S1 => S1 = S ∧ rr = some (.int (bcv (tsF v r d room day kp))))) 13 [some (.ref 8), some (.int sc), some (.int kl), some (.int day), some (.int room), some (.int (tsF v r d room day i)), some (.int (nI i))] [] S (0, 0) := by
  intro m
  induction m with
  | zero =>
    intro i hm
    have e : i = kp := by omega
    subst e
    refine gg_iload dX5_teachersSeen_13 rfl ?_
    refine gg_aload_n dX5_teachersSeen_15 rfl rfl ?_
    refine gf_X5_38 rfl dX5_teachersSeen_16 hV.1 rfl ?_
    refine gg_icmp_ge (tgt := 76) dX5_teachersSeen_19 (by decide) (fun c19 => ?_) (fun c19 => ?_)
    · refine gg_iload dX5_teachersSeen_76 rfl ?_
      refine gg_callS (sp_J6_bitCount_0f7a4 S (tsF v r d room day i)) dX5_teachersSeen_78 kw_X5_46 rfl rfl (Nat.le_of_ble_eq_true rfl) (Nat.le_of_ble_eq_true rfl) (Nat.le_of_ble_eq_true rfl) ⟨(Nat.le_of_ble_eq_true rfl), (Nat.le_of_ble_eq_true rfl)⟩ (fun r S1 hq => ?_)
      refine gg_k (k2 := (0, 0)) rfl ?_
      obtain ⟨e9, rfl⟩ := hq
      rw [e9]
      clear e9 S1
      exact gg_ireturn dX5_teachersSeen_81 rfl rfl ⟨(Nat.le_of_ble_eq_true rfl), (Nat.le_of_ble_eq_true rfl)⟩ (⟨rfl, rfl⟩)
    · exact absurd (nI_le (Nat.le_refl i) (by omega)) c19
  | succ m ih =>
    intro i hm
    have hi : i < 400 := by omega
    refine gg_iload dX5_teachersSeen_13 rfl ?_
    refine gg_aload_n dX5_teachersSeen_15 rfl rfl ?_
    refine gf_X5_38 rfl dX5_teachersSeen_16 hV.1 rfl ?_
    refine gg_icmp_ge (tgt := 76) dX5_teachersSeen_19 (by decide) (fun c19 => ?_) (fun c19 => ?_)
    · exact absurd (n_le c19) (by omega)
    · refine gg_iload dX5_teachersSeen_22 rfl ?_
      refine gg_sipush (v := 400) dX5_teachersSeen_24 (by decide) ?_
      refine gg_icmp_ge (tgt := 76) dX5_teachersSeen_27 (by decide) (fun c27 => ?_) (fun c27 => ?_)
      · exact absurd (n_le (a := 400) c27) (by omega)
      · refine gg_aload_n dX5_teachersSeen_30 rfl rfl ?_
        refine gf_X5_15 rfl dX5_teachersSeen_31 hV.1 rfl ?_
        refine gg_iload dX5_teachersSeen_34 rfl ?_
        refine gg_ald_b (i) dX5_teachersSeen_36 hV.2.2.1 rfl hi (by decide) ?_
        refine gg_iload dX5_teachersSeen_37 rfl ?_
        refine gg_icmp_ne (tgt := 70) dX5_teachersSeen_39 (by decide) (fun c39 => ?_) (fun c39 => ?_)
        · have e : tsF v r d room day (i + 1) = tsF v r d room day i := if_neg (fun z => c39 z.1)
          refine gg_iinc (w := nI (i + 1)) dX5_teachersSeen_70 rfl (nI_1 i) (Nat.le_of_ble_eq_true rfl) rfl ?_
          refine gg_goto (tgt := 13) dX5_teachersSeen_73 (by decide) ?_
          have h9 := ih (i + 1) (by omega)
          rw [e] at h9
          exact h9
        · refine gg_iload_n dX5_teachersSeen_42 rfl rfl ?_
          refine gg_aload_n dX5_teachersSeen_43 rfl rfl ?_
          refine gf_X5_18 rfl dX5_teachersSeen_44 hV.1 rfl ?_
          refine gg_iload dX5_teachersSeen_47 rfl ?_
          refine gg_ald_s (i) dX5_teachersSeen_49 hV.2.2.2 rfl hi (by decide) ?_
          refine gg_isub dX5_teachersSeen_50 ?_
          refine gg_bipush (v := 30) dX5_teachersSeen_51 (by decide) ?_
          refine gg_icmp_gt (tgt := 70) dX5_teachersSeen_53 (by decide) (fun c53 => ?_) (fun c53 => ?_)
          · have e : tsF v r d room day (i + 1) = tsF v r d room day i := if_neg (fun z => Int32.not_le.mpr c53 z.2)
            refine gg_iinc (w := nI (i + 1)) dX5_teachersSeen_70 rfl (nI_1 i) (Nat.le_of_ble_eq_true rfl) rfl ?_
            refine gg_goto (tgt := 13) dX5_teachersSeen_73 (by decide) ?_
            have h9 := ih (i + 1) (by omega)
            rw [e] at h9
            exact h9
          · have e : tsF v r d room day (i + 1) = tsF v r d room day i ||| ((1 : Int32) <<< (v i &&& 31)) := if_pos ⟨c39, Int32.not_lt.mp c53⟩
            refine gg_iload dX5_teachersSeen_56 rfl ?_
            refine gg_iconst (v := 1) dX5_teachersSeen_58 (by decide) ?_
            refine gg_aload_n dX5_teachersSeen_59 rfl rfl ?_
            refine gf_X5_11 rfl dX5_teachersSeen_60 hV.1 rfl ?_
            refine gg_iload dX5_teachersSeen_63 rfl ?_
            refine gg_ald_b (i) dX5_teachersSeen_65 hV.2.1 rfl hi (by decide) ?_
            refine gg_ishl dX5_teachersSeen_66 ?_
            refine gg_ior dX5_teachersSeen_67 ?_
            refine gg_istore dX5_teachersSeen_68 (Nat.le_of_ble_eq_true rfl) rfl ?_
            refine gg_iinc (w := nI (i + 1)) dX5_teachersSeen_70 rfl (nI_1 i) (Nat.le_of_ble_eq_true rfl) rfl ?_
            refine gg_goto (tgt := 13) dX5_teachersSeen_73 (by decide) ?_
            have h9 := ih (i + 1) (by omega)
            rw [e] at h9
            exact h9
theorem sp_X5_teachersSeen {S : gl_H} {v r d : Nat → Int32} {nx kp : Nat} (hV : PV S v r d nx kp) (hkp : kp ≤ 400) (sc kl day : Int32) : Sp mX5_teachersSeen yX5_teachersSeen [.ref 8, .int sc, .int kl, .int day] S (fun rr S1 => S1 = S ∧ rr = some (.int (bcv (tsF v r d (16 * sc + kl) day kp)))) := by
  refine gl_enter (j := 3) (by decide +kernel) rfl (fun h => absurd h (by decide)) (Nat.le_of_ble_eq_true rfl) rfl (fun x => ?_)
  refine gg_iload_n dX5_teachersSeen_0 rfl rfl ?_
  refine gg_iload_n dX5_teachersSeen_1 rfl rfl ?_
  refine gg_callS (sp_X5_roomOf S sc kl) dX5_teachersSeen_2 kw_X5_34 rfl rfl (Nat.le_of_ble_eq_true rfl) (Nat.le_of_ble_eq_true rfl) (Nat.le_of_ble_eq_true rfl) ⟨(Nat.le_of_ble_eq_true rfl), (Nat.le_of_ble_eq_true rfl)⟩ (fun r S1 hq => ?_)
  refine gg_k (k2 := (0, 0)) rfl ?_
  obtain ⟨e9, rfl⟩ := hq
  rw [e9]
  clear e9 S1
  refine gg_istore dX5_teachersSeen_5 (Nat.le_of_ble_eq_true rfl) rfl ?_
  refine gg_iconst (v := 0) dX5_teachersSeen_7 (by decide) ?_
  refine gg_istore dX5_teachersSeen_8 (Nat.le_of_ble_eq_true rfl) rfl ?_
  refine gg_iconst (v := 0) dX5_teachersSeen_10 (by decide) ?_
  refine gg_istore dX5_teachersSeen_11 (Nat.le_of_ble_eq_true rfl) rfl ?_
  exact ts_loop hV hkp x kp 0 (by omega)
