/-! THE STATE, and the desk's picture of it -/
/-- (teachers, gaps, the day, gaps ever), the teachers' fields (0 subjects 1 ages 2 check 3 liked 4 barred 5 state 6 gap 7 missed 8 worked), their minutes, their pay, the gaps' fields, the rules, the tape, the visits (who, where, when, how many) -/
abbrev DS : Type := (Nat × Nat × Nat × Nat) × (Nat → Nat → Int32) × (Nat → Nat → Int32) × (Nat → Int64) × (Nat → Nat → Nat) × (Nat → Int32) × ((Nat → Int32) × Nat) × ((Nat → Int32) × (Nat → Int32) × (Nat → Int32) × Nat)
abbrev zT (s : DS) : Nat := s.1.1
abbrev zG (s : DS) : Nat := s.1.2.1
abbrev zD (s : DS) : Nat := s.1.2.2.1
abbrev zN (s : DS) : Nat := s.1.2.2.2
abbrev zf (s : DS) : Nat → Nat → Int32 := s.2.1
abbrev zm (s : DS) : Nat → Nat → Int32 := s.2.2.1
abbrev zp (s : DS) : Nat → Int64 := s.2.2.2.1
abbrev zg (s : DS) : Nat → Nat → Nat := s.2.2.2.2.1
abbrev zr (s : DS) : Nat → Int32 := s.2.2.2.2.2.1
abbrev zb (s : DS) : Nat → Int32 := s.2.2.2.2.2.2.1.1
abbrev zn (s : DS) : Nat := s.2.2.2.2.2.2.1.2
abbrev zv (s : DS) : (Nat → Int32) × (Nat → Int32) × (Nat → Int32) × Nat := s.2.2.2.2.2.2.2
def vK (n : Nat) : Nat := if n < 400 then n else 400
/-- the match's cells, whatever they hold -/
def PMx (S : gl_H) : Prop := ∃ (og tk : Int32) (w : Nat → Nat → Int64) (tks : Nat → Int32) (a : Nat → Nat) (tl : Nat → Int64) (par : Nat → Option Nat), PM S og tk w tks (fun i => nI (a i)) tl (fun i => oI (par i)) ∧ (∀ i, a i ≤ 12) ∧ ∀ i h, par i = some h → i < 10 ∧ h < 10
def PBx (S : gl_H) (ru : Nat → Int32) : Prop := ∃ num dr pl, (∀ j, j < 7 → num j = ru j) ∧ PB S num dr pl
def PVx (S : gl_H) (v : (Nat → Int32) × (Nat → Int32) × (Nat → Int32) × Nat) : Prop := ∃ nx, nx ≤ 400 ∧ rgS nx = v.2.2.2 % 400 ∧ PV S v.1 v.2.1 v.2.2.1 nx (vK v.2.2.2)
def PDx (S : gl_H) (s : DS) : Prop := ∃ gp, PD S (zT s) (zG s) (zD s) (zN s) gp (zf s) (zm s) (zp s) (zg s)
def DP (S : gl_H) (s : DS) : Prop := PDx S s ∧ PT S (zb s) (zn s) ∧ PBx S (zr s) ∧ PVx S (zv s) ∧ PMx S
/-- what always holds of a state -/
def DW (s : DS) : Prop := zT s ≤ 12 ∧ zG s ≤ 10 ∧ zD s ≤ 2000 ∧ gnOk (zG s) (zg s) ∧ zn s ≤ 60
/-- the model's places stay -/
def FrD (S S1 : gl_H) : Prop := ∀ q, 70 ≤ q → q < 100 → S1 q = S q
theorem Fr.D {lo hi : Nat} {S S1 : gl_H} (h : Fr lo hi S S1) (hh : hi ≤ 70) : FrD S S1 := fun q h1 h2 => h q (by omega)
theorem FrD.rf {S : gl_H} : FrD S S := fun _ _ _ => rfl
theorem FrD.tr {S S1 S2 : gl_H} (h : FrD S S1) (h2 : FrD S1 S2) : FrD S S2 := fun q a b => (h2 q a b).trans (h q a b)
def fdB (s : DS) (a b c d e : Int32) : Nat → Int32 := ap4 (ap4 (ap4 (ap4 (ap4 (zb s) (zn s) a) (zn s + 4) b) (zn s + 4 + 4) c) (zn s + 4 + 4 + 4) d) (zn s + 4 + 4 + 4 + 4) e
def setTape (s : DS) (b : Nat → Int32) (n : Nat) : DS := (s.1, s.2.1, s.2.2.1, s.2.2.2.1, s.2.2.2.2.1, s.2.2.2.2.2.1, (b, n), s.2.2.2.2.2.2.2)
def feA (s : DS) : Int32 := if zn s ≤ 40 then nI (zn s + 20) else -1
def feN (s : DS) (a b c d e : Int32) : DS := if zn s ≤ 40 then setTape s (fdB s a b c d e) (zn s + 20) else s
theorem PDx.fr {S S1 : gl_H} {s : DS} (hw : zT s ≤ 12) (h : PDx S s) {lo hi : Nat} (hf : Fr lo hi S S1) (h1 : 3 ≤ lo) (h2 : hi ≤ 40) : PDx S1 s := by
  obtain ⟨gp, h⟩ := h
  exact ⟨gp, h.keep hw (hf.pd h1 h2)⟩
theorem PBx.fr {S S1 : gl_H} {ru : Nat → Int32} (h : PBx S ru) {lo hi : Nat} (hf : Fr lo hi S S1) (h1 : hi ≤ 5 ∨ 8 ≤ lo) : PBx S1 ru := by
  obtain ⟨num, dr, pl, h0, h⟩ := h
  exact ⟨num, dr, pl, h0, h.fr hf h1⟩
theorem PVx.fr {S S1 : gl_H} {v : (Nat → Int32) × (Nat → Int32) × (Nat → Int32) × Nat} (h : PVx S v) {lo hi : Nat} (hf : Fr lo hi S S1) (h1 : hi ≤ 8 ∨ 12 ≤ lo) : PVx S1 v := by
  obtain ⟨nx, h0, h2, h⟩ := h
  exact ⟨nx, h0, h2, h.fr hf h1⟩
theorem PMx.fr {S S1 : gl_H} (h : PMx S) {lo hi : Nat} (hf : Fr lo hi S S1) (h1 : hi ≤ 12 ∨ 30 ≤ lo) : PMx S1 := by
  obtain ⟨og, tk, w, tks, a, tl, par, h, h2⟩ := h
  exact ⟨og, tk, w, tks, a, tl, par, h.fr hf h1, h2⟩
theorem sp_X6_feed {S : gl_H} {s : DS} (h : DP S s) (hW : DW s) (a b c d e : Int32) : Sp mX6_feed yX6_feed [.ref 0, .int a, .int b, .int c, .int d, .int e] S (fun r S1 => r = some (.int (feA s)) ∧ DP S1 (feN s a b c d e) ∧ FrD S S1) := by
  refine gl_enter (j := 0) (by decide +kernel) rfl (fun h => absurd h (by decide)) (Nat.le_of_ble_eq_true rfl) rfl (fun x => ?_)
  obtain ⟨⟨gp, hD0⟩, hT, hBx, hVx, hMx⟩ := h
  have hD := hD0
  have hf : Fr 3 5 S S := Fr.rf
  by_cases c40 : zn s ≤ 40
  · rw [show feA s = nI (zn s + 20) from if_pos c40, show feN s a b c d e = setTape s (fdB s a b c d e) (zn s + 20) from if_pos c40]
    refine gg_aload_n dX6_feed_0 rfl rfl ?_
    refine gf_X6_10 rfl dX6_feed_1 hD.1 rfl ?_
    refine gg_callV (sp_X3_hasRoom hT hW.2.2.2.2) dX6_feed_4 kw_X6_49 rfl hT.1 rfl rfl (Nat.le_of_ble_eq_true rfl) (Nat.le_of_ble_eq_true rfl) (Nat.le_of_ble_eq_true rfl) ⟨(Nat.le_of_ble_eq_true rfl), (Nat.le_of_ble_eq_true rfl)⟩ (fun r S1 hq => ?_)
    refine gg_k (k2 := (0, 0)) rfl ?_
    obtain ⟨e9, rfl⟩ := hq
    rw [e9, decide_eq_true c40]
    clear e9 S1
    refine gg_if_ne (tgt := 12) dX6_feed_7 (by decide) (fun c7 => ?_) (fun c7 => ?_)
    · refine gg_aload_n dX6_feed_12 rfl rfl ?_
      refine gf_X6_10 rfl dX6_feed_13 hD.1 rfl ?_
      refine gg_iload_n dX6_feed_16 rfl rfl ?_
      refine gg_callV (sp_X3_append hT (by omega) a) dX6_feed_17 kw_X6_53 rfl hT.1 rfl rfl (Nat.le_of_ble_eq_true rfl) (Nat.le_of_ble_eq_true rfl) (Nat.le_of_ble_eq_true rfl) ⟨(Nat.le_of_ble_eq_true rfl), (Nat.le_of_ble_eq_true rfl)⟩ (fun r S1 hq => ?_)
      refine gg_k (k2 := (0, 0)) rfl ?_
      obtain ⟨rfl, hT, hf1⟩ := hq
      have hf := hf.tr hf1
      clear hf1
      revert S1
      intro S hT hf
      have hD := hD0.keep hW.1 (hf.pd (by decide) (by decide))
      refine gg_aload_n dX6_feed_20 rfl rfl ?_
      refine gf_X6_10 rfl dX6_feed_21 hD.1 rfl ?_
      refine gg_iload_n dX6_feed_24 rfl rfl ?_
      refine gg_callV (sp_X3_append hT (by omega) b) dX6_feed_25 kw_X6_53 rfl hT.1 rfl rfl (Nat.le_of_ble_eq_true rfl) (Nat.le_of_ble_eq_true rfl) (Nat.le_of_ble_eq_true rfl) ⟨(Nat.le_of_ble_eq_true rfl), (Nat.le_of_ble_eq_true rfl)⟩ (fun r S1 hq => ?_)
      refine gg_k (k2 := (0, 0)) rfl ?_
      obtain ⟨rfl, hT, hf1⟩ := hq
      have hf := hf.tr hf1
      clear hf1
      revert S1
      intro S hT hf
      have hD := hD0.keep hW.1 (hf.pd (by decide) (by decide))
      refine gg_aload_n dX6_feed_28 rfl rfl ?_
      refine gf_X6_10 rfl dX6_feed_29 hD.1 rfl ?_
      refine gg_iload_n dX6_feed_32 rfl rfl ?_
      refine gg_callV (sp_X3_append hT (by omega) c) dX6_feed_33 kw_X6_53 rfl hT.1 rfl rfl (Nat.le_of_ble_eq_true rfl) (Nat.le_of_ble_eq_true rfl) (Nat.le_of_ble_eq_true rfl) ⟨(Nat.le_of_ble_eq_true rfl), (Nat.le_of_ble_eq_true rfl)⟩ (fun r S1 hq => ?_)
      refine gg_k (k2 := (0, 0)) rfl ?_
      obtain ⟨rfl, hT, hf1⟩ := hq
      have hf := hf.tr hf1
      clear hf1
      revert S1
      intro S hT hf
      have hD := hD0.keep hW.1 (hf.pd (by decide) (by decide))
      refine gg_aload_n dX6_feed_36 rfl rfl ?_
      refine gf_X6_10 rfl dX6_feed_37 hD.1 rfl ?_
      refine gg_iload dX6_feed_40 rfl ?_
      refine gg_callV (sp_X3_append hT (by omega) d) dX6_feed_42 kw_X6_53 rfl hT.1 rfl rfl (Nat.le_of_ble_eq_true rfl) (Nat.le_of_ble_eq_true rfl) (Nat.le_of_ble_eq_true rfl) ⟨(Nat.le_of_ble_eq_true rfl), (Nat.le_of_ble_eq_true rfl)⟩ (fun r S1 hq => ?_)
      refine gg_k (k2 := (0, 0)) rfl ?_
      obtain ⟨rfl, hT, hf1⟩ := hq
      have hf := hf.tr hf1
      clear hf1
      revert S1
      intro S hT hf
      have hD := hD0.keep hW.1 (hf.pd (by decide) (by decide))
      refine gg_aload_n dX6_feed_45 rfl rfl ?_
      refine gf_X6_10 rfl dX6_feed_46 hD.1 rfl ?_
      refine gg_iload dX6_feed_49 rfl ?_
      refine gg_callV (sp_X3_append hT (by omega) e) dX6_feed_51 kw_X6_53 rfl hT.1 rfl rfl (Nat.le_of_ble_eq_true rfl) (Nat.le_of_ble_eq_true rfl) (Nat.le_of_ble_eq_true rfl) ⟨(Nat.le_of_ble_eq_true rfl), (Nat.le_of_ble_eq_true rfl)⟩ (fun r S1 hq => ?_)
      refine gg_k (k2 := (0, 0)) rfl ?_
      obtain ⟨rfl, hT, hf1⟩ := hq
      have hf := hf.tr hf1
      clear hf1
      revert S1
      intro S hT hf
      have hD := hD0.keep hW.1 (hf.pd (by decide) (by decide))
      refine gg_aload_n dX6_feed_54 rfl rfl ?_
      refine gf_X6_10 rfl dX6_feed_55 hD.1 rfl ?_
      refine gf_X6_57 rfl dX6_feed_58 hT.1 rfl ?_
      exact gg_ireturn dX6_feed_61 rfl rfl ⟨(Nat.le_of_ble_eq_true rfl), (Nat.le_of_ble_eq_true rfl)⟩ (⟨rfl, ⟨⟨gp, hD⟩, hT, hBx.fr hf (Or.inl (by decide)), hVx.fr hf (Or.inl (by decide)), hMx.fr hf (Or.inl (by decide))⟩, hf.D (by decide)⟩)
    · exact absurd c7 (by decide)
  · rw [show feA s = -1 from if_neg c40, show feN s a b c d e = s from if_neg c40]
    refine gg_aload_n dX6_feed_0 rfl rfl ?_
    refine gf_X6_10 rfl dX6_feed_1 hD.1 rfl ?_
    refine gg_callV (sp_X3_hasRoom hT hW.2.2.2.2) dX6_feed_4 kw_X6_49 rfl hT.1 rfl rfl (Nat.le_of_ble_eq_true rfl) (Nat.le_of_ble_eq_true rfl) (Nat.le_of_ble_eq_true rfl) ⟨(Nat.le_of_ble_eq_true rfl), (Nat.le_of_ble_eq_true rfl)⟩ (fun r S1 hq => ?_)
    refine gg_k (k2 := (0, 0)) rfl ?_
    obtain ⟨e9, rfl⟩ := hq
    rw [e9, decide_eq_false c40]
    clear e9 S1
    refine gg_if_ne (tgt := 12) dX6_feed_7 (by decide) (fun c7 => ?_) (fun c7 => ?_)
    · exact absurd rfl c7
    · refine gg_iconst (v := -1) dX6_feed_10 (by decide) ?_
      exact gg_ireturn dX6_feed_11 rfl rfl ⟨(Nat.le_of_ble_eq_true rfl), (Nat.le_of_ble_eq_true rfl)⟩ (⟨rfl, ⟨⟨gp, hD⟩, hT, hBx, hVx, hMx⟩, FrD.rf⟩)
theorem clR_cong {b : Nat → Int32} {n p : Nat} {d d' : Nat → Int32} (h : ∀ j, j < 7 → d j = d' j) : (clR b n p d).1 = (clR b n p d').1 ∧ (clR b n p d).2.1 = (clR b n p d').2.1 ∧ ∀ j, j < 7 → (clR b n p d).2.2 j = (clR b n p d').2.2 j := by
  unfold clR
  cases kdO (ccV b n p) with
  | none => exact ⟨rfl, rfl, h⟩
  | some k =>
    dsimp only
    unfold clQ
    have hu : ∀ (v : Int32) (j : Nat), j < 7 → upd d k v j = upd d' k v j := fun v j hj => by
      by_cases e : j = k
      · subst e; rw [pk_us, pk_us]
      · rw [pk_un e, pk_un e]; exact h j hj
    split
    · exact ⟨rfl, rfl, h⟩
    · split
      · exact ⟨rfl, rfl, h⟩
      · split
        · exact ⟨rfl, rfl, h⟩
        · split
          · exact ⟨rfl, rfl, hu _⟩
          · exact ⟨rfl, rfl, hu _⟩
theorem rdL_cong {b : Nat → Int32} {n : Nat} : ∀ (f p : Nat) {d d' : Nat → Int32}, (∀ j, j < 7 → d j = d' j) → (rdL b n f p d).1 = (rdL b n f p d').1 ∧ ∀ (u u' : Nat → Int32), (∀ j, j < 7 → u j = u' j) → ∀ j, j < 7 → ((rdL b n f p d).2.getD u) j = ((rdL b n f p d').2.getD u') j
  | 0, _, _, _, _ => ⟨rfl, fun _ _ hu => hu⟩
  | f + 1, p, d, d', h => by
    obtain ⟨h1, h2, h3⟩ := clR_cong (b := b) (n := n) (p := p) h
    unfold rdL
    rw [h1, h2]
    split
    · exact ⟨rfl, fun _ _ hu => hu⟩
    · split
      · exact ⟨rfl, fun _ _ _ => h3⟩
      · exact rdL_cong f _ h3
def rdA (b : Nat → Int32) (n : Nat) : Int32 × Option (Nat → Int32) := rdL b n (n + 1) 0 gl_AT
def setRu (s : DS) (r : Nat → Int32) : DS := (s.1, s.2.1, s.2.2.1, s.2.2.2.1, s.2.2.2.2.1, r, s.2.2.2.2.2.2.1, s.2.2.2.2.2.2.2)
def ruA (s : DS) (n : Int32) : Int32 := match tix (zn s + 1) n with
  | none => -1
  | some j => (rdA (zb s) j).1
def ruN (s : DS) (n : Int32) : DS := match tix (zn s + 1) n with
  | none => s
  | some j => setTape (setRu s ((rdA (zb s) j).2.getD (zr s))) (zb s) 0
theorem tix1 (n : Nat) (t : Int32) : (0 ≤ t ∧ t ≤ nI (n + 1) - 1) ↔ (0 ≤ t ∧ t ≤ nI n) := by rw [nI_pred]
theorem sp_X6_rules {S : gl_H} {s : DS} (h : DP S s) (hW : DW s) (n : Int32) : Sp mX6_rules yX6_rules [.ref 0, .int n] S (fun r S1 => r = some (.int (ruA s n)) ∧ DP S1 (ruN s n) ∧ FrD S S1) := by
  refine gl_enter (j := 1) (by decide +kernel) rfl (fun h => absurd h (by decide)) (Nat.le_of_ble_eq_true rfl) rfl (fun x => ?_)
  obtain ⟨⟨gp, hD0⟩, hT, ⟨num, dr, pl, hnum, hB⟩, hVx, hMx⟩ := h
  have hD := hD0
  have hzn := hW.2.2.2.2
  rcases tix_cases (n := zn s + 1) (by omega) n with ⟨e1, e2⟩ | ⟨j, hj, rfl, e1⟩
  · rw [tix1] at e2
    rw [show ruA s n = -1 by unfold ruA; rw [e1], show ruN s n = s by unfold ruN; rw [e1]]
    refine gg_iload_n dX6_rules_0 rfl rfl ?_
    refine gg_iconst (v := 0) dX6_rules_1 (by decide) ?_
    refine gg_aload_n dX6_rules_2 rfl rfl ?_
    refine gf_X6_10 rfl dX6_rules_3 hD.1 rfl ?_
    refine gf_X6_57 rfl dX6_rules_6 hT.1 rfl ?_
    refine gg_callS (sp_X6_within S n 0 (nI (zn s))) dX6_rules_9 kw_X6_61 rfl rfl (Nat.le_of_ble_eq_true rfl) (Nat.le_of_ble_eq_true rfl) (Nat.le_of_ble_eq_true rfl) ⟨(Nat.le_of_ble_eq_true rfl), (Nat.le_of_ble_eq_true rfl)⟩ (fun r S1 hq => ?_)
    refine gg_k (k2 := (0, 0)) rfl ?_
    obtain ⟨e9, rfl⟩ := hq
    rw [e9, if_neg e2]
    clear e9 S1
    refine gg_if_ne (tgt := 17) dX6_rules_12 (by decide) (fun c12 => ?_) (fun c12 => ?_)
    · exact absurd rfl c12
    · refine gg_iconst (v := -1) dX6_rules_15 (by decide) ?_
      exact gg_ireturn dX6_rules_16 rfl rfl ⟨(Nat.le_of_ble_eq_true rfl), (Nat.le_of_ble_eq_true rfl)⟩ (⟨rfl, ⟨⟨gp, hD⟩, hT, ⟨num, dr, pl, hnum, hB⟩, hVx, hMx⟩, FrD.rf⟩)
  · have e2 := (tix1 _ _).mp (tix_in (n := zn s + 1) (by omega) hj)
    rw [show ruA s (nI j) = (rdA (zb s) j).1 by unfold ruA; rw [e1], show ruN s (nI j) = setTape (setRu s ((rdA (zb s) j).2.getD (zr s))) (zb s) 0 by unfold ruN; rw [e1]]
    refine gg_iload_n dX6_rules_0 rfl rfl ?_
    refine gg_iconst (v := 0) dX6_rules_1 (by decide) ?_
    refine gg_aload_n dX6_rules_2 rfl rfl ?_
    refine gf_X6_10 rfl dX6_rules_3 hD.1 rfl ?_
    refine gf_X6_57 rfl dX6_rules_6 hT.1 rfl ?_
    refine gg_callS (sp_X6_within S (nI j) 0 (nI (zn s))) dX6_rules_9 kw_X6_61 rfl rfl (Nat.le_of_ble_eq_true rfl) (Nat.le_of_ble_eq_true rfl) (Nat.le_of_ble_eq_true rfl) ⟨(Nat.le_of_ble_eq_true rfl), (Nat.le_of_ble_eq_true rfl)⟩ (fun r S1 hq => ?_)
    refine gg_k (k2 := (0, 0)) rfl ?_
    obtain ⟨e9, rfl⟩ := hq
    rw [e9, if_pos e2]
    clear e9 S1
    refine gg_if_ne (tgt := 17) dX6_rules_12 (by decide) (fun c12 => ?_) (fun c12 => ?_)
    · refine gg_aload_n dX6_rules_17 rfl rfl ?_
      refine gf_X6_19 rfl dX6_rules_18 hD.1 rfl ?_
      refine gg_aload_n dX6_rules_21 rfl rfl ?_
      refine gf_X6_10 rfl dX6_rules_22 hD.1 rfl ?_
      refine gg_iload_n dX6_rules_25 rfl rfl ?_
      refine gg_callV (sp_X2_read hT hB (show j ≤ 60 by omega)) dX6_rules_26 kw_X6_65 rfl hB.1 rfl rfl (Nat.le_of_ble_eq_true rfl) (Nat.le_of_ble_eq_true rfl) (Nat.le_of_ble_eq_true rfl) ⟨(Nat.le_of_ble_eq_true rfl), (Nat.le_of_ble_eq_true rfl)⟩ (fun r S1 hq => ?_)
      refine gg_k (k2 := (0, 0)) rfl ?_
      obtain ⟨d0, hd0, rfl, ⟨num1, dr1, pl1, hn1, hB1⟩, hf⟩ := hq
      have hc := rdL_cong (b := zb s) (n := j) (j + 1) 0 hd0
      rw [hc.1]
      have hT := hT.fr hf
      have hD := hD0.keep hW.1 (hf.pd (by decide) (by decide))
      refine gg_istore_n dX6_rules_29 rfl (Nat.le_of_ble_eq_true rfl) rfl ?_
      refine gg_aload_n dX6_rules_30 rfl rfl ?_
      refine gf_X6_10 rfl dX6_rules_31 hD.1 rfl ?_
      refine gg_iconst (v := 0) dX6_rules_34 (by decide) ?_
      refine pf_X6_57 rfl dX6_rules_35 hT.1 (Nat.le_of_ble_eq_true rfl) ?_
      refine PTs_n (S0 := S1) 0 rfl hT Fr.rf (fun S2 hT hf2 => ?_)
      refine gg_iload_n dX6_rules_38 rfl rfl ?_
      exact gg_ireturn dX6_rules_39 rfl rfl ⟨(Nat.le_of_ble_eq_true rfl), (Nat.le_of_ble_eq_true rfl)⟩ (⟨rfl, ⟨⟨gp, hD.keep hW.1 (hf2.pd (by decide) (by decide))⟩, hT, ⟨num1, dr1, pl1, fun i hi => (hn1 i hi).trans (hc.2 _ _ hnum i hi), hB1.fr hf2 (Or.inl (by decide))⟩, (hVx.fr hf (Or.inl (by decide))).fr hf2 (Or.inl (by decide)), (hMx.fr hf (Or.inl (by decide))).fr hf2 (Or.inl (by decide))⟩, (hf.D (by decide)).tr (hf2.D (by decide))⟩)
    · exact absurd c12 (by decide)
def up2 {α : Type} (f : Nat → α) (t : Nat) (v : α) : Nat → α := fun i => if i = t then v else f i
theorem up2_s {α : Type} (f : Nat → α) (t : Nat) (v : α) : up2 f t v t = v := if_pos rfl
theorem up2_n {α : Type} (f : Nat → α) {t i : Nat} (v : α) (h : i ≠ t) : up2 f t v i = f i := if_neg h
/-- one teacher's cells have changed -/
theorem PD.te {S S1 : gl_H} {tc gc day N : Nat} {gp : Nat → Option Nat} {tf mn : Nat → Nat → Int32} {pd : Nat → Int64} {gn : Nat → Nat → Nat} (htc : tc ≤ 12) (h : PD S tc gc day N gp tf mn pd gn) {t : Nat} (ht : t < tc) (hf : Fr (40 + 2 * t) (40 + 2 * t + 2) S S1) {f' mn' : Nat → Int32} {pd' : Int64} (hE : PE S1 (40 + 2 * t) f' mn' pd') : PD S1 tc gc day N gp (up2 tf t f') (up2 mn t mn') (up2 pd t pd') gn :=
  ⟨(hf 0 (by omega)).trans h.1, (hf 1 (by omega)).trans h.2.1, (hf 2 (by omega)).trans h.2.2.1, fun i hi => by
    by_cases e : i = t
    · subst e
      rw [up2_s, up2_s, up2_s]
      exact hE
    · rw [up2_n tf f' e, up2_n mn mn' e, up2_n pd pd' e]
      exact (h.2.2.2.1 i hi).keep (hf _ (by omega)) (hf _ (by omega)), fun g hg => by
    obtain ⟨q, h1, h2, h3, h4⟩ := h.2.2.2.2.1 g hg
    exact ⟨q, h1, h2, h3, (hf q (by omega)).trans h4⟩, fun i h1 h2 => ⟨(hf _ (by omega)).trans (h.2.2.2.2.2.1 i h1 h2).1, (hf _ (by omega)).trans (h.2.2.2.2.2.1 i h1 h2).2⟩, fun q h1 => (hf q (by omega)).trans (h.2.2.2.2.2.2 q h1)⟩
def setTe (s : DS) (tf mn : Nat → Nat → Int32) (pd : Nat → Int64) : DS := (s.1, tf, mn, pd, s.2.2.2.2.1, s.2.2.2.2.2.1, s.2.2.2.2.2.2.1, s.2.2.2.2.2.2.2)
theorem DP.te {S S1 : gl_H} {s : DS} (h : DP S s) (hW : DW s) {t : Nat} (ht : t < zT s) (hf : Fr (40 + 2 * t) (40 + 2 * t + 2) S S1) {f' mn' : Nat → Int32} {pd' : Int64} (hE : PE S1 (40 + 2 * t) f' mn' pd') : DP S1 (setTe s (up2 (zf s) t f') (up2 (zm s) t mn') (up2 (zp s) t pd')) := by
  obtain ⟨⟨gp, hD⟩, hT, hBx, hVx, hMx⟩ := h
  exact ⟨⟨gp, hD.te hW.1 ht hf hE⟩, hT.fr2 hf (Or.inr (by omega)), hBx.fr hf (Or.inr (by omega)), hVx.fr hf (Or.inr (by omega)), hMx.fr hf (Or.inr (by omega))⟩
theorem up2_id {α : Type} (f : Nat → α) (t : Nat) : up2 f t (f t) = f := funext (fun i => by
  unfold up2
  by_cases e : i = t
  · rw [if_pos e, e]
  · rw [if_neg e])
def waN (s : DS) (t k m : Int32) : Option DS := match tix (zT s) t, tix 6 k with
  | some i, some j => if 0 ≤ m ∧ m ≤ 200 then some (setTe s (zf s) (up2 (zm s) i (upd (zm s i) j m)) (zp s)) else none
  | _, _ => none
def liN (s : DS) (t a b : Int32) : Option DS := match tix (zT s) t with
  | some i => if (0 ≤ a ∧ a ≤ 63) ∧ (0 ≤ b ∧ b ≤ 63) then some (setTe s (up2 (zf s) i (upd (upd (zf s i) 3 a) 4 b)) (zm s) (zp s)) else none
  | none => none
def opA (o : Option DS) : Int32 := match o with
  | none => 0
  | some _ => 1
theorem sp_X6_way {S : gl_H} {s : DS} (h : DP S s) (hW : DW s) (t9 k9 m : Int32) : Sp mX6_way yX6_way [.ref 0, .int t9, .int k9, .int m] S (fun r S1 => r = some (.int (opA (waN s t9 k9 m))) ∧ DP S1 ((waN s t9 k9 m).getD s) ∧ FrD S S1) := by
  refine gl_enter (j := 1) (by decide +kernel) rfl (fun h => absurd h (by decide)) (Nat.le_of_ble_eq_true rfl) rfl (fun x => ?_)
  have h0 := h
  obtain ⟨⟨gp, hD⟩, hT, hBx, hVx, hMx⟩ := h
  have htc := hW.1
  rcases tix_cases (n := zT s) (by omega) t9 with ⟨e1, e2⟩ | ⟨t, ht, rfl, e1⟩
  · rw [show waN s t9 k9 m = none by unfold waN; rw [e1]]
    refine gg_aload_n dX6_way_0 rfl rfl ?_
    refine gg_iload_n dX6_way_1 rfl rfl ?_
    refine gg_callV (sp_X6_teacherAt_n hD e2) dX6_way_2 kw_X6_75 rfl hD.1 rfl rfl (Nat.le_of_ble_eq_true rfl) (Nat.le_of_ble_eq_true rfl) (Nat.le_of_ble_eq_true rfl) ⟨(Nat.le_of_ble_eq_true rfl), (Nat.le_of_ble_eq_true rfl)⟩ (fun r S1 hq => ?_)
    refine gg_k (k2 := (0, 0)) rfl ?_
    obtain ⟨e9, rfl⟩ := hq
    rw [e9]
    clear e9 S1
    refine gg_astoreN dX6_way_5 (Nat.le_of_ble_eq_true rfl) rfl ?_
    refine gg_aloadN dX6_way_7 rfl ?_
    refine gg_ifnullN (tgt := 30) dX6_way_9 (by decide) ?_
    refine gg_iconst (v := 0) dX6_way_30 (by decide) ?_
    exact gg_ireturn dX6_way_31 rfl rfl ⟨(Nat.le_of_ble_eq_true rfl), (Nat.le_of_ble_eq_true rfl)⟩ (⟨rfl, ⟨⟨gp, hD⟩, hT, hBx, hVx, hMx⟩, FrD.rf⟩)
  · rcases tix_cases (n := 6) (by omega) k9 with ⟨e3, e4⟩ | ⟨k, hk, rfl, e3⟩
    · have e4 : ¬ (0 ≤ k9 ∧ k9 ≤ 5) := e4
      rw [show waN s (nI t) k9 m = none by unfold waN; rw [e1, e3]]
      refine gg_aload_n dX6_way_0 rfl rfl ?_
      refine gg_iload_n dX6_way_1 rfl rfl ?_
      refine gg_callV (sp_X6_teacherAt_y hD hW.1 ht) dX6_way_2 kw_X6_75 rfl hD.1 rfl rfl (Nat.le_of_ble_eq_true rfl) (Nat.le_of_ble_eq_true rfl) (Nat.le_of_ble_eq_true rfl) ⟨(Nat.le_of_ble_eq_true rfl), (Nat.le_of_ble_eq_true rfl)⟩ (fun r S1 hq => ?_)
      refine gg_k (k2 := (0, 0)) rfl ?_
      obtain ⟨e9, rfl⟩ := hq
      rw [e9]
      clear e9 S1
      refine gg_astore dX6_way_5 (Nat.le_of_ble_eq_true rfl) rfl ?_
      refine gg_aload dX6_way_7 rfl ?_
      refine gg_ifnull dX6_way_9 ?_
      refine gg_iload_n dX6_way_12 rfl rfl ?_
      refine gg_callS (sp_X6_isSchool S k9) dX6_way_13 kw_X6_79 rfl rfl (Nat.le_of_ble_eq_true rfl) (Nat.le_of_ble_eq_true rfl) (Nat.le_of_ble_eq_true rfl) ⟨(Nat.le_of_ble_eq_true rfl), (Nat.le_of_ble_eq_true rfl)⟩ (fun r S1 hq => ?_)
      refine gg_k (k2 := (0, 0)) rfl ?_
      obtain ⟨e9, rfl⟩ := hq
      rw [e9, if_neg e4]
      clear e9 S1
      refine gg_if_eq (tgt := 30) dX6_way_16 (by decide) (fun c16 => ?_) (fun c16 => ?_)
      · refine gg_iconst (v := 0) dX6_way_30 (by decide) ?_
        exact gg_ireturn dX6_way_31 rfl rfl ⟨(Nat.le_of_ble_eq_true rfl), (Nat.le_of_ble_eq_true rfl)⟩ (⟨rfl, ⟨⟨gp, hD⟩, hT, hBx, hVx, hMx⟩, FrD.rf⟩)
      · exact absurd rfl c16
    · have e4 : (0 : Int32) ≤ nI k ∧ nI k ≤ 5 := tix_in (n := 6) (by omega) hk
      by_cases c2 : 0 ≤ m ∧ m ≤ 200
      · rw [show waN s (nI t) (nI k) m = some (setTe s (zf s) (up2 (zm s) t (upd (zm s t) k m)) (zp s)) by unfold waN; rw [e1, e3]; exact if_pos c2]
        refine gg_aload_n dX6_way_0 rfl rfl ?_
        refine gg_iload_n dX6_way_1 rfl rfl ?_
        refine gg_callV (sp_X6_teacherAt_y hD hW.1 ht) dX6_way_2 kw_X6_75 rfl hD.1 rfl rfl (Nat.le_of_ble_eq_true rfl) (Nat.le_of_ble_eq_true rfl) (Nat.le_of_ble_eq_true rfl) ⟨(Nat.le_of_ble_eq_true rfl), (Nat.le_of_ble_eq_true rfl)⟩ (fun r S1 hq => ?_)
        refine gg_k (k2 := (0, 0)) rfl ?_
        obtain ⟨e9, rfl⟩ := hq
        rw [e9]
        clear e9 S1
        refine gg_astore dX6_way_5 (Nat.le_of_ble_eq_true rfl) rfl ?_
        refine gg_aload dX6_way_7 rfl ?_
        refine gg_ifnull dX6_way_9 ?_
        refine gg_iload_n dX6_way_12 rfl rfl ?_
        refine gg_callS (sp_X6_isSchool S (nI k)) dX6_way_13 kw_X6_79 rfl rfl (Nat.le_of_ble_eq_true rfl) (Nat.le_of_ble_eq_true rfl) (Nat.le_of_ble_eq_true rfl) ⟨(Nat.le_of_ble_eq_true rfl), (Nat.le_of_ble_eq_true rfl)⟩ (fun r S1 hq => ?_)
        refine gg_k (k2 := (0, 0)) rfl ?_
        obtain ⟨e9, rfl⟩ := hq
        rw [e9, if_pos e4]
        clear e9 S1
        refine gg_if_eq (tgt := 30) dX6_way_16 (by decide) (fun c16 => ?_) (fun c16 => ?_)
        · exact absurd c16 (by decide)
        · refine gg_iload_n dX6_way_19 rfl rfl ?_
          refine gg_iconst (v := 0) dX6_way_20 (by decide) ?_
          refine gg_sipush (v := 200) dX6_way_21 (by decide) ?_
          refine gg_callS (sp_X6_within S m 0 200) dX6_way_24 kw_X6_61 rfl rfl (Nat.le_of_ble_eq_true rfl) (Nat.le_of_ble_eq_true rfl) (Nat.le_of_ble_eq_true rfl) ⟨(Nat.le_of_ble_eq_true rfl), (Nat.le_of_ble_eq_true rfl)⟩ (fun r S1 hq => ?_)
          refine gg_k (k2 := (0, 0)) rfl ?_
          obtain ⟨e9, rfl⟩ := hq
          rw [e9, if_pos c2]
          clear e9 S1
          refine gg_if_ne (tgt := 32) dX6_way_27 (by decide) (fun c27 => ?_) (fun c27 => ?_)
          · refine gg_aload dX6_way_32 rfl ?_
            refine gf_X6_83 rfl dX6_way_34 (hD.2.2.2.1 t ht).1 rfl ?_
            refine gg_iload_n dX6_way_37 rfl rfl ?_
            refine gg_iload_n dX6_way_38 rfl rfl ?_
            refine gg_ast_i (k) dX6_way_39 (hD.2.2.2.1 t ht).2 rfl hk (by decide) ?_
            refine PEs_mn (S0 := S) (hD.2.2.2.1 t ht) Fr.rf (fun S1 hE hf => ?_)
            have hN := h0.te hW ht hf hE
            rw [up2_id, up2_id] at hN
            refine gg_iconst (v := 1) dX6_way_40 (by decide) ?_
            exact gg_ireturn dX6_way_41 rfl rfl ⟨(Nat.le_of_ble_eq_true rfl), (Nat.le_of_ble_eq_true rfl)⟩ (⟨rfl, hN, hf.D (by omega)⟩)
          · exact absurd c27 (by decide)
      · rw [show waN s (nI t) (nI k) m = none by unfold waN; rw [e1, e3]; exact if_neg c2]
        refine gg_aload_n dX6_way_0 rfl rfl ?_
        refine gg_iload_n dX6_way_1 rfl rfl ?_
        refine gg_callV (sp_X6_teacherAt_y hD hW.1 ht) dX6_way_2 kw_X6_75 rfl hD.1 rfl rfl (Nat.le_of_ble_eq_true rfl) (Nat.le_of_ble_eq_true rfl) (Nat.le_of_ble_eq_true rfl) ⟨(Nat.le_of_ble_eq_true rfl), (Nat.le_of_ble_eq_true rfl)⟩ (fun r S1 hq => ?_)
        refine gg_k (k2 := (0, 0)) rfl ?_
        obtain ⟨e9, rfl⟩ := hq
        rw [e9]
        clear e9 S1
        refine gg_astore dX6_way_5 (Nat.le_of_ble_eq_true rfl) rfl ?_
        refine gg_aload dX6_way_7 rfl ?_
        refine gg_ifnull dX6_way_9 ?_
        refine gg_iload_n dX6_way_12 rfl rfl ?_
        refine gg_callS (sp_X6_isSchool S (nI k)) dX6_way_13 kw_X6_79 rfl rfl (Nat.le_of_ble_eq_true rfl) (Nat.le_of_ble_eq_true rfl) (Nat.le_of_ble_eq_true rfl) ⟨(Nat.le_of_ble_eq_true rfl), (Nat.le_of_ble_eq_true rfl)⟩ (fun r S1 hq => ?_)
        refine gg_k (k2 := (0, 0)) rfl ?_
        obtain ⟨e9, rfl⟩ := hq
        rw [e9, if_pos e4]
        clear e9 S1
        refine gg_if_eq (tgt := 30) dX6_way_16 (by decide) (fun c16 => ?_) (fun c16 => ?_)
        · exact absurd c16 (by decide)
        · refine gg_iload_n dX6_way_19 rfl rfl ?_
          refine gg_iconst (v := 0) dX6_way_20 (by decide) ?_
          refine gg_sipush (v := 200) dX6_way_21 (by decide) ?_
          refine gg_callS (sp_X6_within S m 0 200) dX6_way_24 kw_X6_61 rfl rfl (Nat.le_of_ble_eq_true rfl) (Nat.le_of_ble_eq_true rfl) (Nat.le_of_ble_eq_true rfl) ⟨(Nat.le_of_ble_eq_true rfl), (Nat.le_of_ble_eq_true rfl)⟩ (fun r S1 hq => ?_)
          refine gg_k (k2 := (0, 0)) rfl ?_
          obtain ⟨e9, rfl⟩ := hq
          rw [e9, if_neg c2]
          clear e9 S1
          refine gg_if_ne (tgt := 32) dX6_way_27 (by decide) (fun c27 => ?_) (fun c27 => ?_)
          · exact absurd rfl c27
          · refine gg_iconst (v := 0) dX6_way_30 (by decide) ?_
            exact gg_ireturn dX6_way_31 rfl rfl ⟨(Nat.le_of_ble_eq_true rfl), (Nat.le_of_ble_eq_true rfl)⟩ (⟨rfl, ⟨⟨gp, hD⟩, hT, hBx, hVx, hMx⟩, FrD.rf⟩)
theorem sp_X6_likes {S : gl_H} {s : DS} (h : DP S s) (hW : DW s) (t9 a b : Int32) : Sp mX6_likes yX6_likes [.ref 0, .int t9, .int a, .int b] S (fun r S1 => r = some (.int (opA (liN s t9 a b))) ∧ DP S1 ((liN s t9 a b).getD s) ∧ FrD S S1) := by
  refine gl_enter (j := 1) (by decide +kernel) rfl (fun h => absurd h (by decide)) (Nat.le_of_ble_eq_true rfl) rfl (fun x => ?_)
  have h0 := h
  obtain ⟨⟨gp, hD⟩, hT, hBx, hVx, hMx⟩ := h
  have htc := hW.1
  rcases tix_cases (n := zT s) (by omega) t9 with ⟨e1, e2⟩ | ⟨t, ht, rfl, e1⟩
  · rw [show liN s t9 a b = none by unfold liN; rw [e1]]
    refine gg_aload_n dX6_likes_0 rfl rfl ?_
    refine gg_iload_n dX6_likes_1 rfl rfl ?_
    refine gg_callV (sp_X6_teacherAt_n hD e2) dX6_likes_2 kw_X6_75 rfl hD.1 rfl rfl (Nat.le_of_ble_eq_true rfl) (Nat.le_of_ble_eq_true rfl) (Nat.le_of_ble_eq_true rfl) ⟨(Nat.le_of_ble_eq_true rfl), (Nat.le_of_ble_eq_true rfl)⟩ (fun r S1 hq => ?_)
    refine gg_k (k2 := (0, 0)) rfl ?_
    obtain ⟨e9, rfl⟩ := hq
    rw [e9]
    clear e9 S1
    refine gg_astoreN dX6_likes_5 (Nat.le_of_ble_eq_true rfl) rfl ?_
    refine gg_aloadN dX6_likes_7 rfl ?_
    refine gg_ifnullN (tgt := 32) dX6_likes_9 (by decide) ?_
    refine gg_iconst (v := 0) dX6_likes_32 (by decide) ?_
    exact gg_ireturn dX6_likes_33 rfl rfl ⟨(Nat.le_of_ble_eq_true rfl), (Nat.le_of_ble_eq_true rfl)⟩ (⟨rfl, ⟨⟨gp, hD⟩, hT, hBx, hVx, hMx⟩, FrD.rf⟩)
  · by_cases ca : 0 ≤ a ∧ a ≤ 63
    · by_cases cb : 0 ≤ b ∧ b ≤ 63
      · rw [show liN s (nI t) a b = some (setTe s (up2 (zf s) t (upd (upd (zf s t) 3 a) 4 b)) (zm s) (zp s)) by unfold liN; rw [e1]; exact if_pos ⟨ca, cb⟩]
        refine gg_aload_n dX6_likes_0 rfl rfl ?_
        refine gg_iload_n dX6_likes_1 rfl rfl ?_
        refine gg_callV (sp_X6_teacherAt_y hD hW.1 ht) dX6_likes_2 kw_X6_75 rfl hD.1 rfl rfl (Nat.le_of_ble_eq_true rfl) (Nat.le_of_ble_eq_true rfl) (Nat.le_of_ble_eq_true rfl) ⟨(Nat.le_of_ble_eq_true rfl), (Nat.le_of_ble_eq_true rfl)⟩ (fun r S1 hq => ?_)
        refine gg_k (k2 := (0, 0)) rfl ?_
        obtain ⟨e9, rfl⟩ := hq
        rw [e9]
        clear e9 S1
        refine gg_astore dX6_likes_5 (Nat.le_of_ble_eq_true rfl) rfl ?_
        refine gg_aload dX6_likes_7 rfl ?_
        refine gg_ifnull dX6_likes_9 ?_
        refine gg_iload_n dX6_likes_12 rfl rfl ?_
        refine gg_iconst (v := 0) dX6_likes_13 (by decide) ?_
        refine gg_bipush (v := 63) dX6_likes_14 (by decide) ?_
        refine gg_callS (sp_X6_within S a 0 63) dX6_likes_16 kw_X6_61 rfl rfl (Nat.le_of_ble_eq_true rfl) (Nat.le_of_ble_eq_true rfl) (Nat.le_of_ble_eq_true rfl) ⟨(Nat.le_of_ble_eq_true rfl), (Nat.le_of_ble_eq_true rfl)⟩ (fun r S1 hq => ?_)
        refine gg_k (k2 := (0, 0)) rfl ?_
        obtain ⟨e9, rfl⟩ := hq
        rw [e9, if_pos ca]
        clear e9 S1
        refine gg_if_eq (tgt := 32) dX6_likes_19 (by decide) (fun c19 => ?_) (fun c19 => ?_)
        · exact absurd c19 (by decide)
        · refine gg_iload_n dX6_likes_22 rfl rfl ?_
          refine gg_iconst (v := 0) dX6_likes_23 (by decide) ?_
          refine gg_bipush (v := 63) dX6_likes_24 (by decide) ?_
          refine gg_callS (sp_X6_within S b 0 63) dX6_likes_26 kw_X6_61 rfl rfl (Nat.le_of_ble_eq_true rfl) (Nat.le_of_ble_eq_true rfl) (Nat.le_of_ble_eq_true rfl) ⟨(Nat.le_of_ble_eq_true rfl), (Nat.le_of_ble_eq_true rfl)⟩ (fun r S1 hq => ?_)
          refine gg_k (k2 := (0, 0)) rfl ?_
          obtain ⟨e9, rfl⟩ := hq
          rw [e9, if_pos cb]
          clear e9 S1
          refine gg_if_ne (tgt := 34) dX6_likes_29 (by decide) (fun c29 => ?_) (fun c29 => ?_)
          · refine gg_aload dX6_likes_34 rfl ?_
            refine gg_iload_n dX6_likes_36 rfl rfl ?_
            refine pf_X6_87 rfl dX6_likes_37 (hD.2.2.2.1 t ht).1 (Nat.le_of_ble_eq_true rfl) ?_
            refine PEs_3 (S0 := S) (hD.2.2.2.1 t ht) Fr.rf (fun S1 hE hf => ?_)
            refine gg_aload dX6_likes_40 rfl ?_
            refine gg_iload_n dX6_likes_42 rfl rfl ?_
            refine pf_X6_90 rfl dX6_likes_43 hE.1 (Nat.le_of_ble_eq_true rfl) ?_
            refine PEs_4 hE hf (fun S1 hE hf => ?_)
            have hN := h0.te hW ht hf hE
            rw [up2_id, up2_id] at hN
            refine gg_iconst (v := 1) dX6_likes_46 (by decide) ?_
            exact gg_ireturn dX6_likes_47 rfl rfl ⟨(Nat.le_of_ble_eq_true rfl), (Nat.le_of_ble_eq_true rfl)⟩ (⟨rfl, hN, hf.D (by omega)⟩)
          · exact absurd c29 (by decide)
      · rw [show liN s (nI t) a b = none by unfold liN; rw [e1]; exact if_neg (fun z => cb z.2)]
        refine gg_aload_n dX6_likes_0 rfl rfl ?_
        refine gg_iload_n dX6_likes_1 rfl rfl ?_
        refine gg_callV (sp_X6_teacherAt_y hD hW.1 ht) dX6_likes_2 kw_X6_75 rfl hD.1 rfl rfl (Nat.le_of_ble_eq_true rfl) (Nat.le_of_ble_eq_true rfl) (Nat.le_of_ble_eq_true rfl) ⟨(Nat.le_of_ble_eq_true rfl), (Nat.le_of_ble_eq_true rfl)⟩ (fun r S1 hq => ?_)
        refine gg_k (k2 := (0, 0)) rfl ?_
        obtain ⟨e9, rfl⟩ := hq
        rw [e9]
        clear e9 S1
        refine gg_astore dX6_likes_5 (Nat.le_of_ble_eq_true rfl) rfl ?_
        refine gg_aload dX6_likes_7 rfl ?_
        refine gg_ifnull dX6_likes_9 ?_
        refine gg_iload_n dX6_likes_12 rfl rfl ?_
        refine gg_iconst (v := 0) dX6_likes_13 (by decide) ?_
        refine gg_bipush (v := 63) dX6_likes_14 (by decide) ?_
        refine gg_callS (sp_X6_within S a 0 63) dX6_likes_16 kw_X6_61 rfl rfl (Nat.le_of_ble_eq_true rfl) (Nat.le_of_ble_eq_true rfl) (Nat.le_of_ble_eq_true rfl) ⟨(Nat.le_of_ble_eq_true rfl), (Nat.le_of_ble_eq_true rfl)⟩ (fun r S1 hq => ?_)
        refine gg_k (k2 := (0, 0)) rfl ?_
        obtain ⟨e9, rfl⟩ := hq
        rw [e9, if_pos ca]
        clear e9 S1
        refine gg_if_eq (tgt := 32) dX6_likes_19 (by decide) (fun c19 => ?_) (fun c19 => ?_)
        · exact absurd c19 (by decide)
        · refine gg_iload_n dX6_likes_22 rfl rfl ?_
          refine gg_iconst (v := 0) dX6_likes_23 (by decide) ?_
          refine gg_bipush (v := 63) dX6_likes_24 (by decide) ?_
          refine gg_callS (sp_X6_within S b 0 63) dX6_likes_26 kw_X6_61 rfl rfl (Nat.le_of_ble_eq_true rfl) (Nat.le_of_ble_eq_true rfl) (Nat.le_of_ble_eq_true rfl) ⟨(Nat.le_of_ble_eq_true rfl), (Nat.le_of_ble_eq_true rfl)⟩ (fun r S1 hq => ?_)
          refine gg_k (k2 := (0, 0)) rfl ?_
          obtain ⟨e9, rfl⟩ := hq
          rw [e9, if_neg cb]
          clear e9 S1
          refine gg_if_ne (tgt := 34) dX6_likes_29 (by decide) (fun c29 => ?_) (fun c29 => ?_)
          · exact absurd rfl c29
          · refine gg_iconst (v := 0) dX6_likes_32 (by decide) ?_
            exact gg_ireturn dX6_likes_33 rfl rfl ⟨(Nat.le_of_ble_eq_true rfl), (Nat.le_of_ble_eq_true rfl)⟩ (⟨rfl, ⟨⟨gp, hD⟩, hT, hBx, hVx, hMx⟩, FrD.rf⟩)
    · rw [show liN s (nI t) a b = none by unfold liN; rw [e1]; exact if_neg (fun z => ca z.1)]
      refine gg_aload_n dX6_likes_0 rfl rfl ?_
      refine gg_iload_n dX6_likes_1 rfl rfl ?_
      refine gg_callV (sp_X6_teacherAt_y hD hW.1 ht) dX6_likes_2 kw_X6_75 rfl hD.1 rfl rfl (Nat.le_of_ble_eq_true rfl) (Nat.le_of_ble_eq_true rfl) (Nat.le_of_ble_eq_true rfl) ⟨(Nat.le_of_ble_eq_true rfl), (Nat.le_of_ble_eq_true rfl)⟩ (fun r S1 hq => ?_)
      refine gg_k (k2 := (0, 0)) rfl ?_
      obtain ⟨e9, rfl⟩ := hq
      rw [e9]
      clear e9 S1
      refine gg_astore dX6_likes_5 (Nat.le_of_ble_eq_true rfl) rfl ?_
      refine gg_aload dX6_likes_7 rfl ?_
      refine gg_ifnull dX6_likes_9 ?_
      refine gg_iload_n dX6_likes_12 rfl rfl ?_
      refine gg_iconst (v := 0) dX6_likes_13 (by decide) ?_
      refine gg_bipush (v := 63) dX6_likes_14 (by decide) ?_
      refine gg_callS (sp_X6_within S a 0 63) dX6_likes_16 kw_X6_61 rfl rfl (Nat.le_of_ble_eq_true rfl) (Nat.le_of_ble_eq_true rfl) (Nat.le_of_ble_eq_true rfl) ⟨(Nat.le_of_ble_eq_true rfl), (Nat.le_of_ble_eq_true rfl)⟩ (fun r S1 hq => ?_)
      refine gg_k (k2 := (0, 0)) rfl ?_
      obtain ⟨e9, rfl⟩ := hq
      rw [e9, if_neg ca]
      clear e9 S1
      refine gg_if_eq (tgt := 32) dX6_likes_19 (by decide) (fun c19 => ?_) (fun c19 => ?_)
      · refine gg_iconst (v := 0) dX6_likes_32 (by decide) ?_
        exact gg_ireturn dX6_likes_33 rfl rfl ⟨(Nat.le_of_ble_eq_true rfl), (Nat.le_of_ble_eq_true rfl)⟩ (⟨rfl, ⟨⟨gp, hD⟩, hT, hBx, hVx, hMx⟩, FrD.rf⟩)
      · exact absurd rfl c19
theorem flB_cong {f mn h n n' : Nat → Int32} {sc day : Nat} (hn : ∀ j, j < 7 → n j = n' j) : flB f mn h n sc day = flB f mn h n' sc day := by
  unfold flB
  rw [hn 0 (by decide)]
theorem csI_cong {f mn h n n' : Nat → Int32} {sc : Nat} (hn : ∀ j, j < 7 → n j = n' j) : csI f mn h n sc = csI f mn h n' sc := by
  unfold csI
  rw [hn 1 (by decide), hn 2 (by decide), hn 3 (by decide)]
def zFl (s : DS) (t g : Nat) : Bool := flB (zf s t) (zm s t) (fun k => nI (zg s g k)) (zr s) (zg s g 0) (zD s)
def zCs (s : DS) (t g : Nat) : Int32 := csI (zf s t) (zm s t) (fun k => nI (zg s g k)) (zr s) (zg s g 0)
def caA (s : DS) (t g : Int32) : Int32 := match tix (zT s) t, tix (zG s) g with
  | some i, some j => bI (zFl s i j)
  | _, _ => -1
def coA (s : DS) (t g : Int32) : Int32 := match tix (zT s) t, tix (zG s) g with
  | some i, some j => if zFl s i j then zCs s i j else -1
  | _, _ => -1
theorem sp_X6_can {S : gl_H} {s : DS} (h : DP S s) (hW : DW s) (t9 g9 : Int32) : Sp mX6_can yX6_can [.ref 0, .int t9, .int g9] S (fun r S1 => r = some (.int (caA s t9 g9)) ∧ S1 = S) := by
  refine gl_enter (j := 2) (by decide +kernel) rfl (fun h => absurd h (by decide)) (Nat.le_of_ble_eq_true rfl) rfl (fun x => ?_)
  obtain ⟨⟨gp, hD⟩, hT, ⟨num, dr, pl, hnum, hB⟩, ⟨nx, hnx, hrg, hV⟩, hMx⟩ := h
  have htc := hW.1
  have hgc := hW.2.1
  rcases tix_cases (n := zT s) (by omega) t9 with ⟨e1, e2⟩ | ⟨t, ht, rfl, e1⟩
  · rw [show caA s t9 g9 = -1 by unfold caA; rw [e1]]
    rcases tix_cases (n := zG s) (by omega) g9 with ⟨e3, e4⟩ | ⟨j, hj, rfl, e3⟩
    · refine gg_aload_n dX6_can_0 rfl rfl ?_
      refine gg_iload_n dX6_can_1 rfl rfl ?_
      refine gg_callV (sp_X6_teacherAt_n hD e2) dX6_can_2 kw_X6_75 rfl hD.1 rfl rfl (Nat.le_of_ble_eq_true rfl) (Nat.le_of_ble_eq_true rfl) (Nat.le_of_ble_eq_true rfl) ⟨(Nat.le_of_ble_eq_true rfl), (Nat.le_of_ble_eq_true rfl)⟩ (fun r S1 hq => ?_)
      refine gg_k (k2 := (0, 0)) rfl ?_
      obtain ⟨e9, rfl⟩ := hq
      rw [e9]
      clear e9 S1
      refine gg_astore_nN dX6_can_5 rfl (Nat.le_of_ble_eq_true rfl) rfl ?_
      refine gg_aload_n dX6_can_6 rfl rfl ?_
      refine gg_iload_n dX6_can_7 rfl rfl ?_
      refine gg_callV (sp_X6_gapAt_n hD e4) dX6_can_8 kw_X6_102 rfl hD.1 rfl rfl (Nat.le_of_ble_eq_true rfl) (Nat.le_of_ble_eq_true rfl) (Nat.le_of_ble_eq_true rfl) ⟨(Nat.le_of_ble_eq_true rfl), (Nat.le_of_ble_eq_true rfl)⟩ (fun r S1 hq => ?_)
      refine gg_k (k2 := (0, 0)) rfl ?_
      obtain ⟨e9, rfl⟩ := hq
      rw [e9]
      clear e9 S1
      refine gg_astoreN dX6_can_11 (Nat.le_of_ble_eq_true rfl) rfl ?_
      refine gg_aload_nN dX6_can_13 rfl rfl ?_
      refine gg_ifnullN (tgt := 22) dX6_can_14 (by decide) ?_
      refine gg_iconst (v := -1) dX6_can_22 (by decide) ?_
      exact gg_ireturn dX6_can_23 rfl rfl ⟨(Nat.le_of_ble_eq_true rfl), (Nat.le_of_ble_eq_true rfl)⟩ (⟨rfl, rfl⟩)
    · obtain ⟨q, hq0, hq3, hq4, hG⟩ := hD.2.2.2.2.1 j hj
      refine gg_aload_n dX6_can_0 rfl rfl ?_
      refine gg_iload_n dX6_can_1 rfl rfl ?_
      refine gg_callV (sp_X6_teacherAt_n hD e2) dX6_can_2 kw_X6_75 rfl hD.1 rfl rfl (Nat.le_of_ble_eq_true rfl) (Nat.le_of_ble_eq_true rfl) (Nat.le_of_ble_eq_true rfl) ⟨(Nat.le_of_ble_eq_true rfl), (Nat.le_of_ble_eq_true rfl)⟩ (fun r S1 hq => ?_)
      refine gg_k (k2 := (0, 0)) rfl ?_
      obtain ⟨e9, rfl⟩ := hq
      rw [e9]
      clear e9 S1
      refine gg_astore_nN dX6_can_5 rfl (Nat.le_of_ble_eq_true rfl) rfl ?_
      refine gg_aload_n dX6_can_6 rfl rfl ?_
      refine gg_iload_n dX6_can_7 rfl rfl ?_
      refine gg_callV (sp_X6_gapAt_y hD hW.2.1 hj hq0) dX6_can_8 kw_X6_102 rfl hD.1 rfl rfl (Nat.le_of_ble_eq_true rfl) (Nat.le_of_ble_eq_true rfl) (Nat.le_of_ble_eq_true rfl) ⟨(Nat.le_of_ble_eq_true rfl), (Nat.le_of_ble_eq_true rfl)⟩ (fun r S1 hq => ?_)
      refine gg_k (k2 := (0, 0)) rfl ?_
      obtain ⟨e9, rfl⟩ := hq
      rw [e9]
      clear e9 S1
      refine gg_astore dX6_can_11 (Nat.le_of_ble_eq_true rfl) rfl ?_
      refine gg_aload_nN dX6_can_13 rfl rfl ?_
      refine gg_ifnullN (tgt := 22) dX6_can_14 (by decide) ?_
      refine gg_iconst (v := -1) dX6_can_22 (by decide) ?_
      exact gg_ireturn dX6_can_23 rfl rfl ⟨(Nat.le_of_ble_eq_true rfl), (Nat.le_of_ble_eq_true rfl)⟩ (⟨rfl, rfl⟩)
  · rcases tix_cases (n := zG s) (by omega) g9 with ⟨e3, e4⟩ | ⟨j, hj, rfl, e3⟩
    · rw [show caA s (nI t) g9 = -1 by unfold caA; rw [e1, e3]]
      refine gg_aload_n dX6_can_0 rfl rfl ?_
      refine gg_iload_n dX6_can_1 rfl rfl ?_
      refine gg_callV (sp_X6_teacherAt_y hD hW.1 ht) dX6_can_2 kw_X6_75 rfl hD.1 rfl rfl (Nat.le_of_ble_eq_true rfl) (Nat.le_of_ble_eq_true rfl) (Nat.le_of_ble_eq_true rfl) ⟨(Nat.le_of_ble_eq_true rfl), (Nat.le_of_ble_eq_true rfl)⟩ (fun r S1 hq => ?_)
      refine gg_k (k2 := (0, 0)) rfl ?_
      obtain ⟨e9, rfl⟩ := hq
      rw [e9]
      clear e9 S1
      refine gg_astore_n dX6_can_5 rfl (Nat.le_of_ble_eq_true rfl) rfl ?_
      refine gg_aload_n dX6_can_6 rfl rfl ?_
      refine gg_iload_n dX6_can_7 rfl rfl ?_
      refine gg_callV (sp_X6_gapAt_n hD e4) dX6_can_8 kw_X6_102 rfl hD.1 rfl rfl (Nat.le_of_ble_eq_true rfl) (Nat.le_of_ble_eq_true rfl) (Nat.le_of_ble_eq_true rfl) ⟨(Nat.le_of_ble_eq_true rfl), (Nat.le_of_ble_eq_true rfl)⟩ (fun r S1 hq => ?_)
      refine gg_k (k2 := (0, 0)) rfl ?_
      obtain ⟨e9, rfl⟩ := hq
      rw [e9]
      clear e9 S1
      refine gg_astoreN dX6_can_11 (Nat.le_of_ble_eq_true rfl) rfl ?_
      refine gg_aload_n dX6_can_13 rfl rfl ?_
      refine gg_ifnull dX6_can_14 ?_
      refine gg_aloadN dX6_can_17 rfl ?_
      refine gg_ifnonnullN dX6_can_19 ?_
      refine gg_iconst (v := -1) dX6_can_22 (by decide) ?_
      exact gg_ireturn dX6_can_23 rfl rfl ⟨(Nat.le_of_ble_eq_true rfl), (Nat.le_of_ble_eq_true rfl)⟩ (⟨rfl, rfl⟩)
    · rw [show caA s (nI t) (nI j) = bI (zFl s t j) by unfold caA; rw [e1, e3]]
      obtain ⟨q, hq0, hq3, hq4, hG⟩ := hD.2.2.2.2.1 j hj
      refine gg_aload_n dX6_can_0 rfl rfl ?_
      refine gg_iload_n dX6_can_1 rfl rfl ?_
      refine gg_callV (sp_X6_teacherAt_y hD hW.1 ht) dX6_can_2 kw_X6_75 rfl hD.1 rfl rfl (Nat.le_of_ble_eq_true rfl) (Nat.le_of_ble_eq_true rfl) (Nat.le_of_ble_eq_true rfl) ⟨(Nat.le_of_ble_eq_true rfl), (Nat.le_of_ble_eq_true rfl)⟩ (fun r S1 hq => ?_)
      refine gg_k (k2 := (0, 0)) rfl ?_
      obtain ⟨e9, rfl⟩ := hq
      rw [e9]
      clear e9 S1
      refine gg_astore_n dX6_can_5 rfl (Nat.le_of_ble_eq_true rfl) rfl ?_
      refine gg_aload_n dX6_can_6 rfl rfl ?_
      refine gg_iload_n dX6_can_7 rfl rfl ?_
      refine gg_callV (sp_X6_gapAt_y hD hW.2.1 hj hq0) dX6_can_8 kw_X6_102 rfl hD.1 rfl rfl (Nat.le_of_ble_eq_true rfl) (Nat.le_of_ble_eq_true rfl) (Nat.le_of_ble_eq_true rfl) ⟨(Nat.le_of_ble_eq_true rfl), (Nat.le_of_ble_eq_true rfl)⟩ (fun r S1 hq => ?_)
      refine gg_k (k2 := (0, 0)) rfl ?_
      obtain ⟨e9, rfl⟩ := hq
      rw [e9]
      clear e9 S1
      refine gg_astore dX6_can_11 (Nat.le_of_ble_eq_true rfl) rfl ?_
      refine gg_aload_n dX6_can_13 rfl rfl ?_
      refine gg_ifnull dX6_can_14 ?_
      refine gg_aload dX6_can_17 rfl ?_
      refine gg_ifnonnull (tgt := 24) dX6_can_19 (by decide) ?_
      refine gg_aload_n dX6_can_24 rfl rfl ?_
      refine gg_aload dX6_can_25 rfl ?_
      refine gg_aload_n dX6_can_27 rfl rfl ?_
      refine gf_X6_19 rfl dX6_can_28 hD.1 rfl ?_
      refine gg_aload_n dX6_can_31 rfl rfl ?_
      refine gf_X6_106 rfl dX6_can_32 hD.1 rfl ?_
      refine gg_callV (sp_X4_fills (hD.2.2.2.1 t ht) hG hB rfl (hW.2.2.2.1 j hj).1 (zD s)) dX6_can_35 kw_X6_109 rfl (hD.2.2.2.1 t ht).1 rfl rfl (Nat.le_of_ble_eq_true rfl) (Nat.le_of_ble_eq_true rfl) (Nat.le_of_ble_eq_true rfl) ⟨(Nat.le_of_ble_eq_true rfl), (Nat.le_of_ble_eq_true rfl)⟩ (fun r S1 hq => ?_)
      refine gg_k (k2 := (0, 0)) rfl ?_
      obtain ⟨e9, rfl⟩ := hq
      rw [e9, flB_cong hnum]
      clear e9 S1
      refine gg_if_eq (tgt := 45) dX6_can_38 (by decide) (fun c38 => ?_) (fun c38 => ?_)
      · have e : zFl s t j = false := bI_z c38
        rw [e]
        refine gg_iconst (v := 0) dX6_can_45 (by decide) ?_
        exact gg_ireturn dX6_can_46 rfl rfl ⟨(Nat.le_of_ble_eq_true rfl), (Nat.le_of_ble_eq_true rfl)⟩ (⟨rfl, rfl⟩)
      · have e : zFl s t j = true := bI_nz c38
        rw [e]
        refine gg_iconst (v := 1) dX6_can_41 (by decide) ?_
        refine gg_goto (tgt := 46) dX6_can_42 (by decide) ?_
        exact gg_ireturn dX6_can_46 rfl rfl ⟨(Nat.le_of_ble_eq_true rfl), (Nat.le_of_ble_eq_true rfl)⟩ (⟨rfl, rfl⟩)
theorem sp_X6_cost {S : gl_H} {s : DS} (h : DP S s) (hW : DW s) (t9 g9 : Int32) : Sp mX6_cost yX6_cost [.ref 0, .int t9, .int g9] S (fun r S1 => r = some (.int (coA s t9 g9)) ∧ S1 = S) := by
  refine gl_enter (j := 2) (by decide +kernel) rfl (fun h => absurd h (by decide)) (Nat.le_of_ble_eq_true rfl) rfl (fun x => ?_)
  obtain ⟨⟨gp, hD⟩, hT, ⟨num, dr, pl, hnum, hB⟩, ⟨nx, hnx, hrg, hV⟩, hMx⟩ := h
  have htc := hW.1
  have hgc := hW.2.1
  rcases tix_cases (n := zT s) (by omega) t9 with ⟨e1, e2⟩ | ⟨t, ht, rfl, e1⟩
  · rw [show coA s t9 g9 = -1 by unfold coA; rw [e1]]
    rcases tix_cases (n := zG s) (by omega) g9 with ⟨e3, e4⟩ | ⟨j, hj, rfl, e3⟩
    · refine gg_aload_n dX6_cost_0 rfl rfl ?_
      refine gg_iload_n dX6_cost_1 rfl rfl ?_
      refine gg_callV (sp_X6_teacherAt_n hD e2) dX6_cost_2 kw_X6_75 rfl hD.1 rfl rfl (Nat.le_of_ble_eq_true rfl) (Nat.le_of_ble_eq_true rfl) (Nat.le_of_ble_eq_true rfl) ⟨(Nat.le_of_ble_eq_true rfl), (Nat.le_of_ble_eq_true rfl)⟩ (fun r S1 hq => ?_)
      refine gg_k (k2 := (0, 0)) rfl ?_
      obtain ⟨e9, rfl⟩ := hq
      rw [e9]
      clear e9 S1
      refine gg_astore_nN dX6_cost_5 rfl (Nat.le_of_ble_eq_true rfl) rfl ?_
      refine gg_aload_n dX6_cost_6 rfl rfl ?_
      refine gg_iload_n dX6_cost_7 rfl rfl ?_
      refine gg_callV (sp_X6_gapAt_n hD e4) dX6_cost_8 kw_X6_102 rfl hD.1 rfl rfl (Nat.le_of_ble_eq_true rfl) (Nat.le_of_ble_eq_true rfl) (Nat.le_of_ble_eq_true rfl) ⟨(Nat.le_of_ble_eq_true rfl), (Nat.le_of_ble_eq_true rfl)⟩ (fun r S1 hq => ?_)
      refine gg_k (k2 := (0, 0)) rfl ?_
      obtain ⟨e9, rfl⟩ := hq
      rw [e9]
      clear e9 S1
      refine gg_astoreN dX6_cost_11 (Nat.le_of_ble_eq_true rfl) rfl ?_
      refine gg_aload_nN dX6_cost_13 rfl rfl ?_
      refine gg_ifnullN (tgt := 39) dX6_cost_14 (by decide) ?_
      refine gg_iconst (v := -1) dX6_cost_39 (by decide) ?_
      exact gg_ireturn dX6_cost_40 rfl rfl ⟨(Nat.le_of_ble_eq_true rfl), (Nat.le_of_ble_eq_true rfl)⟩ (⟨rfl, rfl⟩)
    · obtain ⟨q, hq0, hq3, hq4, hG⟩ := hD.2.2.2.2.1 j hj
      refine gg_aload_n dX6_cost_0 rfl rfl ?_
      refine gg_iload_n dX6_cost_1 rfl rfl ?_
      refine gg_callV (sp_X6_teacherAt_n hD e2) dX6_cost_2 kw_X6_75 rfl hD.1 rfl rfl (Nat.le_of_ble_eq_true rfl) (Nat.le_of_ble_eq_true rfl) (Nat.le_of_ble_eq_true rfl) ⟨(Nat.le_of_ble_eq_true rfl), (Nat.le_of_ble_eq_true rfl)⟩ (fun r S1 hq => ?_)
      refine gg_k (k2 := (0, 0)) rfl ?_
      obtain ⟨e9, rfl⟩ := hq
      rw [e9]
      clear e9 S1
      refine gg_astore_nN dX6_cost_5 rfl (Nat.le_of_ble_eq_true rfl) rfl ?_
      refine gg_aload_n dX6_cost_6 rfl rfl ?_
      refine gg_iload_n dX6_cost_7 rfl rfl ?_
      refine gg_callV (sp_X6_gapAt_y hD hW.2.1 hj hq0) dX6_cost_8 kw_X6_102 rfl hD.1 rfl rfl (Nat.le_of_ble_eq_true rfl) (Nat.le_of_ble_eq_true rfl) (Nat.le_of_ble_eq_true rfl) ⟨(Nat.le_of_ble_eq_true rfl), (Nat.le_of_ble_eq_true rfl)⟩ (fun r S1 hq => ?_)
      refine gg_k (k2 := (0, 0)) rfl ?_
      obtain ⟨e9, rfl⟩ := hq
      rw [e9]
      clear e9 S1
      refine gg_astore dX6_cost_11 (Nat.le_of_ble_eq_true rfl) rfl ?_
      refine gg_aload_nN dX6_cost_13 rfl rfl ?_
      refine gg_ifnullN (tgt := 39) dX6_cost_14 (by decide) ?_
      refine gg_iconst (v := -1) dX6_cost_39 (by decide) ?_
      exact gg_ireturn dX6_cost_40 rfl rfl ⟨(Nat.le_of_ble_eq_true rfl), (Nat.le_of_ble_eq_true rfl)⟩ (⟨rfl, rfl⟩)
  · rcases tix_cases (n := zG s) (by omega) g9 with ⟨e3, e4⟩ | ⟨j, hj, rfl, e3⟩
    · rw [show coA s (nI t) g9 = -1 by unfold coA; rw [e1, e3]]
      refine gg_aload_n dX6_cost_0 rfl rfl ?_
      refine gg_iload_n dX6_cost_1 rfl rfl ?_
      refine gg_callV (sp_X6_teacherAt_y hD hW.1 ht) dX6_cost_2 kw_X6_75 rfl hD.1 rfl rfl (Nat.le_of_ble_eq_true rfl) (Nat.le_of_ble_eq_true rfl) (Nat.le_of_ble_eq_true rfl) ⟨(Nat.le_of_ble_eq_true rfl), (Nat.le_of_ble_eq_true rfl)⟩ (fun r S1 hq => ?_)
      refine gg_k (k2 := (0, 0)) rfl ?_
      obtain ⟨e9, rfl⟩ := hq
      rw [e9]
      clear e9 S1
      refine gg_astore_n dX6_cost_5 rfl (Nat.le_of_ble_eq_true rfl) rfl ?_
      refine gg_aload_n dX6_cost_6 rfl rfl ?_
      refine gg_iload_n dX6_cost_7 rfl rfl ?_
      refine gg_callV (sp_X6_gapAt_n hD e4) dX6_cost_8 kw_X6_102 rfl hD.1 rfl rfl (Nat.le_of_ble_eq_true rfl) (Nat.le_of_ble_eq_true rfl) (Nat.le_of_ble_eq_true rfl) ⟨(Nat.le_of_ble_eq_true rfl), (Nat.le_of_ble_eq_true rfl)⟩ (fun r S1 hq => ?_)
      refine gg_k (k2 := (0, 0)) rfl ?_
      obtain ⟨e9, rfl⟩ := hq
      rw [e9]
      clear e9 S1
      refine gg_astoreN dX6_cost_11 (Nat.le_of_ble_eq_true rfl) rfl ?_
      refine gg_aload_n dX6_cost_13 rfl rfl ?_
      refine gg_ifnull dX6_cost_14 ?_
      refine gg_aloadN dX6_cost_17 rfl ?_
      refine gg_ifnullN (tgt := 39) dX6_cost_19 (by decide) ?_
      refine gg_iconst (v := -1) dX6_cost_39 (by decide) ?_
      exact gg_ireturn dX6_cost_40 rfl rfl ⟨(Nat.le_of_ble_eq_true rfl), (Nat.le_of_ble_eq_true rfl)⟩ (⟨rfl, rfl⟩)
    · rw [show coA s (nI t) (nI j) = if zFl s t j then zCs s t j else -1 by unfold coA; rw [e1, e3]]
      obtain ⟨q, hq0, hq3, hq4, hG⟩ := hD.2.2.2.2.1 j hj
      refine gg_aload_n dX6_cost_0 rfl rfl ?_
      refine gg_iload_n dX6_cost_1 rfl rfl ?_
      refine gg_callV (sp_X6_teacherAt_y hD hW.1 ht) dX6_cost_2 kw_X6_75 rfl hD.1 rfl rfl (Nat.le_of_ble_eq_true rfl) (Nat.le_of_ble_eq_true rfl) (Nat.le_of_ble_eq_true rfl) ⟨(Nat.le_of_ble_eq_true rfl), (Nat.le_of_ble_eq_true rfl)⟩ (fun r S1 hq => ?_)
      refine gg_k (k2 := (0, 0)) rfl ?_
      obtain ⟨e9, rfl⟩ := hq
      rw [e9]
      clear e9 S1
      refine gg_astore_n dX6_cost_5 rfl (Nat.le_of_ble_eq_true rfl) rfl ?_
      refine gg_aload_n dX6_cost_6 rfl rfl ?_
      refine gg_iload_n dX6_cost_7 rfl rfl ?_
      refine gg_callV (sp_X6_gapAt_y hD hW.2.1 hj hq0) dX6_cost_8 kw_X6_102 rfl hD.1 rfl rfl (Nat.le_of_ble_eq_true rfl) (Nat.le_of_ble_eq_true rfl) (Nat.le_of_ble_eq_true rfl) ⟨(Nat.le_of_ble_eq_true rfl), (Nat.le_of_ble_eq_true rfl)⟩ (fun r S1 hq => ?_)
      refine gg_k (k2 := (0, 0)) rfl ?_
      obtain ⟨e9, rfl⟩ := hq
      rw [e9]
      clear e9 S1
      refine gg_astore dX6_cost_11 (Nat.le_of_ble_eq_true rfl) rfl ?_
      refine gg_aload_n dX6_cost_13 rfl rfl ?_
      refine gg_ifnull dX6_cost_14 ?_
      refine gg_aload dX6_cost_17 rfl ?_
      refine gg_ifnull dX6_cost_19 ?_
      refine gg_aload_n dX6_cost_22 rfl rfl ?_
      refine gg_aload dX6_cost_23 rfl ?_
      refine gg_aload_n dX6_cost_25 rfl rfl ?_
      refine gf_X6_19 rfl dX6_cost_26 hD.1 rfl ?_
      refine gg_aload_n dX6_cost_29 rfl rfl ?_
      refine gf_X6_106 rfl dX6_cost_30 hD.1 rfl ?_
      refine gg_callV (sp_X4_fills (hD.2.2.2.1 t ht) hG hB rfl (hW.2.2.2.1 j hj).1 (zD s)) dX6_cost_33 kw_X6_109 rfl (hD.2.2.2.1 t ht).1 rfl rfl (Nat.le_of_ble_eq_true rfl) (Nat.le_of_ble_eq_true rfl) (Nat.le_of_ble_eq_true rfl) ⟨(Nat.le_of_ble_eq_true rfl), (Nat.le_of_ble_eq_true rfl)⟩ (fun r S1 hq => ?_)
      refine gg_k (k2 := (0, 0)) rfl ?_
      obtain ⟨e9, rfl⟩ := hq
      rw [e9, flB_cong hnum]
      clear e9 S1
      refine gg_if_ne (tgt := 41) dX6_cost_36 (by decide) (fun c36 => ?_) (fun c36 => ?_)
      · have e : zFl s t j = true := bI_nz c36
        rw [if_pos e]
        refine gg_aload_n dX6_cost_41 rfl rfl ?_
        refine gg_aload dX6_cost_42 rfl ?_
        refine gg_aload_n dX6_cost_44 rfl rfl ?_
        refine gf_X6_19 rfl dX6_cost_45 hD.1 rfl ?_
        refine gg_callV (sp_X4_costFor (hD.2.2.2.1 t ht) hG hB rfl (hW.2.2.2.1 j hj).1) dX6_cost_48 kw_X6_113 rfl (hD.2.2.2.1 t ht).1 rfl rfl (Nat.le_of_ble_eq_true rfl) (Nat.le_of_ble_eq_true rfl) (Nat.le_of_ble_eq_true rfl) ⟨(Nat.le_of_ble_eq_true rfl), (Nat.le_of_ble_eq_true rfl)⟩ (fun r S1 hq => ?_)
        refine gg_k (k2 := (0, 0)) rfl ?_
        obtain ⟨e9, rfl⟩ := hq
        rw [e9, csI_cong hnum]
        clear e9 S1
        exact gg_ireturn dX6_cost_51 rfl rfl ⟨(Nat.le_of_ble_eq_true rfl), (Nat.le_of_ble_eq_true rfl)⟩ (⟨rfl, rfl⟩)
      · have e : zFl s t j = false := bI_z c36
        rw [if_neg (by rw [e]; decide)]
        refine gg_iconst (v := -1) dX6_cost_39 (by decide) ?_
        exact gg_ireturn dX6_cost_40 rfl rfl ⟨(Nat.le_of_ble_eq_true rfl), (Nat.le_of_ble_eq_true rfl)⟩ (⟨rfl, rfl⟩)
def paA (s : DS) (t : Int32) : Int64 := match tix (zT s) t with
  | some i => zp s i
  | none => 0
theorem sp_X6_pay {S : gl_H} {s : DS} (h : DP S s) (hW : DW s) (t9 : Int32) : Sp mX6_pay yX6_pay [.ref 0, .int t9] S (fun r S1 => r = some (.long (paA s t9)) ∧ S1 = S) := by
  refine gl_enter (j := 1) (by decide +kernel) rfl (fun h => absurd h (by decide)) (Nat.le_of_ble_eq_true rfl) rfl (fun x => ?_)
  obtain ⟨⟨gp, hD⟩, hT, ⟨num, dr, pl, hnum, hB⟩, ⟨nx, hnx, hrg, hV⟩, hMx⟩ := h
  have htc := hW.1
  rcases tix_cases (n := zT s) (by omega) t9 with ⟨e1, e2⟩ | ⟨t, ht, rfl, e1⟩
  · rw [show paA s t9 = 0 by unfold paA; rw [e1]]
    refine gg_aload_n dX6_pay_0 rfl rfl ?_
    refine gg_iload_n dX6_pay_1 rfl rfl ?_
    refine gg_callV (sp_X6_teacherAt_n hD e2) dX6_pay_2 kw_X6_75 rfl hD.1 rfl rfl (Nat.le_of_ble_eq_true rfl) (Nat.le_of_ble_eq_true rfl) (Nat.le_of_ble_eq_true rfl) ⟨(Nat.le_of_ble_eq_true rfl), (Nat.le_of_ble_eq_true rfl)⟩ (fun r S1 hq => ?_)
    refine gg_k (k2 := (0, 0)) rfl ?_
    obtain ⟨e9, rfl⟩ := hq
    rw [e9]
    clear e9 S1
    refine gg_astore_nN dX6_pay_5 rfl (Nat.le_of_ble_eq_true rfl) rfl ?_
    refine gg_aload_nN dX6_pay_6 rfl rfl ?_
    refine gg_ifnonnullN dX6_pay_7 ?_
    refine gg_lconst (v := 0) dX6_pay_10 (by decide) ?_
    refine gg_goto (tgt := 18) dX6_pay_11 (by decide) ?_
    exact gg_lreturn dX6_pay_18 rfl ⟨(Nat.le_of_ble_eq_true rfl), (Nat.le_of_ble_eq_true rfl)⟩ (⟨rfl, rfl⟩)
  · rw [show paA s (nI t) = zp s t by unfold paA; rw [e1]]
    refine gg_aload_n dX6_pay_0 rfl rfl ?_
    refine gg_iload_n dX6_pay_1 rfl rfl ?_
    refine gg_callV (sp_X6_teacherAt_y hD hW.1 ht) dX6_pay_2 kw_X6_75 rfl hD.1 rfl rfl (Nat.le_of_ble_eq_true rfl) (Nat.le_of_ble_eq_true rfl) (Nat.le_of_ble_eq_true rfl) ⟨(Nat.le_of_ble_eq_true rfl), (Nat.le_of_ble_eq_true rfl)⟩ (fun r S1 hq => ?_)
    refine gg_k (k2 := (0, 0)) rfl ?_
    obtain ⟨e9, rfl⟩ := hq
    rw [e9]
    clear e9 S1
    refine gg_astore_n dX6_pay_5 rfl (Nat.le_of_ble_eq_true rfl) rfl ?_
    refine gg_aload_n dX6_pay_6 rfl rfl ?_
    refine gg_ifnonnull (tgt := 14) dX6_pay_7 (by decide) ?_
    refine gg_aload_n dX6_pay_14 rfl rfl ?_
    refine gf_X6_156 rfl dX6_pay_15 (hD.2.2.2.1 t ht).1 rfl ?_
    exact gg_lreturn dX6_pay_18 rfl ⟨(Nat.le_of_ble_eq_true rfl), (Nat.le_of_ble_eq_true rfl)⟩ (⟨rfl, rfl⟩)
def stA (s : DS) (k c : Int32) : Int32 := if (0 ≤ k ∧ k ≤ 5) ∧ (0 ≤ c ∧ c ≤ 15) then bcv (tsF (zv s).1 (zv s).2.1 (zv s).2.2.1 (16 * k + c) (nI (zD s)) (vK (zv s).2.2.2)) else -1
theorem vK_le (n : Nat) : vK n ≤ 400 := by unfold vK; split <;> omega
theorem sp_X6_strangers {S : gl_H} {s : DS} (h : DP S s) (hW : DW s) (k9 c9 : Int32) : Sp mX6_strangers yX6_strangers [.ref 0, .int k9, .int c9] S (fun r S1 => r = some (.int (stA s k9 c9)) ∧ S1 = S) := by
  refine gl_enter (j := 0) (by decide +kernel) rfl (fun h => absurd h (by decide)) (Nat.le_of_ble_eq_true rfl) rfl (fun x => ?_)
  obtain ⟨⟨gp, hD⟩, hT, ⟨num, dr, pl, hnum, hB⟩, ⟨nx, hnx, hrg, hV⟩, hMx⟩ := h
  have htc := hW.1
  have hgc := hW.2.1
  by_cases ck9 : 0 ≤ k9 ∧ k9 ≤ 5
  · by_cases cc9 : 0 ≤ c9 ∧ c9 ≤ 15
    · rw [show stA s k9 c9 = _ from if_pos ⟨ck9, cc9⟩]
      refine gg_iload_n dX6_strangers_0 rfl rfl ?_
      refine gg_callS (sp_X6_isSchool S k9) dX6_strangers_1 kw_X6_79 rfl rfl (Nat.le_of_ble_eq_true rfl) (Nat.le_of_ble_eq_true rfl) (Nat.le_of_ble_eq_true rfl) ⟨(Nat.le_of_ble_eq_true rfl), (Nat.le_of_ble_eq_true rfl)⟩ (fun r S1 hq => ?_)
      refine gg_k (k2 := (0, 0)) rfl ?_
      obtain ⟨e9, rfl⟩ := hq
      rw [e9, if_pos ck9]
      clear e9 S1
      refine gg_if_eq (tgt := 14) dX6_strangers_4 (by decide) (fun c4 => ?_) (fun c4 => ?_)
      · exact absurd c4 (by decide)
      · refine gg_iload_n dX6_strangers_7 rfl rfl ?_
        refine gg_callS (sp_X6_isClass S c9) dX6_strangers_8 kw_X6_96 rfl rfl (Nat.le_of_ble_eq_true rfl) (Nat.le_of_ble_eq_true rfl) (Nat.le_of_ble_eq_true rfl) ⟨(Nat.le_of_ble_eq_true rfl), (Nat.le_of_ble_eq_true rfl)⟩ (fun r S1 hq => ?_)
        refine gg_k (k2 := (0, 0)) rfl ?_
        obtain ⟨e9, rfl⟩ := hq
        rw [e9, if_pos cc9]
        clear e9 S1
        refine gg_if_ne (tgt := 16) dX6_strangers_11 (by decide) (fun c11 => ?_) (fun c11 => ?_)
        · refine gg_aload_n dX6_strangers_16 rfl rfl ?_
          refine gf_X6_38 rfl dX6_strangers_17 hD.1 rfl ?_
          refine gg_iload_n dX6_strangers_20 rfl rfl ?_
          refine gg_iload_n dX6_strangers_21 rfl rfl ?_
          refine gg_aload_n dX6_strangers_22 rfl rfl ?_
          refine gf_X6_106 rfl dX6_strangers_23 hD.1 rfl ?_
          refine gg_callV (sp_X5_teachersSeen hV (vK_le _) k9 c9 (nI (zD s))) dX6_strangers_26 kw_X6_160 rfl hV.1 rfl rfl (Nat.le_of_ble_eq_true rfl) (Nat.le_of_ble_eq_true rfl) (Nat.le_of_ble_eq_true rfl) ⟨(Nat.le_of_ble_eq_true rfl), (Nat.le_of_ble_eq_true rfl)⟩ (fun r S1 hq => ?_)
          refine gg_k (k2 := (0, 0)) rfl ?_
          obtain ⟨e9, rfl⟩ := hq
          rw [e9]
          clear e9 S1
          exact gg_ireturn dX6_strangers_29 rfl rfl ⟨(Nat.le_of_ble_eq_true rfl), (Nat.le_of_ble_eq_true rfl)⟩ (⟨rfl, rfl⟩)
        · exact absurd c11 (by decide)
    · rw [show stA s k9 c9 = -1 from if_neg (fun z => cc9 z.2)]
      refine gg_iload_n dX6_strangers_0 rfl rfl ?_
      refine gg_callS (sp_X6_isSchool S k9) dX6_strangers_1 kw_X6_79 rfl rfl (Nat.le_of_ble_eq_true rfl) (Nat.le_of_ble_eq_true rfl) (Nat.le_of_ble_eq_true rfl) ⟨(Nat.le_of_ble_eq_true rfl), (Nat.le_of_ble_eq_true rfl)⟩ (fun r S1 hq => ?_)
      refine gg_k (k2 := (0, 0)) rfl ?_
      obtain ⟨e9, rfl⟩ := hq
      rw [e9, if_pos ck9]
      clear e9 S1
      refine gg_if_eq (tgt := 14) dX6_strangers_4 (by decide) (fun c4 => ?_) (fun c4 => ?_)
      · exact absurd c4 (by decide)
      · refine gg_iload_n dX6_strangers_7 rfl rfl ?_
        refine gg_callS (sp_X6_isClass S c9) dX6_strangers_8 kw_X6_96 rfl rfl (Nat.le_of_ble_eq_true rfl) (Nat.le_of_ble_eq_true rfl) (Nat.le_of_ble_eq_true rfl) ⟨(Nat.le_of_ble_eq_true rfl), (Nat.le_of_ble_eq_true rfl)⟩ (fun r S1 hq => ?_)
        refine gg_k (k2 := (0, 0)) rfl ?_
        obtain ⟨e9, rfl⟩ := hq
        rw [e9, if_neg cc9]
        clear e9 S1
        refine gg_if_ne (tgt := 16) dX6_strangers_11 (by decide) (fun c11 => ?_) (fun c11 => ?_)
        · exact absurd rfl c11
        · refine gg_iconst (v := -1) dX6_strangers_14 (by decide) ?_
          exact gg_ireturn dX6_strangers_15 rfl rfl ⟨(Nat.le_of_ble_eq_true rfl), (Nat.le_of_ble_eq_true rfl)⟩ (⟨rfl, rfl⟩)
  · rw [show stA s k9 c9 = -1 from if_neg (fun z => ck9 z.1)]
    refine gg_iload_n dX6_strangers_0 rfl rfl ?_
    refine gg_callS (sp_X6_isSchool S k9) dX6_strangers_1 kw_X6_79 rfl rfl (Nat.le_of_ble_eq_true rfl) (Nat.le_of_ble_eq_true rfl) (Nat.le_of_ble_eq_true rfl) ⟨(Nat.le_of_ble_eq_true rfl), (Nat.le_of_ble_eq_true rfl)⟩ (fun r S1 hq => ?_)
    refine gg_k (k2 := (0, 0)) rfl ?_
    obtain ⟨e9, rfl⟩ := hq
    rw [e9, if_neg ck9]
    clear e9 S1
    refine gg_if_eq (tgt := 14) dX6_strangers_4 (by decide) (fun c4 => ?_) (fun c4 => ?_)
    · refine gg_iconst (v := -1) dX6_strangers_14 (by decide) ?_
      exact gg_ireturn dX6_strangers_15 rfl rfl ⟨(Nat.le_of_ble_eq_true rfl), (Nat.le_of_ble_eq_true rfl)⟩ (⟨rfl, rfl⟩)
    · exact absurd rfl c4
