/-! look, about, count, day -/
theorem fb_rng (x : Int32) : -2147483648 ≤ x.toInt ∧ x.toInt < 2147483648 := ⟨Int32.le_toInt x, Int32.toInt_lt x⟩
theorem fb_subI {x y : Int32} (h1 : -2147483648 ≤ x.toInt - y.toInt) (h2 : x.toInt - y.toInt < 2147483648) : (x - y).toInt = x.toInt - y.toInt := by
  rw [Int32.toInt_sub, Int.bmod_def]
  omega
def lkV (f mn : Nat → Int32) (w : Int32) : Int32 := if w = nI 0 then f 0 else if w = nI 1 then f 1 else if w = nI 2 then f 2 else if w = nI 3 then f 5 else if w = nI 4 then f 6 else if w = nI 5 then f 7 else if w = nI 6 then f 8 else if w = nI 7 then f 3 else if w = nI 8 then f 4 else match tix 6 (w - 10) with | some k => mn k | none => -1
def loA (s : DS) (t w : Int32) : Int32 := match tix (zT s) t with
  | some i => lkV (zf s i) (zm s i) w
  | none => -1
def abV (h : Nat → Int32) (w : Int32) : Int32 := if w = nI 0 then h 0 else if w = nI 1 then h 1 else if w = nI 2 then h 2 else if w = nI 3 then h 3 else if w = nI 4 then h 4 else -1
def abA (s : DS) (g w : Int32) : Int32 := match tix (zG s) g with
  | some j => abV (fun k => nI (zg s j k)) w
  | none => -1
def cuA (s : DS) (w : Int32) : Int32 := if w = nI 0 then nI (zD s) else if w = nI 1 then nI (zT s) else if w = nI 2 then nI (zG s) else if w = nI 3 then nI (cntN (fun t => zf s t 5 == 1) (zT s)) else if w = nI 4 then nI (cntN (fun t => zf s t 5 == 2) (zT s)) else if w = nI 5 then nI (zn s) else if w = nI 6 then nI (vK (zv s).2.2.2) else match tix 7 (w - 10) with | some k => zr s k | none => -1
/-- a number that is none of the first n -/
theorem sw_out {n : Nat} (hn : n < 1000) {w : Int32} (h : w < 0 ∨ nI n ≤ w) : (w.toInt < 0 ∨ (n : Int) - 1 < w.toInt) ∧ ∀ j, j < n → ¬ w = nI j := by
  refine ⟨?_, fun j hj e => ?_⟩
  · rcases h with h | h
    · exact Or.inl (Int32.lt_iff_toInt_lt.mp h)
    · have h' := Int32.le_iff_toInt_le.mp h
      rw [nI_toInt (by omega)] at h'
      exact Or.inr (by omega)
  · subst e
    rcases h with h | h
    · exact nI_pos (by omega) h
    · have := n_le h; omega
theorem w10 (n : Nat) (w : Int32) (hi : Int32) (hh : hi.toInt = 10 + (n : Int) - 1) (hn : n < 100) : (0 ≤ w - 10 ∧ w - 10 ≤ nI n - 1) ↔ (10 ≤ w ∧ w ≤ hi) := by
  have h10 : (10 : Int32).toInt = 10 := by decide
  have hr := fb_rng w
  rw [Int32.le_iff_toInt_le, Int32.le_iff_toInt_le, Int32.le_iff_toInt_le, Int32.le_iff_toInt_le, nI_sub1 (by omega), hh, h10]
  have h0 : (0 : Int32).toInt = 0 := by decide
  rw [h0]
  by_cases c : -2147483648 ≤ w.toInt - (10 : Int32).toInt
  · rw [fb_subI c (by rw [h10]; omega), h10]
    omega
  · rw [h10] at c
    have e : (w - 10).toInt = w.toInt - 10 + 4294967296 := by
      rw [Int32.toInt_sub, h10]
      rw [Int.bmod_def]
      omega
    rw [e]
    omega
theorem sp_X6_look {S : gl_H} {s : DS} (h : DP S s) (hW : DW s) (t9 w : Int32) : Sp mX6_look yX6_look [.ref 0, .int t9, .int w] S (fun r S1 => r = some (.int (loA s t9 w)) ∧ S1 = S) := by
  refine gl_enter (j := 1) (by decide +kernel) rfl (fun h => absurd h (by decide)) (Nat.le_of_ble_eq_true rfl) rfl (fun x => ?_)
  obtain ⟨⟨gp, hD⟩, hT, ⟨num, dr, pl, hnum, hB⟩, ⟨nx, hnx, hrg, hV⟩, hMx⟩ := h
  have htc := hW.1
  have hgc := hW.2.1
  rcases tix_cases (n := zT s) (by omega) t9 with ⟨e1, e2⟩ | ⟨t, ht, rfl, e1⟩
  · rw [show loA s t9 w = -1 by unfold loA; rw [e1]]
    refine gg_aload_n dX6_look_0 rfl rfl ?_
    refine gg_iload_n dX6_look_1 rfl rfl ?_
    refine gg_callV (sp_X6_teacherAt_n hD e2) dX6_look_2 kw_X6_75 rfl hD.1 rfl rfl (Nat.le_of_ble_eq_true rfl) (Nat.le_of_ble_eq_true rfl) (Nat.le_of_ble_eq_true rfl) ⟨(Nat.le_of_ble_eq_true rfl), (Nat.le_of_ble_eq_true rfl)⟩ (fun r S1 hq => ?_)
    refine gg_k (k2 := (0, 0)) rfl ?_
    obtain ⟨e9, rfl⟩ := hq
    rw [e9]
    clear e9 S1
    refine gg_astore_nN dX6_look_5 rfl (Nat.le_of_ble_eq_true rfl) rfl ?_
    refine gg_aload_nN dX6_look_6 rfl rfl ?_
    refine gg_ifnonnullN dX6_look_7 ?_
    refine gg_iconst (v := -1) dX6_look_10 (by decide) ?_
    exact gg_ireturn dX6_look_11 rfl rfl ⟨(Nat.le_of_ble_eq_true rfl), (Nat.le_of_ble_eq_true rfl)⟩ (⟨rfl, rfl⟩)
  · rw [show loA s (nI t) w = lkV (zf s t) (zm s t) w by unfold loA; rw [e1]]
    refine gg_aload_n dX6_look_0 rfl rfl ?_
    refine gg_iload_n dX6_look_1 rfl rfl ?_
    refine gg_callV (sp_X6_teacherAt_y hD hW.1 ht) dX6_look_2 kw_X6_75 rfl hD.1 rfl rfl (Nat.le_of_ble_eq_true rfl) (Nat.le_of_ble_eq_true rfl) (Nat.le_of_ble_eq_true rfl) ⟨(Nat.le_of_ble_eq_true rfl), (Nat.le_of_ble_eq_true rfl)⟩ (fun r S1 hq => ?_)
    refine gg_k (k2 := (0, 0)) rfl ?_
    obtain ⟨e9, rfl⟩ := hq
    rw [e9]
    clear e9 S1
    refine gg_astore_n dX6_look_5 rfl (Nat.le_of_ble_eq_true rfl) rfl ?_
    refine gg_aload_n dX6_look_6 rfl rfl ?_
    refine gg_ifnonnull (tgt := 12) dX6_look_7 (by decide) ?_
    refine gg_iload_n dX6_look_12 rfl rfl ?_
    rcases pk_ix w (n := 9) (by decide) with hw | hw | ⟨j, hj, rfl⟩
    · obtain ⟨ho, hne⟩ := sw_out (n := 9) (by decide) (Or.inl hw)
      refine gg_tabOut (tgt := 109) dX6_look_13 ho (by decide) ?_
      refine gg_iload_n dX6_look_109 rfl rfl ?_
      refine gg_bipush (v := 10) dX6_look_110 (by decide) ?_
      refine gg_bipush (v := 15) dX6_look_112 (by decide) ?_
      refine gg_callS (sp_X6_within S w 10 15) dX6_look_114 kw_X6_61 rfl rfl (Nat.le_of_ble_eq_true rfl) (Nat.le_of_ble_eq_true rfl) (Nat.le_of_ble_eq_true rfl) ⟨(Nat.le_of_ble_eq_true rfl), (Nat.le_of_ble_eq_true rfl)⟩ (fun r S1 hq => ?_)
      refine gg_k (k2 := (0, 0)) rfl ?_
      obtain ⟨e9, rfl⟩ := hq
      rw [e9, show lkV (zf s t) (zm s t) w = (match tix 6 (w - 10) with | some k => zm s t k | none => -1) by unfold lkV; rw [if_neg (hne 0 (by decide)), if_neg (hne 1 (by decide)), if_neg (hne 2 (by decide)), if_neg (hne 3 (by decide)), if_neg (hne 4 (by decide)), if_neg (hne 5 (by decide)), if_neg (hne 6 (by decide)), if_neg (hne 7 (by decide)), if_neg (hne 8 (by decide))]]
      clear e9 S1
      rcases tix_cases (n := 6) (by decide) (w - 10) with ⟨e3, e4⟩ | ⟨k, hk, e4, e3⟩
      · rw [e3, if_neg (fun z => e4 ((w10 6 w 15 (by decide) (by decide)).mpr z))]
        refine gg_k (k2 := (0, 0)) rfl ?_
        refine gg_if_eq (tgt := 131) dX6_look_117 (by decide) (fun c117 => ?_) (fun c117 => ?_)
        · refine gg_iconst (v := -1) dX6_look_131 (by decide) ?_
          exact gg_ireturn dX6_look_132 rfl rfl ⟨(Nat.le_of_ble_eq_true rfl), (Nat.le_of_ble_eq_true rfl)⟩ (⟨rfl, rfl⟩)
        · exact absurd rfl c117
      rw [e3, if_pos ((w10 6 w 15 (by decide) (by decide)).mp (by rw [e4]; exact tix_in (n := 6) (by decide) hk))]
      refine gg_if_eq (tgt := 131) dX6_look_117 (by decide) (fun c117 => ?_) (fun c117 => ?_)
      · exact absurd c117 (by decide)
      · refine gg_aload_n dX6_look_120 rfl rfl ?_
        refine gg_iload_n dX6_look_121 rfl rfl ?_
        refine gg_bipush (v := 10) dX6_look_122 (by decide) ?_
        refine gg_isub dX6_look_124 ?_
        rw [e4]
        refine gg_callV (sp_X4_minutesTo (hD.2.2.2.1 t ht) hk) dX6_look_125 kw_X6_185 rfl (hD.2.2.2.1 t ht).1 rfl rfl (Nat.le_of_ble_eq_true rfl) (Nat.le_of_ble_eq_true rfl) (Nat.le_of_ble_eq_true rfl) ⟨(Nat.le_of_ble_eq_true rfl), (Nat.le_of_ble_eq_true rfl)⟩ (fun r S1 hq => ?_)
        refine gg_k (k2 := (0, 0)) rfl ?_
        obtain ⟨e9, rfl⟩ := hq
        rw [e9]
        clear e9 S1
        refine gg_goto (tgt := 132) dX6_look_128 (by decide) ?_
        exact gg_ireturn dX6_look_132 rfl rfl ⟨(Nat.le_of_ble_eq_true rfl), (Nat.le_of_ble_eq_true rfl)⟩ (⟨rfl, rfl⟩)
    · obtain ⟨ho, hne⟩ := sw_out (n := 9) (by decide) (Or.inr hw)
      refine gg_tabOut (tgt := 109) dX6_look_13 ho (by decide) ?_
      refine gg_iload_n dX6_look_109 rfl rfl ?_
      refine gg_bipush (v := 10) dX6_look_110 (by decide) ?_
      refine gg_bipush (v := 15) dX6_look_112 (by decide) ?_
      refine gg_callS (sp_X6_within S w 10 15) dX6_look_114 kw_X6_61 rfl rfl (Nat.le_of_ble_eq_true rfl) (Nat.le_of_ble_eq_true rfl) (Nat.le_of_ble_eq_true rfl) ⟨(Nat.le_of_ble_eq_true rfl), (Nat.le_of_ble_eq_true rfl)⟩ (fun r S1 hq => ?_)
      refine gg_k (k2 := (0, 0)) rfl ?_
      obtain ⟨e9, rfl⟩ := hq
      rw [e9, show lkV (zf s t) (zm s t) w = (match tix 6 (w - 10) with | some k => zm s t k | none => -1) by unfold lkV; rw [if_neg (hne 0 (by decide)), if_neg (hne 1 (by decide)), if_neg (hne 2 (by decide)), if_neg (hne 3 (by decide)), if_neg (hne 4 (by decide)), if_neg (hne 5 (by decide)), if_neg (hne 6 (by decide)), if_neg (hne 7 (by decide)), if_neg (hne 8 (by decide))]]
      clear e9 S1
      rcases tix_cases (n := 6) (by decide) (w - 10) with ⟨e3, e4⟩ | ⟨k, hk, e4, e3⟩
      · rw [e3, if_neg (fun z => e4 ((w10 6 w 15 (by decide) (by decide)).mpr z))]
        refine gg_k (k2 := (0, 0)) rfl ?_
        refine gg_if_eq (tgt := 131) dX6_look_117 (by decide) (fun c117 => ?_) (fun c117 => ?_)
        · refine gg_iconst (v := -1) dX6_look_131 (by decide) ?_
          exact gg_ireturn dX6_look_132 rfl rfl ⟨(Nat.le_of_ble_eq_true rfl), (Nat.le_of_ble_eq_true rfl)⟩ (⟨rfl, rfl⟩)
        · exact absurd rfl c117
      rw [e3, if_pos ((w10 6 w 15 (by decide) (by decide)).mp (by rw [e4]; exact tix_in (n := 6) (by decide) hk))]
      refine gg_if_eq (tgt := 131) dX6_look_117 (by decide) (fun c117 => ?_) (fun c117 => ?_)
      · exact absurd c117 (by decide)
      · refine gg_aload_n dX6_look_120 rfl rfl ?_
        refine gg_iload_n dX6_look_121 rfl rfl ?_
        refine gg_bipush (v := 10) dX6_look_122 (by decide) ?_
        refine gg_isub dX6_look_124 ?_
        rw [e4]
        refine gg_callV (sp_X4_minutesTo (hD.2.2.2.1 t ht) hk) dX6_look_125 kw_X6_185 rfl (hD.2.2.2.1 t ht).1 rfl rfl (Nat.le_of_ble_eq_true rfl) (Nat.le_of_ble_eq_true rfl) (Nat.le_of_ble_eq_true rfl) ⟨(Nat.le_of_ble_eq_true rfl), (Nat.le_of_ble_eq_true rfl)⟩ (fun r S1 hq => ?_)
        refine gg_k (k2 := (0, 0)) rfl ?_
        obtain ⟨e9, rfl⟩ := hq
        rw [e9]
        clear e9 S1
        refine gg_goto (tgt := 132) dX6_look_128 (by decide) ?_
        exact gg_ireturn dX6_look_132 rfl rfl ⟨(Nat.le_of_ble_eq_true rfl), (Nat.le_of_ble_eq_true rfl)⟩ (⟨rfl, rfl⟩)
    · rcases (show j = 0 ∨ j = 1 ∨ j = 2 ∨ j = 3 ∨ j = 4 ∨ j = 5 ∨ j = 6 ∨ j = 7 ∨ j = 8 by omega) with rfl | rfl | rfl | rfl | rfl | rfl | rfl | rfl | rfl
      · refine gg_tabIn (off := 51) (tgt := 64) dX6_look_13 (by decide) (by decide) (by decide) (by decide) ?_
        refine gg_aload_n dX6_look_64 rfl rfl ?_
        refine gf_X6_164 rfl dX6_look_65 (hD.2.2.2.1 t ht).1 rfl ?_
        exact gg_ireturn dX6_look_68 rfl rfl ⟨(Nat.le_of_ble_eq_true rfl), (Nat.le_of_ble_eq_true rfl)⟩ (⟨rfl, rfl⟩)
      · refine gg_tabIn (off := 56) (tgt := 69) dX6_look_13 (by decide) (by decide) (by decide) (by decide) ?_
        refine gg_aload_n dX6_look_69 rfl rfl ?_
        refine gf_X6_167 rfl dX6_look_70 (hD.2.2.2.1 t ht).1 rfl ?_
        exact gg_ireturn dX6_look_73 rfl rfl ⟨(Nat.le_of_ble_eq_true rfl), (Nat.le_of_ble_eq_true rfl)⟩ (⟨rfl, rfl⟩)
      · refine gg_tabIn (off := 61) (tgt := 74) dX6_look_13 (by decide) (by decide) (by decide) (by decide) ?_
        refine gg_aload_n dX6_look_74 rfl rfl ?_
        refine gf_X6_170 rfl dX6_look_75 (hD.2.2.2.1 t ht).1 rfl ?_
        exact gg_ireturn dX6_look_78 rfl rfl ⟨(Nat.le_of_ble_eq_true rfl), (Nat.le_of_ble_eq_true rfl)⟩ (⟨rfl, rfl⟩)
      · refine gg_tabIn (off := 66) (tgt := 79) dX6_look_13 (by decide) (by decide) (by decide) (by decide) ?_
        refine gg_aload_n dX6_look_79 rfl rfl ?_
        refine gf_X6_173 rfl dX6_look_80 (hD.2.2.2.1 t ht).1 rfl ?_
        exact gg_ireturn dX6_look_83 rfl rfl ⟨(Nat.le_of_ble_eq_true rfl), (Nat.le_of_ble_eq_true rfl)⟩ (⟨rfl, rfl⟩)
      · refine gg_tabIn (off := 71) (tgt := 84) dX6_look_13 (by decide) (by decide) (by decide) (by decide) ?_
        refine gg_aload_n dX6_look_84 rfl rfl ?_
        refine gf_X6_176 rfl dX6_look_85 (hD.2.2.2.1 t ht).1 rfl ?_
        exact gg_ireturn dX6_look_88 rfl rfl ⟨(Nat.le_of_ble_eq_true rfl), (Nat.le_of_ble_eq_true rfl)⟩ (⟨rfl, rfl⟩)
      · refine gg_tabIn (off := 76) (tgt := 89) dX6_look_13 (by decide) (by decide) (by decide) (by decide) ?_
        refine gg_aload_n dX6_look_89 rfl rfl ?_
        refine gf_X6_179 rfl dX6_look_90 (hD.2.2.2.1 t ht).1 rfl ?_
        exact gg_ireturn dX6_look_93 rfl rfl ⟨(Nat.le_of_ble_eq_true rfl), (Nat.le_of_ble_eq_true rfl)⟩ (⟨rfl, rfl⟩)
      · refine gg_tabIn (off := 81) (tgt := 94) dX6_look_13 (by decide) (by decide) (by decide) (by decide) ?_
        refine gg_aload_n dX6_look_94 rfl rfl ?_
        refine gf_X6_182 rfl dX6_look_95 (hD.2.2.2.1 t ht).1 rfl ?_
        exact gg_ireturn dX6_look_98 rfl rfl ⟨(Nat.le_of_ble_eq_true rfl), (Nat.le_of_ble_eq_true rfl)⟩ (⟨rfl, rfl⟩)
      · refine gg_tabIn (off := 86) (tgt := 99) dX6_look_13 (by decide) (by decide) (by decide) (by decide) ?_
        refine gg_aload_n dX6_look_99 rfl rfl ?_
        refine gf_X6_87 rfl dX6_look_100 (hD.2.2.2.1 t ht).1 rfl ?_
        exact gg_ireturn dX6_look_103 rfl rfl ⟨(Nat.le_of_ble_eq_true rfl), (Nat.le_of_ble_eq_true rfl)⟩ (⟨rfl, rfl⟩)
      · refine gg_tabIn (off := 91) (tgt := 104) dX6_look_13 (by decide) (by decide) (by decide) (by decide) ?_
        refine gg_aload_n dX6_look_104 rfl rfl ?_
        refine gf_X6_90 rfl dX6_look_105 (hD.2.2.2.1 t ht).1 rfl ?_
        exact gg_ireturn dX6_look_108 rfl rfl ⟨(Nat.le_of_ble_eq_true rfl), (Nat.le_of_ble_eq_true rfl)⟩ (⟨rfl, rfl⟩)
theorem sp_X6_about {S : gl_H} {s : DS} (h : DP S s) (hW : DW s) (g9 w : Int32) : Sp mX6_about yX6_about [.ref 0, .int g9, .int w] S (fun r S1 => r = some (.int (abA s g9 w)) ∧ S1 = S) := by
  refine gl_enter (j := 1) (by decide +kernel) rfl (fun h => absurd h (by decide)) (Nat.le_of_ble_eq_true rfl) rfl (fun x => ?_)
  obtain ⟨⟨gp, hD⟩, hT, ⟨num, dr, pl, hnum, hB⟩, ⟨nx, hnx, hrg, hV⟩, hMx⟩ := h
  have htc := hW.1
  have hgc := hW.2.1
  rcases tix_cases (n := zG s) (by omega) g9 with ⟨e3, e4⟩ | ⟨j9, hj9, rfl, e3⟩
  · rw [show abA s g9 w = -1 by unfold abA; rw [e3]]
    refine gg_aload_n dX6_about_0 rfl rfl ?_
    refine gg_iload_n dX6_about_1 rfl rfl ?_
    refine gg_callV (sp_X6_gapAt_n hD e4) dX6_about_2 kw_X6_102 rfl hD.1 rfl rfl (Nat.le_of_ble_eq_true rfl) (Nat.le_of_ble_eq_true rfl) (Nat.le_of_ble_eq_true rfl) ⟨(Nat.le_of_ble_eq_true rfl), (Nat.le_of_ble_eq_true rfl)⟩ (fun r S1 hq => ?_)
    refine gg_k (k2 := (0, 0)) rfl ?_
    obtain ⟨e9, rfl⟩ := hq
    rw [e9]
    clear e9 S1
    refine gg_astore_nN dX6_about_5 rfl (Nat.le_of_ble_eq_true rfl) rfl ?_
    refine gg_aload_nN dX6_about_6 rfl rfl ?_
    refine gg_ifnonnullN dX6_about_7 ?_
    refine gg_iconst (v := -1) dX6_about_10 (by decide) ?_
    exact gg_ireturn dX6_about_11 rfl rfl ⟨(Nat.le_of_ble_eq_true rfl), (Nat.le_of_ble_eq_true rfl)⟩ (⟨rfl, rfl⟩)
  · rw [show abA s (nI j9) w = abV (fun k => nI (zg s j9 k)) w by unfold abA; rw [e3]]
    obtain ⟨q, hq0, hq3, hq4, hG⟩ := hD.2.2.2.2.1 j9 hj9
    refine gg_aload_n dX6_about_0 rfl rfl ?_
    refine gg_iload_n dX6_about_1 rfl rfl ?_
    refine gg_callV (sp_X6_gapAt_y hD hW.2.1 hj9 hq0) dX6_about_2 kw_X6_102 rfl hD.1 rfl rfl (Nat.le_of_ble_eq_true rfl) (Nat.le_of_ble_eq_true rfl) (Nat.le_of_ble_eq_true rfl) ⟨(Nat.le_of_ble_eq_true rfl), (Nat.le_of_ble_eq_true rfl)⟩ (fun r S1 hq => ?_)
    refine gg_k (k2 := (0, 0)) rfl ?_
    obtain ⟨e9, rfl⟩ := hq
    rw [e9]
    clear e9 S1
    refine gg_astore_n dX6_about_5 rfl (Nat.le_of_ble_eq_true rfl) rfl ?_
    refine gg_aload_n dX6_about_6 rfl rfl ?_
    refine gg_ifnonnull (tgt := 12) dX6_about_7 (by decide) ?_
    refine gg_iload_n dX6_about_12 rfl rfl ?_
    rcases pk_ix w (n := 5) (by decide) with hw | hw | ⟨j, hj, rfl⟩
    · obtain ⟨ho, hne⟩ := sw_out (n := 5) (by decide) (Or.inl hw)
      refine gg_tabOut (tgt := 73) dX6_about_13 ho (by decide) ?_
      refine gg_iconst (v := -1) dX6_about_73 (by decide) ?_
      exact gg_ireturn dX6_about_74 rfl rfl ⟨(Nat.le_of_ble_eq_true rfl), (Nat.le_of_ble_eq_true rfl)⟩ (⟨by unfold abV; rw [if_neg (hne 0 (by decide)), if_neg (hne 1 (by decide)), if_neg (hne 2 (by decide)), if_neg (hne 3 (by decide)), if_neg (hne 4 (by decide))], rfl⟩)
    · obtain ⟨ho, hne⟩ := sw_out (n := 5) (by decide) (Or.inr hw)
      refine gg_tabOut (tgt := 73) dX6_about_13 ho (by decide) ?_
      refine gg_iconst (v := -1) dX6_about_73 (by decide) ?_
      exact gg_ireturn dX6_about_74 rfl rfl ⟨(Nat.le_of_ble_eq_true rfl), (Nat.le_of_ble_eq_true rfl)⟩ (⟨by unfold abV; rw [if_neg (hne 0 (by decide)), if_neg (hne 1 (by decide)), if_neg (hne 2 (by decide)), if_neg (hne 3 (by decide)), if_neg (hne 4 (by decide))], rfl⟩)
    · rcases (show j = 0 ∨ j = 1 ∨ j = 2 ∨ j = 3 ∨ j = 4 by omega) with rfl | rfl | rfl | rfl | rfl
      · refine gg_tabIn (off := 35) (tgt := 48) dX6_about_13 (by decide) (by decide) (by decide) (by decide) ?_
        refine gg_aload_n dX6_about_48 rfl rfl ?_
        refine gf_X6_188 rfl dX6_about_49 hG rfl ?_
        exact gg_ireturn dX6_about_52 rfl rfl ⟨(Nat.le_of_ble_eq_true rfl), (Nat.le_of_ble_eq_true rfl)⟩ (⟨rfl, rfl⟩)
      · refine gg_tabIn (off := 40) (tgt := 53) dX6_about_13 (by decide) (by decide) (by decide) (by decide) ?_
        refine gg_aload_n dX6_about_53 rfl rfl ?_
        refine gf_X6_191 rfl dX6_about_54 hG rfl ?_
        exact gg_ireturn dX6_about_57 rfl rfl ⟨(Nat.le_of_ble_eq_true rfl), (Nat.le_of_ble_eq_true rfl)⟩ (⟨rfl, rfl⟩)
      · refine gg_tabIn (off := 45) (tgt := 58) dX6_about_13 (by decide) (by decide) (by decide) (by decide) ?_
        refine gg_aload_n dX6_about_58 rfl rfl ?_
        refine gf_X6_194 rfl dX6_about_59 hG rfl ?_
        exact gg_ireturn dX6_about_62 rfl rfl ⟨(Nat.le_of_ble_eq_true rfl), (Nat.le_of_ble_eq_true rfl)⟩ (⟨rfl, rfl⟩)
      · refine gg_tabIn (off := 50) (tgt := 63) dX6_about_13 (by decide) (by decide) (by decide) (by decide) ?_
        refine gg_aload_n dX6_about_63 rfl rfl ?_
        refine gf_X6_197 rfl dX6_about_64 hG rfl ?_
        exact gg_ireturn dX6_about_67 rfl rfl ⟨(Nat.le_of_ble_eq_true rfl), (Nat.le_of_ble_eq_true rfl)⟩ (⟨rfl, rfl⟩)
      · refine gg_tabIn (off := 55) (tgt := 68) dX6_about_13 (by decide) (by decide) (by decide) (by decide) ?_
        refine gg_aload_n dX6_about_68 rfl rfl ?_
        refine gf_X6_200 rfl dX6_about_69 hG rfl ?_
        exact gg_ireturn dX6_about_72 rfl rfl ⟨(Nat.le_of_ble_eq_true rfl), (Nat.le_of_ble_eq_true rfl)⟩ (⟨rfl, rfl⟩)
theorem sp_X6_count {S : gl_H} {s : DS} (h : DP S s) (hW : DW s) (w : Int32) : Sp mX6_count yX6_count [.ref 0, .int w] S (fun r S1 => r = some (.int (cuA s w)) ∧ S1 = S) := by
  refine gl_enter (j := 0) (by decide +kernel) rfl (fun h => absurd h (by decide)) (Nat.le_of_ble_eq_true rfl) rfl (fun x => ?_)
  obtain ⟨⟨gp, hD⟩, hT, ⟨num, dr, pl, hnum, hB⟩, ⟨nx, hnx, hrg, hV⟩, hMx⟩ := h
  have htc := hW.1
  have hgc := hW.2.1
  refine gg_iload_n dX6_count_0 rfl rfl ?_
  rcases pk_ix w (n := 7) (by decide) with hw | hw | ⟨j, hj, rfl⟩
  · obtain ⟨ho, hne⟩ := sw_out (n := 7) (by decide) (Or.inl hw)
    refine gg_tabOut (tgt := 87) dX6_count_1 ho (by decide) ?_
    refine gg_iload_n dX6_count_87 rfl rfl ?_
    refine gg_bipush (v := 10) dX6_count_88 (by decide) ?_
    refine gg_bipush (v := 16) dX6_count_90 (by decide) ?_
    refine gg_callS (sp_X6_within S w 10 16) dX6_count_92 kw_X6_61 rfl rfl (Nat.le_of_ble_eq_true rfl) (Nat.le_of_ble_eq_true rfl) (Nat.le_of_ble_eq_true rfl) ⟨(Nat.le_of_ble_eq_true rfl), (Nat.le_of_ble_eq_true rfl)⟩ (fun r S1 hq => ?_)
    refine gg_k (k2 := (0, 0)) rfl ?_
    obtain ⟨e9, rfl⟩ := hq
    rw [e9, show cuA s w = (match tix 7 (w - 10) with | some k => zr s k | none => -1) by unfold cuA; rw [if_neg (hne 0 (by decide)), if_neg (hne 1 (by decide)), if_neg (hne 2 (by decide)), if_neg (hne 3 (by decide)), if_neg (hne 4 (by decide)), if_neg (hne 5 (by decide)), if_neg (hne 6 (by decide))]]
    clear e9 S1
    rcases tix_cases (n := 7) (by decide) (w - 10) with ⟨e3, e4⟩ | ⟨k, hk, e4, e3⟩
    · rw [e3, if_neg (fun z => e4 ((w10 7 w 16 (by decide) (by decide)).mpr z))]
      refine gg_k (k2 := (0, 0)) rfl ?_
      refine gg_if_eq (tgt := 112) dX6_count_95 (by decide) (fun c95 => ?_) (fun c95 => ?_)
      · refine gg_iconst (v := -1) dX6_count_112 (by decide) ?_
        exact gg_ireturn dX6_count_113 rfl rfl ⟨(Nat.le_of_ble_eq_true rfl), (Nat.le_of_ble_eq_true rfl)⟩ (⟨rfl, rfl⟩)
      · exact absurd rfl c95
    rw [e3, if_pos ((w10 7 w 16 (by decide) (by decide)).mp (by rw [e4]; exact tix_in (n := 7) (by decide) hk))]
    refine gg_if_eq (tgt := 112) dX6_count_95 (by decide) (fun c95 => ?_) (fun c95 => ?_)
    · exact absurd c95 (by decide)
    · refine gg_aload_n dX6_count_98 rfl rfl ?_
      refine gf_X6_19 rfl dX6_count_99 hD.1 rfl ?_
      refine gg_iload_n dX6_count_102 rfl rfl ?_
      refine gg_bipush (v := 10) dX6_count_103 (by decide) ?_
      refine gg_isub dX6_count_105 ?_
      rw [e4]
      refine gg_callV (sp_X2_number hB hk) dX6_count_106 kw_X6_141 rfl hB.1 rfl rfl (Nat.le_of_ble_eq_true rfl) (Nat.le_of_ble_eq_true rfl) (Nat.le_of_ble_eq_true rfl) ⟨(Nat.le_of_ble_eq_true rfl), (Nat.le_of_ble_eq_true rfl)⟩ (fun r S1 hq => ?_)
      refine gg_k (k2 := (0, 0)) rfl ?_
      obtain ⟨e9, rfl⟩ := hq
      rw [e9, hnum k hk]
      clear e9 S1
      refine gg_goto (tgt := 113) dX6_count_109 (by decide) ?_
      exact gg_ireturn dX6_count_113 rfl rfl ⟨(Nat.le_of_ble_eq_true rfl), (Nat.le_of_ble_eq_true rfl)⟩ (⟨rfl, rfl⟩)
  · obtain ⟨ho, hne⟩ := sw_out (n := 7) (by decide) (Or.inr hw)
    refine gg_tabOut (tgt := 87) dX6_count_1 ho (by decide) ?_
    refine gg_iload_n dX6_count_87 rfl rfl ?_
    refine gg_bipush (v := 10) dX6_count_88 (by decide) ?_
    refine gg_bipush (v := 16) dX6_count_90 (by decide) ?_
    refine gg_callS (sp_X6_within S w 10 16) dX6_count_92 kw_X6_61 rfl rfl (Nat.le_of_ble_eq_true rfl) (Nat.le_of_ble_eq_true rfl) (Nat.le_of_ble_eq_true rfl) ⟨(Nat.le_of_ble_eq_true rfl), (Nat.le_of_ble_eq_true rfl)⟩ (fun r S1 hq => ?_)
    refine gg_k (k2 := (0, 0)) rfl ?_
    obtain ⟨e9, rfl⟩ := hq
    rw [e9, show cuA s w = (match tix 7 (w - 10) with | some k => zr s k | none => -1) by unfold cuA; rw [if_neg (hne 0 (by decide)), if_neg (hne 1 (by decide)), if_neg (hne 2 (by decide)), if_neg (hne 3 (by decide)), if_neg (hne 4 (by decide)), if_neg (hne 5 (by decide)), if_neg (hne 6 (by decide))]]
    clear e9 S1
    rcases tix_cases (n := 7) (by decide) (w - 10) with ⟨e3, e4⟩ | ⟨k, hk, e4, e3⟩
    · rw [e3, if_neg (fun z => e4 ((w10 7 w 16 (by decide) (by decide)).mpr z))]
      refine gg_k (k2 := (0, 0)) rfl ?_
      refine gg_if_eq (tgt := 112) dX6_count_95 (by decide) (fun c95 => ?_) (fun c95 => ?_)
      · refine gg_iconst (v := -1) dX6_count_112 (by decide) ?_
        exact gg_ireturn dX6_count_113 rfl rfl ⟨(Nat.le_of_ble_eq_true rfl), (Nat.le_of_ble_eq_true rfl)⟩ (⟨rfl, rfl⟩)
      · exact absurd rfl c95
    rw [e3, if_pos ((w10 7 w 16 (by decide) (by decide)).mp (by rw [e4]; exact tix_in (n := 7) (by decide) hk))]
    refine gg_if_eq (tgt := 112) dX6_count_95 (by decide) (fun c95 => ?_) (fun c95 => ?_)
    · exact absurd c95 (by decide)
    · refine gg_aload_n dX6_count_98 rfl rfl ?_
      refine gf_X6_19 rfl dX6_count_99 hD.1 rfl ?_
      refine gg_iload_n dX6_count_102 rfl rfl ?_
      refine gg_bipush (v := 10) dX6_count_103 (by decide) ?_
      refine gg_isub dX6_count_105 ?_
      rw [e4]
      refine gg_callV (sp_X2_number hB hk) dX6_count_106 kw_X6_141 rfl hB.1 rfl rfl (Nat.le_of_ble_eq_true rfl) (Nat.le_of_ble_eq_true rfl) (Nat.le_of_ble_eq_true rfl) ⟨(Nat.le_of_ble_eq_true rfl), (Nat.le_of_ble_eq_true rfl)⟩ (fun r S1 hq => ?_)
      refine gg_k (k2 := (0, 0)) rfl ?_
      obtain ⟨e9, rfl⟩ := hq
      rw [e9, hnum k hk]
      clear e9 S1
      refine gg_goto (tgt := 113) dX6_count_109 (by decide) ?_
      exact gg_ireturn dX6_count_113 rfl rfl ⟨(Nat.le_of_ble_eq_true rfl), (Nat.le_of_ble_eq_true rfl)⟩ (⟨rfl, rfl⟩)
  · rcases (show j = 0 ∨ j = 1 ∨ j = 2 ∨ j = 3 ∨ j = 4 ∨ j = 5 ∨ j = 6 by omega) with rfl | rfl | rfl | rfl | rfl | rfl | rfl
    · refine gg_tabIn (off := 43) (tgt := 44) dX6_count_1 (by decide) (by decide) (by decide) (by decide) ?_
      refine gg_aload_n dX6_count_44 rfl rfl ?_
      refine gf_X6_106 rfl dX6_count_45 hD.1 rfl ?_
      exact gg_ireturn dX6_count_48 rfl rfl ⟨(Nat.le_of_ble_eq_true rfl), (Nat.le_of_ble_eq_true rfl)⟩ (⟨rfl, rfl⟩)
    · refine gg_tabIn (off := 48) (tgt := 49) dX6_count_1 (by decide) (by decide) (by decide) (by decide) ?_
      refine gg_aload_n dX6_count_49 rfl rfl ?_
      refine gf_X6_69 rfl dX6_count_50 hD.1 rfl ?_
      exact gg_ireturn dX6_count_53 rfl rfl ⟨(Nat.le_of_ble_eq_true rfl), (Nat.le_of_ble_eq_true rfl)⟩ (⟨rfl, rfl⟩)
    · refine gg_tabIn (off := 53) (tgt := 54) dX6_count_1 (by decide) (by decide) (by decide) (by decide) ?_
      refine gg_aload_n dX6_count_54 rfl rfl ?_
      refine gf_X6_93 rfl dX6_count_55 hD.1 rfl ?_
      exact gg_ireturn dX6_count_58 rfl rfl ⟨(Nat.le_of_ble_eq_true rfl), (Nat.le_of_ble_eq_true rfl)⟩ (⟨rfl, rfl⟩)
    · refine gg_tabIn (off := 58) (tgt := 59) dX6_count_1 (by decide) (by decide) (by decide) (by decide) ?_
      refine gg_aload_n dX6_count_59 rfl rfl ?_
      refine gg_iconst (v := 1) dX6_count_60 (by decide) ?_
      refine gg_callV (sp_X6_countInState hD htc 1) dX6_count_61 kw_X6_203 rfl hD.1 rfl rfl (Nat.le_of_ble_eq_true rfl) (Nat.le_of_ble_eq_true rfl) (Nat.le_of_ble_eq_true rfl) ⟨(Nat.le_of_ble_eq_true rfl), (Nat.le_of_ble_eq_true rfl)⟩ (fun r S1 hq => ?_)
      refine gg_k (k2 := (0, 0)) rfl ?_
      obtain ⟨e9, rfl⟩ := hq
      rw [e9]
      clear e9 S1
      exact gg_ireturn dX6_count_64 rfl rfl ⟨(Nat.le_of_ble_eq_true rfl), (Nat.le_of_ble_eq_true rfl)⟩ (⟨rfl, rfl⟩)
    · refine gg_tabIn (off := 64) (tgt := 65) dX6_count_1 (by decide) (by decide) (by decide) (by decide) ?_
      refine gg_aload_n dX6_count_65 rfl rfl ?_
      refine gg_iconst (v := 2) dX6_count_66 (by decide) ?_
      refine gg_callV (sp_X6_countInState hD htc 2) dX6_count_67 kw_X6_203 rfl hD.1 rfl rfl (Nat.le_of_ble_eq_true rfl) (Nat.le_of_ble_eq_true rfl) (Nat.le_of_ble_eq_true rfl) ⟨(Nat.le_of_ble_eq_true rfl), (Nat.le_of_ble_eq_true rfl)⟩ (fun r S1 hq => ?_)
      refine gg_k (k2 := (0, 0)) rfl ?_
      obtain ⟨e9, rfl⟩ := hq
      rw [e9]
      clear e9 S1
      exact gg_ireturn dX6_count_70 rfl rfl ⟨(Nat.le_of_ble_eq_true rfl), (Nat.le_of_ble_eq_true rfl)⟩ (⟨rfl, rfl⟩)
    · refine gg_tabIn (off := 70) (tgt := 71) dX6_count_1 (by decide) (by decide) (by decide) (by decide) ?_
      refine gg_aload_n dX6_count_71 rfl rfl ?_
      refine gf_X6_10 rfl dX6_count_72 hD.1 rfl ?_
      refine gf_X6_57 rfl dX6_count_75 hT.1 rfl ?_
      exact gg_ireturn dX6_count_78 rfl rfl ⟨(Nat.le_of_ble_eq_true rfl), (Nat.le_of_ble_eq_true rfl)⟩ (⟨rfl, rfl⟩)
    · refine gg_tabIn (off := 78) (tgt := 79) dX6_count_1 (by decide) (by decide) (by decide) (by decide) ?_
      refine gg_aload_n dX6_count_79 rfl rfl ?_
      refine gf_X6_38 rfl dX6_count_80 hD.1 rfl ?_
      refine gf_X6_206 rfl dX6_count_83 hV.1 rfl ?_
      exact gg_ireturn dX6_count_86 rfl rfl ⟨(Nat.le_of_ble_eq_true rfl), (Nat.le_of_ble_eq_true rfl)⟩ (⟨rfl, rfl⟩)
def setVi (s : DS) (v : (Nat → Int32) × (Nat → Int32) × (Nat → Int32) × Nat) : DS := (s.1, s.2.1, s.2.2.1, s.2.2.2.1, s.2.2.2.2.1, s.2.2.2.2.2.1, s.2.2.2.2.2.2.1, v)
def vsU (v : (Nat → Int32) × (Nat → Int32) × (Nat → Int32) × Nat) (t sc kl day : Nat) : (Nat → Int32) × (Nat → Int32) × (Nat → Int32) × Nat := (upd v.1 (v.2.2.2 % 400) (nI t), upd v.2.1 (v.2.2.2 % 400) (nI (16 * sc + kl)), upd v.2.2.1 (v.2.2.2 % 400) (nI day), v.2.2.2 + 1)
def edG (s : DS) (t : Nat) : Option Nat := if zf s t 5 = 1 then tix (zG s) (zf s t 6) else none
def edN (s : DS) (t : Nat) : DS := match edG s t with
  | none => setTe s (up2 (zf s) t (sdF (zf s t))) (zm s) (zp s)
  | some g => setVi (setTe s (up2 (zf s) t (sdF (upd (zf s t) 8 (zf s t 8 + 1)))) (zm s) (up2 (zp s) t (zp s t + (wgI (zf s t) (fun k => nI (zg s g k)) (zr s)).toInt64 * (nI (zg s g 4)).toInt64))) (vsU (zv s) t (zg s g 0) (zg s g 1) (zD s))
theorem rg_next {nx n : Nat} (h : rgS nx = n % 400) : rgS (rgS nx + 1) = (n + 1) % 400 := by
  rw [h]
  unfold rgS
  have := Nat.mod_lt n (show 0 < 400 by decide)
  split <;> omega
theorem vK_next (n : Nat) : (if vK n + 1 ≤ 400 then vK n + 1 else 400) = vK (n + 1) := by
  unfold vK
  by_cases h : n < 400
  · rw [if_pos h]
    by_cases h2 : n + 1 < 400
    · rw [if_pos h2, if_pos (by omega)]
    · rw [if_neg h2]
      by_cases h3 : n + 1 ≤ 400
      · rw [if_pos h3]; omega
      · rw [if_neg h3]
  · rw [if_neg h, if_neg (show ¬ n + 1 < 400 by omega), if_neg (by decide)]
theorem PVx.keepIt {S1 : gl_H} {v : (Nat → Int32) × (Nat → Int32) × (Nat → Int32) × Nat} {nx t sc kl day : Nat} (h2 : rgS nx = v.2.2.2 % 400) (h : PV S1 (upd v.1 (rgS nx) (nI t)) (upd v.2.1 (rgS nx) (nI (16 * sc + kl))) (upd v.2.2.1 (rgS nx) (nI day)) (rgS nx + 1) (if vK v.2.2.2 + 1 ≤ 400 then vK v.2.2.2 + 1 else 400)) : PVx S1 (vsU v t sc kl day) := by
  refine ⟨rgS nx + 1, ?_, rg_next h2, ?_⟩
  · have : rgS nx < 400 := by unfold rgS; split <;> omega
    omega
  · rw [vK_next] at h
    rw [h2] at h ⊢
    exact h
theorem up2_up2 {α : Type} (f : Nat → α) (t : Nat) (v w : α) : up2 (up2 f t v) t w = up2 f t w := funext (fun i => by
  unfold up2
  by_cases e : i = t
  · rw [if_pos e, if_pos e]
  · rw [if_neg e, if_neg e, if_neg e])
theorem wg_cong {f h n n' : Nat → Int32} (hn : ∀ j, j < 7 → n j = n' j) : wgI f h n = wgI f h n' := by
  unfold wgI
  rw [hn 4 (by decide), hn 5 (by decide)]
theorem sp_X6_endDayOf {S : gl_H} {s : DS} (h : DP S s) (hW : DW s) {t : Nat} (ht : t < zT s) : Sp mX6_endDayOf yX6_endDayOf [.ref 0, .int (nI t)] S (fun r S1 => r = none ∧ DP S1 (edN s t) ∧ FrD S S1) := by
  refine gl_enter (j := 2) (by decide +kernel) rfl (fun h => absurd h (by decide)) (Nat.le_of_ble_eq_true rfl) rfl (fun x => ?_)
  have h0 := h
  obtain ⟨⟨gp, hD⟩, hT, ⟨num, dr, pl, hnum, hB⟩, ⟨nx, hnx, hrg, hV⟩, hMx⟩ := h
  have htc := hW.1
  have hgc := hW.2.1
  by_cases c5 : zf s t 5 = 1
  · rcases tix_cases (n := zG s) (by omega) (zf s t 6) with ⟨e1, e2⟩ | ⟨j, hj, e2, e1⟩
    · rw [show edN s t = setTe s (up2 (zf s) t (sdF (zf s t))) (zm s) (zp s) by unfold edN edG; rw [if_pos c5, e1]]
      refine gg_aload_n dX6_endDayOf_0 rfl rfl ?_
      refine gg_iload_n dX6_endDayOf_1 rfl rfl ?_
      refine gg_callV (sp_X6_teacherAt_y hD htc ht) dX6_endDayOf_2 kw_X6_75 rfl hD.1 rfl rfl (Nat.le_of_ble_eq_true rfl) (Nat.le_of_ble_eq_true rfl) (Nat.le_of_ble_eq_true rfl) ⟨(Nat.le_of_ble_eq_true rfl), (Nat.le_of_ble_eq_true rfl)⟩ (fun r S1 hq => ?_)
      refine gg_k (k2 := (0, 0)) rfl ?_
      obtain ⟨e9, rfl⟩ := hq
      rw [e9]
      clear e9 S1
      refine gg_astore_n dX6_endDayOf_5 rfl (Nat.le_of_ble_eq_true rfl) rfl ?_
      refine gg_aload_n dX6_endDayOf_6 rfl rfl ?_
      refine gg_ifnonnull (tgt := 11) dX6_endDayOf_7 (by decide) ?_
      refine gg_aload_n dX6_endDayOf_11 rfl rfl ?_
      refine gg_aload_n dX6_endDayOf_12 rfl rfl ?_
      refine gf_X6_176 rfl dX6_endDayOf_13 (hD.2.2.2.1 t ht).1 rfl ?_
      refine gg_callV (sp_X6_gapAt_n hD e2) dX6_endDayOf_16 kw_X6_102 rfl hD.1 rfl rfl (Nat.le_of_ble_eq_true rfl) (Nat.le_of_ble_eq_true rfl) (Nat.le_of_ble_eq_true rfl) ⟨(Nat.le_of_ble_eq_true rfl), (Nat.le_of_ble_eq_true rfl)⟩ (fun r S1 hq => ?_)
      refine gg_k (k2 := (0, 0)) rfl ?_
      obtain ⟨e9, rfl⟩ := hq
      rw [e9]
      clear e9 S1
      refine gg_astore_nN dX6_endDayOf_19 rfl (Nat.le_of_ble_eq_true rfl) rfl ?_
      refine gg_aload_n dX6_endDayOf_20 rfl rfl ?_
      refine gf_X6_173 rfl dX6_endDayOf_21 (hD.2.2.2.1 t ht).1 rfl ?_
      refine gg_iconst (v := 1) dX6_endDayOf_24 (by decide) ?_
      refine gg_icmp_ne (tgt := 54) dX6_endDayOf_25 (by decide) (fun c25 => ?_) (fun c25 => ?_)
      · exact absurd c5 c25
      · refine gg_aload_nN dX6_endDayOf_28 rfl rfl ?_
        refine gg_ifnullN (tgt := 54) dX6_endDayOf_29 (by decide) ?_
        refine gg_aload_n dX6_endDayOf_54 rfl rfl ?_
        refine gg_callV (sp_X4_startDay (hD.2.2.2.1 t ht)) dX6_endDayOf_55 kw_X6_233 rfl (hD.2.2.2.1 t ht).1 rfl rfl (Nat.le_of_ble_eq_true rfl) (Nat.le_of_ble_eq_true rfl) (Nat.le_of_ble_eq_true rfl) ⟨(Nat.le_of_ble_eq_true rfl), (Nat.le_of_ble_eq_true rfl)⟩ (fun r S1 hq => ?_)
        refine gg_k (k2 := (0, 0)) rfl ?_
        obtain ⟨rfl, hE, hf⟩ := hq
        have hN := h0.te hW ht hf hE
        rw [up2_id, up2_id] at hN
        exact gg_return dX6_endDayOf_58 rfl ⟨(Nat.le_of_ble_eq_true rfl), (Nat.le_of_ble_eq_true rfl)⟩ (⟨rfl, hN, hf.D (by omega)⟩)
    · obtain ⟨q, hq0, hq3, hq4, hG⟩ := hD.2.2.2.2.1 j hj
      have hgo := hW.2.2.2.1 j hj
      rw [show edN s t = setVi (setTe s (up2 (zf s) t (sdF (upd (zf s t) 8 (zf s t 8 + 1)))) (zm s) (up2 (zp s) t (zp s t + (wgI (zf s t) (fun k => nI (zg s j k)) (zr s)).toInt64 * (nI (zg s j 4)).toInt64))) (vsU (zv s) t (zg s j 0) (zg s j 1) (zD s)) by unfold edN edG; rw [if_pos c5, e1]]
      refine gg_aload_n dX6_endDayOf_0 rfl rfl ?_
      refine gg_iload_n dX6_endDayOf_1 rfl rfl ?_
      refine gg_callV (sp_X6_teacherAt_y hD htc ht) dX6_endDayOf_2 kw_X6_75 rfl hD.1 rfl rfl (Nat.le_of_ble_eq_true rfl) (Nat.le_of_ble_eq_true rfl) (Nat.le_of_ble_eq_true rfl) ⟨(Nat.le_of_ble_eq_true rfl), (Nat.le_of_ble_eq_true rfl)⟩ (fun r S1 hq => ?_)
      refine gg_k (k2 := (0, 0)) rfl ?_
      obtain ⟨e9, rfl⟩ := hq
      rw [e9]
      clear e9 S1
      refine gg_astore_n dX6_endDayOf_5 rfl (Nat.le_of_ble_eq_true rfl) rfl ?_
      refine gg_aload_n dX6_endDayOf_6 rfl rfl ?_
      refine gg_ifnonnull (tgt := 11) dX6_endDayOf_7 (by decide) ?_
      refine gg_aload_n dX6_endDayOf_11 rfl rfl ?_
      refine gg_aload_n dX6_endDayOf_12 rfl rfl ?_
      refine gf_X6_176 rfl dX6_endDayOf_13 (hD.2.2.2.1 t ht).1 rfl ?_
      rw [e2]
      refine gg_callV (sp_X6_gapAt_y hD hgc hj hq0) dX6_endDayOf_16 kw_X6_102 rfl hD.1 rfl rfl (Nat.le_of_ble_eq_true rfl) (Nat.le_of_ble_eq_true rfl) (Nat.le_of_ble_eq_true rfl) ⟨(Nat.le_of_ble_eq_true rfl), (Nat.le_of_ble_eq_true rfl)⟩ (fun r S1 hq => ?_)
      refine gg_k (k2 := (0, 0)) rfl ?_
      obtain ⟨e9, rfl⟩ := hq
      rw [e9]
      clear e9 S1
      refine gg_astore_n dX6_endDayOf_19 rfl (Nat.le_of_ble_eq_true rfl) rfl ?_
      refine gg_aload_n dX6_endDayOf_20 rfl rfl ?_
      refine gf_X6_173 rfl dX6_endDayOf_21 (hD.2.2.2.1 t ht).1 rfl ?_
      refine gg_iconst (v := 1) dX6_endDayOf_24 (by decide) ?_
      refine gg_icmp_ne (tgt := 54) dX6_endDayOf_25 (by decide) (fun c25 => ?_) (fun c25 => ?_)
      · exact absurd c5 c25
      · refine gg_aload_n dX6_endDayOf_28 rfl rfl ?_
        refine gg_ifnull dX6_endDayOf_29 ?_
        refine gg_aload_n dX6_endDayOf_32 rfl rfl ?_
        refine gg_aload_n dX6_endDayOf_33 rfl rfl ?_
        refine gg_aload_n dX6_endDayOf_34 rfl rfl ?_
        refine gf_X6_19 rfl dX6_endDayOf_35 hD.1 rfl ?_
        refine gg_callV (sp_X4_workAt (sc := 0) (hD.2.2.2.1 t ht) hG hB (by omega) (by omega)) dX6_endDayOf_38 kw_X6_225 rfl (hD.2.2.2.1 t ht).1 rfl rfl (Nat.le_of_ble_eq_true rfl) (Nat.le_of_ble_eq_true rfl) (Nat.le_of_ble_eq_true rfl) ⟨(Nat.le_of_ble_eq_true rfl), (Nat.le_of_ble_eq_true rfl)⟩ (fun r S1 hq => ?_)
        refine gg_k (k2 := (0, 0)) rfl ?_
        obtain ⟨rfl, hE, hf⟩ := hq
        have hN := h0.te hW ht hf hE
        rw [up2_id] at hN
        obtain ⟨⟨gp1, hD1⟩, hT1, hBx1, ⟨nx1, hnx1, hrg1, hV1⟩, hMx1⟩ := hN
        have hD1 : PD S1 (zT s) (zG s) (zD s) (zN s) gp1 (up2 (zf s) t (upd (zf s t) 8 (zf s t 8 + 1))) (zm s) (up2 (zp s) t (zp s t + (wgI (zf s t) (fun k => nI (zg s j k)) num).toInt64 * (nI (zg s j 4)).toInt64)) (zg s) := hD1
        have hG1 : PG S1 q (fun k => nI (zg s j k)) := (hf q (by omega)).trans hG
        refine gg_aload_n dX6_endDayOf_41 rfl rfl ?_
        refine gf_X6_38 rfl dX6_endDayOf_42 hD1.1 rfl ?_
        refine gg_iload_n dX6_endDayOf_45 rfl rfl ?_
        refine gg_aload_n dX6_endDayOf_46 rfl rfl ?_
        refine gg_aload_n dX6_endDayOf_47 rfl rfl ?_
        refine gf_X6_106 rfl dX6_endDayOf_48 hD1.1 rfl ?_
        refine gg_callV (sp_X5_keep hV1 hG1 (by omega) hnx1 (vK_le _) (show t < 12 by omega) rfl hgo.1 rfl hgo.2.1 (show zD s < 2048 by have := hW.2.2.1; omega)) dX6_endDayOf_51 kw_X6_229 rfl hV1.1 rfl rfl (Nat.le_of_ble_eq_true rfl) (Nat.le_of_ble_eq_true rfl) (Nat.le_of_ble_eq_true rfl) ⟨(Nat.le_of_ble_eq_true rfl), (Nat.le_of_ble_eq_true rfl)⟩ (fun r S2 hq => ?_)
        refine gg_k (k2 := (0, 0)) rfl ?_
        obtain ⟨rfl, hV2, hf2⟩ := hq
        have hVx2 := PVx.keepIt (v := zv s) hrg1 hV2
        have hE2 : PE S2 (40 + 2 * t) _ _ _ := hE.keep (hf2 _ (by omega)) (hf2 _ (by omega))
        refine gg_aload_n dX6_endDayOf_54 rfl rfl ?_
        refine gg_callV (sp_X4_startDay hE2) dX6_endDayOf_55 kw_X6_233 rfl hE2.1 rfl rfl (Nat.le_of_ble_eq_true rfl) (Nat.le_of_ble_eq_true rfl) (Nat.le_of_ble_eq_true rfl) ⟨(Nat.le_of_ble_eq_true rfl), (Nat.le_of_ble_eq_true rfl)⟩ (fun r S3 hq => ?_)
        refine gg_k (k2 := (0, 0)) rfl ?_
        obtain ⟨rfl, hE3, hf3⟩ := hq
        have hD2 := hD1.keep htc (hf2.pd (by decide) (by decide))
        have hD3 := PD.te htc hD2 ht hf3 hE3
        exact gg_return dX6_endDayOf_58 rfl ⟨(Nat.le_of_ble_eq_true rfl), (Nat.le_of_ble_eq_true rfl)⟩ (⟨rfl, ⟨⟨gp1, by
                  rw [up2_up2, up2_up2, show up2 (zm s) t (zm s t) = zm s from up2_id _ _, show wgI (zf s t) (fun k => nI (zg s j k)) num = wgI (zf s t) (fun k => nI (zg s j k)) (zr s) from wg_cong hnum] at hD3
                  exact hD3⟩, (hT1.fr2 hf2 (Or.inr (by decide))).fr2 hf3 (Or.inr (by omega)), (hBx1.fr hf2 (Or.inr (by decide))).fr hf3 (Or.inr (by omega)), hVx2.fr hf3 (Or.inr (by omega)), (hMx1.fr hf2 (Or.inl (by decide))).fr hf3 (Or.inr (by omega))⟩, ((hf.D (by omega)).tr (hf2.D (by decide))).tr (hf3.D (by omega))⟩)
  · rw [show edN s t = setTe s (up2 (zf s) t (sdF (zf s t))) (zm s) (zp s) by unfold edN edG; rw [if_neg c5]]
    rcases tix_cases (n := zG s) (by omega) (zf s t 6) with ⟨e1, e2⟩ | ⟨j, hj, e2, e1⟩
    · refine gg_aload_n dX6_endDayOf_0 rfl rfl ?_
      refine gg_iload_n dX6_endDayOf_1 rfl rfl ?_
      refine gg_callV (sp_X6_teacherAt_y hD htc ht) dX6_endDayOf_2 kw_X6_75 rfl hD.1 rfl rfl (Nat.le_of_ble_eq_true rfl) (Nat.le_of_ble_eq_true rfl) (Nat.le_of_ble_eq_true rfl) ⟨(Nat.le_of_ble_eq_true rfl), (Nat.le_of_ble_eq_true rfl)⟩ (fun r S1 hq => ?_)
      refine gg_k (k2 := (0, 0)) rfl ?_
      obtain ⟨e9, rfl⟩ := hq
      rw [e9]
      clear e9 S1
      refine gg_astore_n dX6_endDayOf_5 rfl (Nat.le_of_ble_eq_true rfl) rfl ?_
      refine gg_aload_n dX6_endDayOf_6 rfl rfl ?_
      refine gg_ifnonnull (tgt := 11) dX6_endDayOf_7 (by decide) ?_
      refine gg_aload_n dX6_endDayOf_11 rfl rfl ?_
      refine gg_aload_n dX6_endDayOf_12 rfl rfl ?_
      refine gf_X6_176 rfl dX6_endDayOf_13 (hD.2.2.2.1 t ht).1 rfl ?_
      refine gg_callV (sp_X6_gapAt_n hD e2) dX6_endDayOf_16 kw_X6_102 rfl hD.1 rfl rfl (Nat.le_of_ble_eq_true rfl) (Nat.le_of_ble_eq_true rfl) (Nat.le_of_ble_eq_true rfl) ⟨(Nat.le_of_ble_eq_true rfl), (Nat.le_of_ble_eq_true rfl)⟩ (fun r S1 hq => ?_)
      refine gg_k (k2 := (0, 0)) rfl ?_
      obtain ⟨e9, rfl⟩ := hq
      rw [e9]
      clear e9 S1
      refine gg_astore_nN dX6_endDayOf_19 rfl (Nat.le_of_ble_eq_true rfl) rfl ?_
      refine gg_aload_n dX6_endDayOf_20 rfl rfl ?_
      refine gf_X6_173 rfl dX6_endDayOf_21 (hD.2.2.2.1 t ht).1 rfl ?_
      refine gg_iconst (v := 1) dX6_endDayOf_24 (by decide) ?_
      refine gg_icmp_ne (tgt := 54) dX6_endDayOf_25 (by decide) (fun c25 => ?_) (fun c25 => ?_)
      · refine gg_aload_n dX6_endDayOf_54 rfl rfl ?_
        refine gg_callV (sp_X4_startDay (hD.2.2.2.1 t ht)) dX6_endDayOf_55 kw_X6_233 rfl (hD.2.2.2.1 t ht).1 rfl rfl (Nat.le_of_ble_eq_true rfl) (Nat.le_of_ble_eq_true rfl) (Nat.le_of_ble_eq_true rfl) ⟨(Nat.le_of_ble_eq_true rfl), (Nat.le_of_ble_eq_true rfl)⟩ (fun r S1 hq => ?_)
        refine gg_k (k2 := (0, 0)) rfl ?_
        obtain ⟨rfl, hE, hf⟩ := hq
        have hN := h0.te hW ht hf hE
        rw [up2_id, up2_id] at hN
        exact gg_return dX6_endDayOf_58 rfl ⟨(Nat.le_of_ble_eq_true rfl), (Nat.le_of_ble_eq_true rfl)⟩ (⟨rfl, hN, hf.D (by omega)⟩)
      · exact absurd c25 c5
    · obtain ⟨q, hq0, hq3, hq4, hG⟩ := hD.2.2.2.2.1 j hj
      refine gg_aload_n dX6_endDayOf_0 rfl rfl ?_
      refine gg_iload_n dX6_endDayOf_1 rfl rfl ?_
      refine gg_callV (sp_X6_teacherAt_y hD htc ht) dX6_endDayOf_2 kw_X6_75 rfl hD.1 rfl rfl (Nat.le_of_ble_eq_true rfl) (Nat.le_of_ble_eq_true rfl) (Nat.le_of_ble_eq_true rfl) ⟨(Nat.le_of_ble_eq_true rfl), (Nat.le_of_ble_eq_true rfl)⟩ (fun r S1 hq => ?_)
      refine gg_k (k2 := (0, 0)) rfl ?_
      obtain ⟨e9, rfl⟩ := hq
      rw [e9]
      clear e9 S1
      refine gg_astore_n dX6_endDayOf_5 rfl (Nat.le_of_ble_eq_true rfl) rfl ?_
      refine gg_aload_n dX6_endDayOf_6 rfl rfl ?_
      refine gg_ifnonnull (tgt := 11) dX6_endDayOf_7 (by decide) ?_
      refine gg_aload_n dX6_endDayOf_11 rfl rfl ?_
      refine gg_aload_n dX6_endDayOf_12 rfl rfl ?_
      refine gf_X6_176 rfl dX6_endDayOf_13 (hD.2.2.2.1 t ht).1 rfl ?_
      rw [e2]
      refine gg_callV (sp_X6_gapAt_y hD hgc hj hq0) dX6_endDayOf_16 kw_X6_102 rfl hD.1 rfl rfl (Nat.le_of_ble_eq_true rfl) (Nat.le_of_ble_eq_true rfl) (Nat.le_of_ble_eq_true rfl) ⟨(Nat.le_of_ble_eq_true rfl), (Nat.le_of_ble_eq_true rfl)⟩ (fun r S1 hq => ?_)
      refine gg_k (k2 := (0, 0)) rfl ?_
      obtain ⟨e9, rfl⟩ := hq
      rw [e9]
      clear e9 S1
      refine gg_astore_n dX6_endDayOf_19 rfl (Nat.le_of_ble_eq_true rfl) rfl ?_
      refine gg_aload_n dX6_endDayOf_20 rfl rfl ?_
      refine gf_X6_173 rfl dX6_endDayOf_21 (hD.2.2.2.1 t ht).1 rfl ?_
      refine gg_iconst (v := 1) dX6_endDayOf_24 (by decide) ?_
      refine gg_icmp_ne (tgt := 54) dX6_endDayOf_25 (by decide) (fun c25 => ?_) (fun c25 => ?_)
      · refine gg_aload_n dX6_endDayOf_54 rfl rfl ?_
        refine gg_callV (sp_X4_startDay (hD.2.2.2.1 t ht)) dX6_endDayOf_55 kw_X6_233 rfl (hD.2.2.2.1 t ht).1 rfl rfl (Nat.le_of_ble_eq_true rfl) (Nat.le_of_ble_eq_true rfl) (Nat.le_of_ble_eq_true rfl) ⟨(Nat.le_of_ble_eq_true rfl), (Nat.le_of_ble_eq_true rfl)⟩ (fun r S1 hq => ?_)
        refine gg_k (k2 := (0, 0)) rfl ?_
        obtain ⟨rfl, hE, hf⟩ := hq
        have hN := h0.te hW ht hf hE
        rw [up2_id, up2_id] at hN
        exact gg_return dX6_endDayOf_58 rfl ⟨(Nat.le_of_ble_eq_true rfl), (Nat.le_of_ble_eq_true rfl)⟩ (⟨rfl, hN, hf.D (by omega)⟩)
      · exact absurd c25 c5
def edF (s : DS) : Nat → DS
  | 0 => s
  | t + 1 => edN (edF s t) t
theorem edN_1 (s : DS) (t : Nat) : (edN s t).1 = s.1 ∧ zg (edN s t) = zg s ∧ zn (edN s t) = zn s := by
  unfold edN
  cases edG s t <;> exact ⟨rfl, rfl, rfl⟩
theorem edF_1 (s : DS) : ∀ t, (edF s t).1 = s.1 ∧ zg (edF s t) = zg s ∧ zn (edF s t) = zn s
  | 0 => ⟨rfl, rfl, rfl⟩
  | t + 1 => by
    have h1 := edF_1 s t
    have h2 := edN_1 (edF s t) t
    exact ⟨h2.1.trans h1.1, h2.2.1.trans h1.2.1, h2.2.2.trans h1.2.2⟩
theorem DW.edF {s : DS} (h : DW s) (t : Nat) : DW (edF s t) := by
  obtain ⟨h1, h2, h3⟩ := edF_1 s t
  unfold DW at h ⊢
  unfold zT zG zD at h ⊢
  rw [h1, h2, h3]
  exact h
def setTG (s : DS) (tc gc day n : Nat) : DS := ((tc, gc, day, n), s.2)
def dyN (s : DS) : DS := if zD s < 2000 then setTG (edF s (zT s)) (zT s) 0 (zD s + 1) (zN s) else s
def dyA (s : DS) : Int32 := if zD s < 2000 then nI (zD s + 1) else -1
section PDS
variable {M : gl_M} {x : gl_X} {Z : State → Prop} {pc : Nat} {ls : List (Option Value)} {st : List Value} {S S0 : gl_H} {k : Nat × Nat} {tc gc day N : Nat} {gp : Nat → Option Nat} {tf mn : Nat → Nat → Int32} {pd : Nat → Int64} {gn : Nat → Nat → Nat}
theorem PDs_gc0 (htc : tc ≤ 12) (h : PD S tc gc day N gp tf mn pd gn) (K : ∀ S1, PD S1 tc 0 day N gp tf mn pd gn → Fr 0 1 S S1 → GG M x Z pc ls st S1 k) : GG M x Z pc ls st (gl_pu S 0 (.inr (6, [.ref 3, .ref 5, .ref 1, .ref 2, .ref 8, .ref 12, .int (nI tc), .int 0, .int (nI day)]))) k := K _ ⟨gl_pu_s S _ _, (gl_pu_n S _ (by decide)).trans h.2.1, (gl_pu_n S _ (by decide)).trans h.2.2.1, fun t ht => (h.2.2.2.1 t ht).keep (gl_pu_n S _ (by omega)) (gl_pu_n S _ (by omega)), fun g hg => absurd hg (Nat.not_lt_zero g), fun t h1 h2 => ⟨(gl_pu_n S _ (by omega)).trans (h.2.2.2.2.2.1 t h1 h2).1, (gl_pu_n S _ (by omega)).trans (h.2.2.2.2.2.1 t h1 h2).2⟩, fun q h1 => (gl_pu_n S _ (by omega)).trans (h.2.2.2.2.2.2 q h1)⟩ (Fr.rf.pu (by decide) (by decide))
theorem PDs_day (htc : tc ≤ 12) (d2 : Nat) {v : Int32} (hv : v = nI d2) (h : PD S tc gc day N gp tf mn pd gn) (K : ∀ S1, PD S1 tc gc d2 N gp tf mn pd gn → Fr 0 1 S S1 → GG M x Z pc ls st S1 k) : GG M x Z pc ls st (gl_pu S 0 (.inr (6, [.ref 3, .ref 5, .ref 1, .ref 2, .ref 8, .ref 12, .int (nI tc), .int (nI gc), .int v]))) k := by
  subst hv
  exact K _ ⟨gl_pu_s S _ _, (gl_pu_n S _ (by decide)).trans h.2.1, (gl_pu_n S _ (by decide)).trans h.2.2.1, fun t ht => (h.2.2.2.1 t ht).keep (gl_pu_n S _ (by omega)) (gl_pu_n S _ (by omega)), fun g hg => by
    obtain ⟨q, h1, h2, h3, h4⟩ := h.2.2.2.2.1 g hg
    exact ⟨q, h1, h2, h3, (gl_pu_n S _ (by omega)).trans h4⟩, fun t h1 h2 => ⟨(gl_pu_n S _ (by omega)).trans (h.2.2.2.2.2.1 t h1 h2).1, (gl_pu_n S _ (by omega)).trans (h.2.2.2.2.2.1 t h1 h2).2⟩, fun q h1 => (gl_pu_n S _ (by omega)).trans (h.2.2.2.2.2.2 q h1)⟩ (Fr.rf.pu (by decide) (by decide))
end PDS
theorem dy_loop {S0 : gl_H} {s : DS} (hW : DW s) (x : gl_X) (hd : zD s < 2000) : ∀ (m t : Nat), t + m = zT s → ∀ S, DP S (edF s t) → FrD S0 S → GG mX6_day x (gl_Z mX6_day x (fun r S1 => r = some (.int (dyA s)) ∧ DP S1 (dyN s) ∧ FrD S0 S1)) 14 [some (.ref 0), some (.int (nI t))] [] S (0, 0) := by
  intro m
  induction m with
  | zero =>
    intro t hm S h hf
    have e : t = zT s := by omega
    subst e
    have hW2 := hW.edF (zT s)
    have e1 := edF_1 s (zT s)
    have eT : zT (edF s (zT s)) = zT s := congrArg (fun z => z.1) e1.1
    have eD : zD (edF s (zT s)) = zD s := congrArg (fun z => z.2.2.1) e1.1
    have eN : zN (edF s (zT s)) = zN s := congrArg (fun z => z.2.2.2) e1.1
    obtain ⟨⟨gp, hD⟩, hT, hBx, hVx, hMx⟩ := h
    have htc := hW.1
    rw [eT, eD, eN] at hD
    rw [show dyA s = nI (zD s + 1) from if_pos hd, show dyN s = setTG (edF s (zT s)) (zT s) 0 (zD s + 1) (zN s) from if_pos hd]
    refine gg_iload_n dX6_day_14 rfl rfl ?_
    refine gg_aload_n dX6_day_15 rfl rfl ?_
    refine gf_X6_69 rfl dX6_day_16 hD.1 rfl ?_
    refine gg_icmp_ge (tgt := 33) dX6_day_19 (by decide) (fun c19 => ?_) (fun c19 => ?_)
    · refine gg_aload_n dX6_day_33 rfl rfl ?_
      refine gg_iconst (v := 0) dX6_day_34 (by decide) ?_
      refine pf_X6_93 rfl dX6_day_35 hD.1 (Nat.le_of_ble_eq_true rfl) ?_
      refine PDs_gc0 htc hD (fun S1 hD hf1 => ?_)
      refine gg_aload_n dX6_day_38 rfl rfl ?_
      refine gg_dup dX6_day_39 rfl ?_
      refine gf_X6_106 rfl dX6_day_40 hD.1 rfl ?_
      refine gg_iconst (v := 1) dX6_day_43 (by decide) ?_
      refine gg_iadd dX6_day_44 ?_
      refine pf_X6_106 rfl dX6_day_45 hD.1 (Nat.le_of_ble_eq_true rfl) ?_
      refine PDs_day htc (zD s + 1) (nI_1 _) hD (fun S2 hD hf2 => ?_)
      refine gg_aload_n dX6_day_48 rfl rfl ?_
      refine gf_X6_106 rfl dX6_day_49 hD.1 rfl ?_
      exact gg_ireturn dX6_day_52 rfl rfl ⟨(Nat.le_of_ble_eq_true rfl), (Nat.le_of_ble_eq_true rfl)⟩ (⟨rfl, ⟨⟨gp, hD⟩, (hT.fr2 hf1 (Or.inl (by decide))).fr2 hf2 (Or.inl (by decide)), (hBx.fr hf1 (Or.inl (by decide))).fr hf2 (Or.inl (by decide)), (hVx.fr hf1 (Or.inl (by decide))).fr hf2 (Or.inl (by decide)), (hMx.fr hf1 (Or.inl (by decide))).fr hf2 (Or.inl (by decide))⟩, (hf.tr (hf1.D (by decide))).tr (hf2.D (by decide))⟩)
    · exact absurd (nI_le (Nat.le_refl (zT s)) (by omega)) c19
  | succ m ih =>
    intro t hm S h hf
    have hW2 := hW.edF t
    have e1 := edF_1 s t
    have eT : zT (edF s t) = zT s := congrArg (fun z => z.1) e1.1
    have h0 := h
    obtain ⟨⟨gp, hD⟩, hT, hBx, hVx, hMx⟩ := h
    have htc := hW.1
    rw [eT] at hD
    refine gg_iload_n dX6_day_14 rfl rfl ?_
    refine gg_aload_n dX6_day_15 rfl rfl ?_
    refine gf_X6_69 rfl dX6_day_16 hD.1 rfl ?_
    refine gg_icmp_ge (tgt := 33) dX6_day_19 (by decide) (fun c19 => ?_) (fun c19 => ?_)
    · exact absurd (n_le c19) (by omega)
    · refine gg_aload_n dX6_day_22 rfl rfl ?_
      refine gg_iload_n dX6_day_23 rfl rfl ?_
      refine gg_callV (sp_X6_endDayOf h0 hW2 (show t < zT (edF s t) by omega)) dX6_day_24 kw_X6_153 rfl hD.1 rfl rfl (Nat.le_of_ble_eq_true rfl) (Nat.le_of_ble_eq_true rfl) (Nat.le_of_ble_eq_true rfl) ⟨(Nat.le_of_ble_eq_true rfl), (Nat.le_of_ble_eq_true rfl)⟩ (fun r S1 hq => ?_)
      refine gg_k (k2 := (0, 0)) rfl ?_
      obtain ⟨rfl, hN, hf1⟩ := hq
      refine gg_iinc (w := nI (t + 1)) dX6_day_27 rfl (nI_1 t) (Nat.le_of_ble_eq_true rfl) rfl ?_
      refine gg_goto (tgt := 14) dX6_day_30 (by decide) ?_
      exact ih (t + 1) (by omega) S1 hN (hf.tr hf1)
theorem sp_X6_day {S : gl_H} {s : DS} (h : DP S s) (hW : DW s) : Sp mX6_day yX6_day [.ref 0] S (fun r S1 => r = some (.int (dyA s)) ∧ DP S1 (dyN s) ∧ FrD S S1) := by
  refine gl_enter (j := 1) (by decide +kernel) rfl (fun h => absurd h (by decide)) (Nat.le_of_ble_eq_true rfl) rfl (fun x => ?_)
  have h0 := h
  obtain ⟨⟨gp, hD⟩, hT, hBx, hVx, hMx⟩ := h
  have hd9 := hW.2.2.1
  by_cases hd : zD s < 2000
  · refine gg_aload_n dX6_day_0 rfl rfl ?_
    refine gf_X6_106 rfl dX6_day_1 hD.1 rfl ?_
    refine gg_sipush (v := 2000) dX6_day_4 (by decide) ?_
    refine gg_icmp_lt (tgt := 12) dX6_day_7 (by decide) (fun c7 => ?_) (fun c7 => ?_)
    · refine gg_iconst (v := 0) dX6_day_12 (by decide) ?_
      refine gg_istore_n dX6_day_13 rfl (Nat.le_of_ble_eq_true rfl) rfl ?_
      exact dy_loop hW x hd (zT s) 0 (by omega) S h0 FrD.rf
    · exact absurd (nI_lt (b := 2000) hd (by omega)) c7
  · rw [show dyA s = -1 from if_neg hd, show dyN s = s from if_neg hd]
    refine gg_aload_n dX6_day_0 rfl rfl ?_
    refine gf_X6_106 rfl dX6_day_1 hD.1 rfl ?_
    refine gg_sipush (v := 2000) dX6_day_4 (by decide) ?_
    refine gg_icmp_lt (tgt := 12) dX6_day_7 (by decide) (fun c7 => ?_) (fun c7 => ?_)
    · exact absurd (n_lt (b := 2000) c7) hd
    · refine gg_iconst (v := -1) dX6_day_10 (by decide) ?_
      exact gg_ireturn dX6_day_11 rfl rfl ⟨(Nat.le_of_ble_eq_true rfl), (Nat.le_of_ble_eq_true rfl)⟩ (⟨rfl, h0, FrD.rf⟩)
