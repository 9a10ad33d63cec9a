/-! THE LAW: its loop, its entry -/
theorem lw_loop {x : gl_X} {L : Nat} {xs : Nat → Int32} (hx : gl_Lw x) (hL : L ≤ 3072) (hsc : gl_Scr x L xs) : ∀ (m n : Nat), n + m = 513 → 6 * n ≤ L → ∀ (S : gl_H) (s : DS), DP S s → MP S s → IV s n → GG mL_law x (gl_LZ x) 18 [some (.ref 1000010), some (.ref 0), some (.ref 70), some (.int (nI (6 * n)))] [] S (53 + 2 * n, 48116 + 17 * n) := by
  intro m
  induction m with
  | zero => intro n hm hn; omega
  | succ m ih =>
    intro n hm hnL S s hP hM hI
    refine gg_iload_n dL_law_18 rfl rfl ?_
    refine gg_aload_n dL_law_19 rfl rfl ?_
    refine gg_slen hsc dL_law_20 ?_
    refine gg_bipush (v := 6) dL_law_21 (by decide) ?_
    refine gg_isub dL_law_23 ?_
    have hs6 : (nI L - 6).toInt = (L : Int) - 6 := pk_sub_toInt (a := L) (b := 6) (by omega) (by omega)
    have hs7 : (nI (6 * n)).toInt = ((6 * n : Nat) : Int) := nI_toInt (by omega)
    refine gg_icmp_gt (tgt := 745) dL_law_24 (by decide) (fun c24 => ?_) (fun c24 => ?_)
    · refine gg_iconst (v := 1) dL_law_745 (by decide) ?_
      exact gg_lend hx dL_law_746 ⟨by show 53 + 2 * n ≤ 600000; omega, by show 48116 + 17 * n ≤ 7302250; omega⟩
    · have hn : 6 * n + 6 ≤ L := by
        rw [Int32.lt_iff_toInt_lt, hs6, hs7] at c24
        omega
      refine gg_aload_n dL_law_27 rfl rfl ?_
      refine gg_iload_n dL_law_28 rfl rfl ?_
      refine gg_sld (6 * n) hsc dL_law_29 rfl (by omega) (by omega) ?_
      refine gg_bipush (v := 31) dL_law_30 (by decide) ?_
      refine gg_iand dL_law_32 ?_
      have Kn : ∀ S1 s1, DP S1 s1 → MP S1 s1 → IV s1 (n + 1) → GG mL_law x (gl_LZ x) 739 [some (.ref 1000010), some (.ref 0), some (.ref 70), some (.int (nI (6 * n)))] [] S1 (53 + 2 * (n + 1), 48116 + 17 * (n + 1)) := fun S1 s1 hP1 hM1 hI1 => by
        refine gg_iinc (w := nI (6 * (n + 1))) dL_law_739 rfl (nI_add (6 * n) 6) (Nat.le_of_ble_eq_true rfl) rfl ?_
        refine gg_goto (tgt := 18) dL_law_742 (by decide) ?_
        exact ih (n + 1) (by omega) (by omega) S1 s1 hP1 hM1 hI1
      obtain ⟨j, hj, ej⟩ := w31 (xs (6 * n))
      by_cases e0 : j = 0
      · subst e0
        rw [ej]
        refine gg_tabIn (tgt := 128) dL_law_33 (by decide) (by decide) (off := 95) (by decide) (by decide) ?_
        exact lw_feed hL hsc hn hP hM hI Kn
      by_cases e1 : j = 1
      · subst e1
        rw [ej]
        refine gg_tabIn (tgt := 191) dL_law_33 (by decide) (by decide) (off := 158) (by decide) (by decide) ?_
        exact lw_rules hL hsc hn hP hM hI Kn
      by_cases e2 : j = 2
      · subst e2
        rw [ej]
        refine gg_tabIn (tgt := 214) dL_law_33 (by decide) (by decide) (off := 181) (by decide) (by decide) ?_
        exact lw_teacher hL hsc hn hP hM hI Kn
      by_cases e3 : j = 3
      · subst e3
        rw [ej]
        refine gg_tabIn (tgt := 257) dL_law_33 (by decide) (by decide) (off := 224) (by decide) (by decide) ?_
        exact lw_way hL hsc hn hP hM hI Kn
      by_cases e4 : j = 4
      · subst e4
        rw [ej]
        refine gg_tabIn (tgt := 300) dL_law_33 (by decide) (by decide) (off := 267) (by decide) (by decide) ?_
        exact lw_likes hL hsc hn hP hM hI Kn
      by_cases e5 : j = 5
      · subst e5
        rw [ej]
        refine gg_tabIn (tgt := 343) dL_law_33 (by decide) (by decide) (off := 310) (by decide) (by decide) ?_
        exact lw_gap hL hsc hn hP hM hI Kn
      by_cases e6 : j = 6
      · subst e6
        rw [ej]
        refine gg_tabIn (tgt := 406) dL_law_33 (by decide) (by decide) (off := 373) (by decide) (by decide) ?_
        exact lw_can hL hsc hn hP hM hI Kn
      by_cases e7 : j = 7
      · subst e7
        rw [ej]
        refine gg_tabIn (tgt := 439) dL_law_33 (by decide) (by decide) (off := 406) (by decide) (by decide) ?_
        exact lw_cost hL hsc hn hP hM hI Kn
      by_cases e8 : j = 8
      · subst e8
        rw [ej]
        refine gg_tabIn (tgt := 472) dL_law_33 (by decide) (by decide) (off := 439) (by decide) (by decide) ?_
        exact lw_match hL hsc hn hP hM hI Kn
      by_cases e9 : j = 9
      · subst e9
        rw [ej]
        refine gg_tabIn (tgt := 485) dL_law_33 (by decide) (by decide) (off := 452) (by decide) (by decide) ?_
        exact lw_costs hL hsc hn hP hM hI Kn
      by_cases e10 : j = 10
      · subst e10
        rw [ej]
        refine gg_tabIn (tgt := 498) dL_law_33 (by decide) (by decide) (off := 465) (by decide) (by decide) ?_
        exact lw_who hL hsc hn hP hM hI Kn
      by_cases e11 : j = 11
      · subst e11
        rw [ej]
        refine gg_tabIn (tgt := 521) dL_law_33 (by decide) (by decide) (off := 488) (by decide) (by decide) ?_
        exact lw_next hL hsc hn hP hM hI Kn
      by_cases e12 : j = 12
      · subst e12
        rw [ej]
        refine gg_tabIn (tgt := 534) dL_law_33 (by decide) (by decide) (off := 501) (by decide) (by decide) ?_
        exact lw_answer hL hsc hn hP hM hI Kn
      by_cases e13 : j = 13
      · subst e13
        rw [ej]
        refine gg_tabIn (tgt := 567) dL_law_33 (by decide) (by decide) (off := 534) (by decide) (by decide) ?_
        exact lw_hall hL hsc hn hP hM hI Kn
      by_cases e14 : j = 14
      · subst e14
        rw [ej]
        refine gg_tabIn (tgt := 580) dL_law_33 (by decide) (by decide) (off := 547) (by decide) (by decide) ?_
        exact lw_day hL hsc hn hP hM hI Kn
      by_cases e15 : j = 15
      · subst e15
        rw [ej]
        refine gg_tabIn (tgt := 593) dL_law_33 (by decide) (by decide) (off := 560) (by decide) (by decide) ?_
        exact lw_pay hL hsc hn hP hM hI Kn
      by_cases e16 : j = 16
      · subst e16
        rw [ej]
        refine gg_tabIn (tgt := 617) dL_law_33 (by decide) (by decide) (off := 584) (by decide) (by decide) ?_
        exact lw_strangers hL hsc hn hP hM hI Kn
      by_cases e17 : j = 17
      · subst e17
        rw [ej]
        refine gg_tabIn (tgt := 650) dL_law_33 (by decide) (by decide) (off := 617) (by decide) (by decide) ?_
        exact lw_look hL hsc hn hP hM hI Kn
      by_cases e18 : j = 18
      · subst e18
        rw [ej]
        refine gg_tabIn (tgt := 683) dL_law_33 (by decide) (by decide) (off := 650) (by decide) (by decide) ?_
        exact lw_about hL hsc hn hP hM hI Kn
      by_cases e19 : j = 19
      · subst e19
        rw [ej]
        refine gg_tabIn (tgt := 716) dL_law_33 (by decide) (by decide) (off := 683) (by decide) (by decide) ?_
        exact lw_count hL hsc hn hP hM hI Kn
      rw [ej]
      refine gg_tabOut (tgt := 739) dL_law_33 (Or.inr (by rw [nI_toInt (by omega)]; omega)) (by decide) ?_
      exact gg_wide (k2 := (53 + 2 * (n + 1), 48116 + 17 * (n + 1))) ⟨by show 53 + 2 * n ≤ 53 + 2 * (n + 1); omega, by show 48116 + 17 * n ≤ 48116 + 17 * (n + 1); omega⟩ (Kn S s hP hM hI.up)
theorem lw_entry {x : gl_X} {L : Nat} {xs : Nat → Int32} (hx : gl_Lw x) (hL : L ≤ 3072) (hsc : gl_Scr x L xs) : GG mL_law x (gl_LZ x) 0 [some (.ref 1000010), none, none, none] [] (fun _ => none) (0, 0) := by
  refine gg_new (ci := 6) (fs := [.null, .null, .null, .null, .null, .null, .int 0, .int 0, .int 0]) (ty := tyX6) 0 dL_law_0 igX6 tyX6_ok nw_L_7 rfl (by decide +kernel) (fun v hv r e => by subst e; simp at hv) rfl (by decide) ⟨(Nat.le_of_ble_eq_true rfl), (Nat.le_of_ble_eq_true rfl)⟩ ?_
  refine gg_k (k2 := (1, 9)) rfl ?_
  refine gg_dup dL_law_3 rfl ?_
  refine gg_callI (sp_X6_init (gl_pu_s _ _ _) (fun q h1 h2 => gl_pu_n _ _ (by omega))) dL_law_4 kw_L_9 rfl rfl rfl rfl (Nat.le_of_ble_eq_true rfl) (Nat.le_of_ble_eq_true rfl) (Nat.le_of_ble_eq_true rfl) ⟨(Nat.le_of_ble_eq_true rfl), (Nat.le_of_ble_eq_true rfl)⟩ (fun r S1 hq => ?_)
  refine gg_k (k2 := (28, 1502)) rfl ?_
  obtain ⟨rfl, hP, hf⟩ := hq
  refine gg_astore_n dL_law_7 rfl (Nat.le_of_ble_eq_true rfl) rfl ?_
  have hno : ∀ q, 70 ≤ q → q < 100 → S1 q = none := fun q h1 h2 => (hf q h1 h2).trans (gl_pu_n _ _ (by omega))
  refine gg_new (ci := 7) (fs := [.null, .int 0, .int 0, .int 0, .int 0, .int 0, .null, .null, .null, .null, .null, .null, .null, .null, .null, .null, .null, .null, .null, .null, .null, .null, .null, .null, .null, .null, .null, .int 0, .null, .null, .int 0, .int 0]) (ty := tyX7) 70 dL_law_8 igX7 tyX7_ok nw_L_10 rfl (by decide +kernel) (fun v hv r e => by subst e; simp at hv) (hno 70 (by decide) (by decide)) (by decide) ⟨(Nat.le_of_ble_eq_true rfl), (Nat.le_of_ble_eq_true rfl)⟩ ?_
  refine gg_k (k2 := (29, 1534)) rfl ?_
  refine gg_dup dL_law_11 rfl ?_
  refine gg_callI (sp_X7_init (gl_pu_s _ _ _) (fun q h1 h2 => (gl_pu_n _ _ (by omega)).trans (hno q (by omega) (by omega)))) dL_law_12 kw_L_12 rfl rfl rfl rfl (Nat.le_of_ble_eq_true rfl) (Nat.le_of_ble_eq_true rfl) (Nat.le_of_ble_eq_true rfl) ⟨(Nat.le_of_ble_eq_true rfl), (Nat.le_of_ble_eq_true rfl)⟩ (fun r S2 hq => ?_)
  refine gg_k (k2 := (53, 48116)) rfl ?_
  obtain ⟨rfl, hM, hf2⟩ := hq
  have hP2 := (hP.keepM IV.z.1 (fun q hq => gl_pu_n _ _ (by omega))).keepM IV.z.1 hf2
  refine gg_astore_n dL_law_15 rfl (Nat.le_of_ble_eq_true rfl) rfl ?_
  refine gg_iconst (v := 0) dL_law_16 (by decide) ?_
  refine gg_istore_n dL_law_17 rfl (Nat.le_of_ble_eq_true rfl) rfl ?_
  exact lw_loop hx hL hsc 513 0 rfl (Nat.zero_le _) S2 s00 hP2 hM IV.z
