/-! THE MODEL: teacher, day -/
def wy6 (f : Nat → Int32) (t i : Nat) : Nat → Int32 := fun j => if 6 * t ≤ j ∧ j < 6 * t + i then 30 else f j
theorem wy6_0 (f : Nat → Int32) (t : Nat) : wy6 f t 0 = f := funext (fun j => if_neg (by omega))
theorem wy6_s (f : Nat → Int32) (t i : Nat) : upd (wy6 f t i) (6 * t + i) 30 = wy6 f t (i + 1) := funext (fun j => by
  unfold wy6
  by_cases h : j = 6 * t + i
  · subst h
    rw [pk_us, if_pos (by omega)]
  · rw [pk_un h]
    by_cases h2 : 6 * t ≤ j ∧ j < 6 * t + i
    · rw [if_pos h2, if_pos (by omega)]
    · rw [if_neg h2, if_neg (by omega)])
/-- a new teacher -/
theorem AG.te {A A2 : Nat → Nat → Int32} {py : Nat → Int64} {s : DS} {a b c : Int32} (h : AG A py s) (ht : zT s < 12) (e : ∀ j, j ≠ 3 → j ≠ 4 → j ≠ 5 → j ≠ 6 → j ≠ 10 → A2 j = A j) (h3 : A2 3 = upd (A 3) (zT s) a) (h4 : A2 4 = upd (A 4) (zT s) b) (h5 : A2 5 = upd (A 5) (zT s) c) (h10 : A2 10 = upd (A 10) (zT s) (-1)) (h6 : A2 6 = wy6 (A 6) (zT s) 6) : AG A2 py (setTG (setTe s (up2 (zf s) (zT s) (nwF a b c)) (up2 (zm s) (zT s) mn30) (up2 (zp s) (zT s) 0)) (zT s + 1) (zG s) (zD s) (zN s)) := by
  have hz := h.2.2.2.2.2.1 (zT s) (Nat.le_refl _) ht
  have ek : ∀ k, k < 9 → ∀ t, t ≠ zT s → A2 (tA k) t = A (tA k) t := fun k hk t htt => by
    rcases (show k = 0 ∨ k = 1 ∨ k = 2 ∨ k = 6 ∨ (3 ≤ k ∧ k ≠ 6) by omega) with rfl | rfl | rfl | rfl | hk2
    · show A2 3 t = A 3 t; rw [h3, pk_un htt]
    · show A2 4 t = A 4 t; rw [h4, pk_un htt]
    · show A2 5 t = A 5 t; rw [h5, pk_un htt]
    · show A2 10 t = A 10 t; rw [h10, pk_un htt]
    · have hq : ∀ k, k < 9 → 3 ≤ k ∧ k ≠ 6 → tA k ≠ 3 ∧ tA k ≠ 4 ∧ tA k ≠ 5 ∧ tA k ≠ 6 ∧ tA k ≠ 10 := by decide
      have := hq k hk hk2
      rw [e _ this.1 this.2.1 this.2.2.1 this.2.2.2.1 this.2.2.2.2]
  refine ⟨(e 0 (by decide) (by decide) (by decide) (by decide) (by decide)).trans h.1, fun j hj => ?_, fun t ht2 k hk => ?_, fun t ht2 k hk => ?_, fun t ht2 => ?_, fun t h1 h2 => ?_, fun g hg k hk => ?_, (e 19 (by decide) (by decide) (by decide) (by decide) (by decide)).trans h.2.2.2.2.2.2.2.1, (e 20 (by decide) (by decide) (by decide) (by decide) (by decide)).trans h.2.2.2.2.2.2.2.2.1, (e 21 (by decide) (by decide) (by decide) (by decide) (by decide)).trans h.2.2.2.2.2.2.2.2.2⟩
  · rw [e 1 (by decide) (by decide) (by decide) (by decide) (by decide)]; exact h.2.1 j hj
  · have ht2 : t < zT s + 1 := ht2
    show _ = up2 (zf s) (zT s) (nwF a b c) t k
    by_cases c9 : t = zT s
    · rw [c9, up2_s]
      rcases (show k = 0 ∨ k = 1 ∨ k = 2 ∨ k = 6 ∨ (3 ≤ k ∧ k ≠ 6) by omega) with rfl | rfl | rfl | rfl | hk2
      · show A2 3 (zT s) = a; rw [h3, pk_us]
      · show A2 4 (zT s) = b; rw [h4, pk_us]
      · show A2 5 (zT s) = c; rw [h5, pk_us]
      · show A2 10 (zT s) = -1; rw [h10, pk_us]
      · have hq : ∀ k, k < 9 → 3 ≤ k ∧ k ≠ 6 → tA k ≠ 3 ∧ tA k ≠ 4 ∧ tA k ≠ 5 ∧ tA k ≠ 6 ∧ tA k ≠ 10 := by decide
        have := hq k hk hk2
        rw [e _ this.1 this.2.1 this.2.2.1 this.2.2.2.1 this.2.2.2.2, hz.2 k hk hk2.1 hk2.2]
        rcases (show k = 3 ∨ k = 4 ∨ k = 5 ∨ k = 7 ∨ k = 8 by omega) with rfl | rfl | rfl | rfl | rfl <;> rfl
    · rw [up2_n _ _ c9, ek k hk t c9]
      exact h.2.2.1 t (by omega) k hk
  · have ht2 : t < zT s + 1 := ht2
    show _ = up2 (zm s) (zT s) mn30 t k
    rw [h6]
    by_cases c9 : t = zT s
    · rw [c9, up2_s]
      show wy6 (A 6) (zT s) 6 (6 * zT s + k) = fillN (fun _ => 0) 6 30 k
      unfold wy6 fillN
      rw [if_pos (by omega), if_pos hk]
    · rw [up2_n _ _ c9]
      unfold wy6
      rw [if_neg (by omega)]
      exact h.2.2.2.1 t (by omega) k hk
  · have ht2 : t < zT s + 1 := ht2
    show _ = up2 (zp s) (zT s) 0 t
    by_cases c9 : t = zT s
    · rw [c9, up2_s]; exact hz.1
    · rw [up2_n _ _ c9]; exact h.2.2.2.2.1 t (by omega)
  · have h1 : zT s + 1 ≤ t := h1
    have h8 := h.2.2.2.2.2.1 t (by omega) h2
    exact ⟨h8.1, fun k hk hk3 hk6 => by rw [ek k hk t (by omega)]; exact h8.2 k hk hk3 hk6⟩
  · rw [e (14 + k) (by omega) (by omega) (by omega) (by omega) (by omega)]; exact h.2.2.2.2.2.2.1 g hg k hk
theorem te_loop {S0 : gl_H} {A : Nat → Nat → Int32} {py : Nat → Int64} {n day tc gc vs : Nat} {fr mt mc a b c : Int32} (htc : tc < 12) (x : gl_X) : ∀ (m i : Nat) (S : gl_H), i + m = 6 → MPR S (up2 A 6 (wy6 (A 6) tc i)) (py) (n) (day) (tc) (gc) (vs) (fr) (mt) (mc) → Fr 70 95 S0 S → GG mX7_teacher x (gl_Z mX7_teacher x (fun r S1 => r = some (.int (nI tc)) ∧ MPR S1 (up2 A 6 (wy6 (A 6) tc 6)) (py) (n) (day) (tc + 1) (gc) (vs) (0) (mt) (mc) ∧ Fr 70 95 S0 S1)) 86 [some (.ref 70), some (.int a), some (.int b), some (.int c), some (.int (nI i))] [] S (0, 0) := by
  intro m
  induction m with
  | zero =>
    intro i S h1 hM hf
    have e : i = 6 := by omega
    subst e
    refine gg_iload dX7_teacher_86 rfl ?_
    refine gg_bipush (v := 6) dX7_teacher_88 (by decide) ?_
    refine gg_icmp_ge (tgt := 116) dX7_teacher_90 (by decide) (fun c90 => ?_) (fun c90 => ?_)
    · refine gg_aload_n dX7_teacher_116 rfl rfl ?_
      refine gg_dup dX7_teacher_117 rfl ?_
      refine gf_X7_120 rfl dX7_teacher_118 hM.1 rfl ?_
      refine gg_iconst (v := 1) dX7_teacher_121 (by decide) ?_
      refine gg_iadd dX7_teacher_122 ?_
      refine pf_X7_120 rfl dX7_teacher_123 hM.1 (Nat.le_of_ble_eq_true rfl) ?_
      refine MPs_tc (tc + 1) (nI_1 _) hM hf (fun S hM hf => ?_)
      refine gg_aload_n dX7_teacher_126 rfl rfl ?_
      refine gg_iconst (v := 0) dX7_teacher_127 (by decide) ?_
      refine pf_X7_116 rfl dX7_teacher_128 hM.1 (Nat.le_of_ble_eq_true rfl) rfl rfl ?_
      refine MPs_fr hM hf (fun S hM hf => ?_)
      refine gg_aload_n dX7_teacher_131 rfl rfl ?_
      refine gf_X7_120 rfl dX7_teacher_132 hM.1 rfl ?_
      refine gg_iconst (v := 1) dX7_teacher_135 (by decide) ?_
      refine gg_isub dX7_teacher_136 ?_
      rw [nI_pred]
      exact gg_ireturn dX7_teacher_137 rfl rfl ⟨(Nat.le_of_ble_eq_true rfl), (Nat.le_of_ble_eq_true rfl)⟩ (⟨rfl, hM, hf⟩)
    · exact absurd (nI_le (Nat.le_refl 6) (by omega)) c90
  | succ m ih =>
    intro i S h1 hM hf
    refine gg_iload dX7_teacher_86 rfl ?_
    refine gg_bipush (v := 6) dX7_teacher_88 (by decide) ?_
    refine gg_icmp_ge (tgt := 116) dX7_teacher_90 (by decide) (fun c90 => ?_) (fun c90 => ?_)
    · exact absurd (n_le (a := 6) (b := i) c90) (by omega)
    · refine gg_aload_n dX7_teacher_93 rfl rfl ?_
      refine gf_X7_29 rfl dX7_teacher_94 hM.1 rfl ?_
      refine gg_bipush (v := 6) dX7_teacher_97 (by decide) ?_
      refine gg_aload_n dX7_teacher_99 rfl rfl ?_
      refine gf_X7_120 rfl dX7_teacher_100 hM.1 rfl ?_
      refine gg_imul dX7_teacher_103 ?_
      refine gg_iload dX7_teacher_104 rfl ?_
      refine gg_iadd dX7_teacher_106 ?_
      refine gg_bipush (v := 30) dX7_teacher_107 (by decide) ?_
      refine gg_ast_i (6 * tc + i) dX7_teacher_109 hM.a6 (m6 _ _) (by omega) (by decide) ?_
      refine MPs_6 hM hf (fun S hM hf => ?_)
      rw [up2_2, up2_s, wy6_s] at hM
      refine gg_iinc (w := nI (i + 1)) dX7_teacher_110 rfl (nI_1 i) (Nat.le_of_ble_eq_true rfl) rfl ?_
      refine gg_goto (tgt := 86) dX7_teacher_113 (by decide) ?_
      exact ih (i + 1) S (by omega) hM hf
theorem sp_M_teacher {S : gl_H} {s : DS} (h : MP S s) (hW : DW s) (a b c : Int32) : Sp mX7_teacher yX7_teacher [.ref 70, .int a, .int b, .int c] S (fun r S1 => r = some (.int (teA s (teN s a b c))) ∧ MP S1 ((teN s a b c).getD s) ∧ Fr 70 95 S S1) := by
  refine gl_enter (j := 1) (by decide +kernel) rfl (fun h => absurd h (by decide)) (Nat.le_of_ble_eq_true rfl) rfl (fun x => ?_)
  obtain ⟨A, py, fr, mt, mc, hM, hG, hF⟩ := h
  have hf : Fr 70 95 S S := Fr.rf
  have htc := hW.1
  have hgc := hW.2.1
  have hgn := hW.2.2.2.1
  by_cases ct : zT s < 12
  · by_cases ca : 0 ≤ a ∧ a ≤ 255
    · by_cases cb : 0 ≤ b ∧ b ≤ 15
      · by_cases cc : 0 ≤ c ∧ c ≤ 3000
        · rw [show teN s a b c = _ from if_pos ⟨ct, ca, cb, cc⟩]
          refine gg_aload_n dX7_teacher_0 rfl rfl ?_
          refine gf_X7_120 rfl dX7_teacher_1 hM.1 rfl ?_
          refine gg_bipush (v := 12) dX7_teacher_4 (by decide) ?_
          refine gg_icmp_eq (tgt := 41) dX7_teacher_6 (by decide) (fun c6 => ?_) (fun c6 => ?_)
          · exact absurd (n_eq (a := zT s) (b := 12) c6) (by omega)
          · refine gg_iload_n dX7_teacher_9 rfl rfl ?_
            refine gg_iconst (v := 0) dX7_teacher_10 (by decide) ?_
            refine gg_sipush (v := 255) dX7_teacher_11 (by decide) ?_
            refine gg_callS (sp_X7_lies S a 0 255) dX7_teacher_14 kw_X7_97 rfl rfl (Nat.le_of_ble_eq_true rfl) (Nat.le_of_ble_eq_true rfl) (Nat.le_of_ble_eq_true rfl) ⟨(Nat.le_of_ble_eq_true rfl), (Nat.le_of_ble_eq_true rfl)⟩ (fun r S1 hq => ?_)
            refine gg_k (k2 := (0, 0)) rfl ?_
            obtain ⟨e9, rfl⟩ := hq
            rw [e9, if_pos ca]
            clear e9 S1
            refine gg_if_eq (tgt := 41) dX7_teacher_17 (by decide) (fun c17 => ?_) (fun c17 => ?_)
            · exact absurd c17 (by decide)
            · refine gg_iload_n dX7_teacher_20 rfl rfl ?_
              refine gg_iconst (v := 0) dX7_teacher_21 (by decide) ?_
              refine gg_bipush (v := 15) dX7_teacher_22 (by decide) ?_
              refine gg_callS (sp_X7_lies S b 0 15) dX7_teacher_24 kw_X7_97 rfl rfl (Nat.le_of_ble_eq_true rfl) (Nat.le_of_ble_eq_true rfl) (Nat.le_of_ble_eq_true rfl) ⟨(Nat.le_of_ble_eq_true rfl), (Nat.le_of_ble_eq_true rfl)⟩ (fun r S1 hq => ?_)
              refine gg_k (k2 := (0, 0)) rfl ?_
              obtain ⟨e9, rfl⟩ := hq
              rw [e9, if_pos cb]
              clear e9 S1
              refine gg_if_eq (tgt := 41) dX7_teacher_27 (by decide) (fun c27 => ?_) (fun c27 => ?_)
              · exact absurd c27 (by decide)
              · refine gg_iload_n dX7_teacher_30 rfl rfl ?_
                refine gg_iconst (v := 0) dX7_teacher_31 (by decide) ?_
                refine gg_sipush (v := 3000) dX7_teacher_32 (by decide) ?_
                refine gg_callS (sp_X7_lies S c 0 3000) dX7_teacher_35 kw_X7_97 rfl rfl (Nat.le_of_ble_eq_true rfl) (Nat.le_of_ble_eq_true rfl) (Nat.le_of_ble_eq_true rfl) ⟨(Nat.le_of_ble_eq_true rfl), (Nat.le_of_ble_eq_true rfl)⟩ (fun r S1 hq => ?_)
                refine gg_k (k2 := (0, 0)) rfl ?_
                obtain ⟨e9, rfl⟩ := hq
                rw [e9, if_pos cc]
                clear e9 S1
                refine gg_if_ne (tgt := 43) dX7_teacher_38 (by decide) (fun c38 => ?_) (fun c38 => ?_)
                · refine gg_aload_n dX7_teacher_43 rfl rfl ?_
                  refine gf_X7_20 rfl dX7_teacher_44 hM.1 rfl ?_
                  refine gg_aload_n dX7_teacher_47 rfl rfl ?_
                  refine gf_X7_120 rfl dX7_teacher_48 hM.1 rfl ?_
                  refine gg_iload_n dX7_teacher_51 rfl rfl ?_
                  refine gg_ast_i (zT s) dX7_teacher_52 hM.a3 rfl (by omega) (by decide) ?_
                  refine MPs_3 hM hf (fun S hM hf => ?_)
                  refine gg_aload_n dX7_teacher_53 rfl rfl ?_
                  refine gf_X7_23 rfl dX7_teacher_54 hM.1 rfl ?_
                  refine gg_aload_n dX7_teacher_57 rfl rfl ?_
                  refine gf_X7_120 rfl dX7_teacher_58 hM.1 rfl ?_
                  refine gg_iload_n dX7_teacher_61 rfl rfl ?_
                  refine gg_ast_i (zT s) dX7_teacher_62 hM.a4 rfl (by omega) (by decide) ?_
                  refine MPs_4 hM hf (fun S hM hf => ?_)
                  refine gg_aload_n dX7_teacher_63 rfl rfl ?_
                  refine gf_X7_26 rfl dX7_teacher_64 hM.1 rfl ?_
                  refine gg_aload_n dX7_teacher_67 rfl rfl ?_
                  refine gf_X7_120 rfl dX7_teacher_68 hM.1 rfl ?_
                  refine gg_iload_n dX7_teacher_71 rfl rfl ?_
                  refine gg_ast_i (zT s) dX7_teacher_72 hM.a5 rfl (by omega) (by decide) ?_
                  refine MPs_5 hM hf (fun S hM hf => ?_)
                  refine gg_aload_n dX7_teacher_73 rfl rfl ?_
                  refine gf_X7_41 rfl dX7_teacher_74 hM.1 rfl ?_
                  refine gg_aload_n dX7_teacher_77 rfl rfl ?_
                  refine gf_X7_120 rfl dX7_teacher_78 hM.1 rfl ?_
                  refine gg_iconst (v := -1) dX7_teacher_81 (by decide) ?_
                  refine gg_ast_i (zT s) dX7_teacher_82 hM.a10 rfl (by omega) (by decide) ?_
                  refine MPs_10 hM hf (fun S hM hf => ?_)
                  refine gg_iconst (v := 0) dX7_teacher_83 (by decide) ?_
                  refine gg_istore dX7_teacher_84 (Nat.le_of_ble_eq_true rfl) rfl ?_
                  have hM2 := hM
                  rw [← up2_id (up2 (up2 (up2 (up2 A 3 _) 4 _) 5 _) 10 _) 6, ← wy6_0 ((up2 (up2 (up2 (up2 A 3 _) 4 _) 5 _) 10 _) 6) (zT s)] at hM2
                  refine gg_Q ?_ (te_loop ct x 6 0 S (by omega) hM2 hf)
                  rintro r S1 ⟨q1, q2, q3⟩
                  refine ⟨q1, ⟨_, py, 0, mt, mc, q2, hG.te ct (fun j h3 h4 h5 h6 h10 => ?_) rfl rfl rfl rfl rfl, Or.inl rfl⟩, q3⟩
                  rw [up2_n _ _ h6, up2_n _ _ h10, up2_n _ _ h5, up2_n _ _ h4, up2_n _ _ h3]
                · exact absurd c38 (by decide)
        · rw [show teN s a b c = none from if_neg (fun z => cc z.2.2.2)]
          refine gg_aload_n dX7_teacher_0 rfl rfl ?_
          refine gf_X7_120 rfl dX7_teacher_1 hM.1 rfl ?_
          refine gg_bipush (v := 12) dX7_teacher_4 (by decide) ?_
          refine gg_icmp_eq (tgt := 41) dX7_teacher_6 (by decide) (fun c6 => ?_) (fun c6 => ?_)
          · exact absurd (n_eq (a := zT s) (b := 12) c6) (by omega)
          · refine gg_iload_n dX7_teacher_9 rfl rfl ?_
            refine gg_iconst (v := 0) dX7_teacher_10 (by decide) ?_
            refine gg_sipush (v := 255) dX7_teacher_11 (by decide) ?_
            refine gg_callS (sp_X7_lies S a 0 255) dX7_teacher_14 kw_X7_97 rfl rfl (Nat.le_of_ble_eq_true rfl) (Nat.le_of_ble_eq_true rfl) (Nat.le_of_ble_eq_true rfl) ⟨(Nat.le_of_ble_eq_true rfl), (Nat.le_of_ble_eq_true rfl)⟩ (fun r S1 hq => ?_)
            refine gg_k (k2 := (0, 0)) rfl ?_
            obtain ⟨e9, rfl⟩ := hq
            rw [e9, if_pos ca]
            clear e9 S1
            refine gg_if_eq (tgt := 41) dX7_teacher_17 (by decide) (fun c17 => ?_) (fun c17 => ?_)
            · exact absurd c17 (by decide)
            · refine gg_iload_n dX7_teacher_20 rfl rfl ?_
              refine gg_iconst (v := 0) dX7_teacher_21 (by decide) ?_
              refine gg_bipush (v := 15) dX7_teacher_22 (by decide) ?_
              refine gg_callS (sp_X7_lies S b 0 15) dX7_teacher_24 kw_X7_97 rfl rfl (Nat.le_of_ble_eq_true rfl) (Nat.le_of_ble_eq_true rfl) (Nat.le_of_ble_eq_true rfl) ⟨(Nat.le_of_ble_eq_true rfl), (Nat.le_of_ble_eq_true rfl)⟩ (fun r S1 hq => ?_)
              refine gg_k (k2 := (0, 0)) rfl ?_
              obtain ⟨e9, rfl⟩ := hq
              rw [e9, if_pos cb]
              clear e9 S1
              refine gg_if_eq (tgt := 41) dX7_teacher_27 (by decide) (fun c27 => ?_) (fun c27 => ?_)
              · exact absurd c27 (by decide)
              · refine gg_iload_n dX7_teacher_30 rfl rfl ?_
                refine gg_iconst (v := 0) dX7_teacher_31 (by decide) ?_
                refine gg_sipush (v := 3000) dX7_teacher_32 (by decide) ?_
                refine gg_callS (sp_X7_lies S c 0 3000) dX7_teacher_35 kw_X7_97 rfl rfl (Nat.le_of_ble_eq_true rfl) (Nat.le_of_ble_eq_true rfl) (Nat.le_of_ble_eq_true rfl) ⟨(Nat.le_of_ble_eq_true rfl), (Nat.le_of_ble_eq_true rfl)⟩ (fun r S1 hq => ?_)
                refine gg_k (k2 := (0, 0)) rfl ?_
                obtain ⟨e9, rfl⟩ := hq
                rw [e9, if_neg cc]
                clear e9 S1
                refine gg_if_ne (tgt := 43) dX7_teacher_38 (by decide) (fun c38 => ?_) (fun c38 => ?_)
                · exact absurd rfl c38
                · refine gg_iconst (v := -1) dX7_teacher_41 (by decide) ?_
                  exact gg_ireturn dX7_teacher_42 rfl rfl ⟨(Nat.le_of_ble_eq_true rfl), (Nat.le_of_ble_eq_true rfl)⟩ (⟨rfl, ⟨A, py, fr, mt, mc, hM, hG, hF⟩, hf⟩)
      · rw [show teN s a b c = none from if_neg (fun z => cb z.2.2.1)]
        refine gg_aload_n dX7_teacher_0 rfl rfl ?_
        refine gf_X7_120 rfl dX7_teacher_1 hM.1 rfl ?_
        refine gg_bipush (v := 12) dX7_teacher_4 (by decide) ?_
        refine gg_icmp_eq (tgt := 41) dX7_teacher_6 (by decide) (fun c6 => ?_) (fun c6 => ?_)
        · exact absurd (n_eq (a := zT s) (b := 12) c6) (by omega)
        · refine gg_iload_n dX7_teacher_9 rfl rfl ?_
          refine gg_iconst (v := 0) dX7_teacher_10 (by decide) ?_
          refine gg_sipush (v := 255) dX7_teacher_11 (by decide) ?_
          refine gg_callS (sp_X7_lies S a 0 255) dX7_teacher_14 kw_X7_97 rfl rfl (Nat.le_of_ble_eq_true rfl) (Nat.le_of_ble_eq_true rfl) (Nat.le_of_ble_eq_true rfl) ⟨(Nat.le_of_ble_eq_true rfl), (Nat.le_of_ble_eq_true rfl)⟩ (fun r S1 hq => ?_)
          refine gg_k (k2 := (0, 0)) rfl ?_
          obtain ⟨e9, rfl⟩ := hq
          rw [e9, if_pos ca]
          clear e9 S1
          refine gg_if_eq (tgt := 41) dX7_teacher_17 (by decide) (fun c17 => ?_) (fun c17 => ?_)
          · exact absurd c17 (by decide)
          · refine gg_iload_n dX7_teacher_20 rfl rfl ?_
            refine gg_iconst (v := 0) dX7_teacher_21 (by decide) ?_
            refine gg_bipush (v := 15) dX7_teacher_22 (by decide) ?_
            refine gg_callS (sp_X7_lies S b 0 15) dX7_teacher_24 kw_X7_97 rfl rfl (Nat.le_of_ble_eq_true rfl) (Nat.le_of_ble_eq_true rfl) (Nat.le_of_ble_eq_true rfl) ⟨(Nat.le_of_ble_eq_true rfl), (Nat.le_of_ble_eq_true rfl)⟩ (fun r S1 hq => ?_)
            refine gg_k (k2 := (0, 0)) rfl ?_
            obtain ⟨e9, rfl⟩ := hq
            rw [e9, if_neg cb]
            clear e9 S1
            refine gg_if_eq (tgt := 41) dX7_teacher_27 (by decide) (fun c27 => ?_) (fun c27 => ?_)
            · refine gg_iconst (v := -1) dX7_teacher_41 (by decide) ?_
              exact gg_ireturn dX7_teacher_42 rfl rfl ⟨(Nat.le_of_ble_eq_true rfl), (Nat.le_of_ble_eq_true rfl)⟩ (⟨rfl, ⟨A, py, fr, mt, mc, hM, hG, hF⟩, hf⟩)
            · exact absurd rfl c27
    · rw [show teN s a b c = none from if_neg (fun z => ca z.2.1)]
      refine gg_aload_n dX7_teacher_0 rfl rfl ?_
      refine gf_X7_120 rfl dX7_teacher_1 hM.1 rfl ?_
      refine gg_bipush (v := 12) dX7_teacher_4 (by decide) ?_
      refine gg_icmp_eq (tgt := 41) dX7_teacher_6 (by decide) (fun c6 => ?_) (fun c6 => ?_)
      · exact absurd (n_eq (a := zT s) (b := 12) c6) (by omega)
      · refine gg_iload_n dX7_teacher_9 rfl rfl ?_
        refine gg_iconst (v := 0) dX7_teacher_10 (by decide) ?_
        refine gg_sipush (v := 255) dX7_teacher_11 (by decide) ?_
        refine gg_callS (sp_X7_lies S a 0 255) dX7_teacher_14 kw_X7_97 rfl rfl (Nat.le_of_ble_eq_true rfl) (Nat.le_of_ble_eq_true rfl) (Nat.le_of_ble_eq_true rfl) ⟨(Nat.le_of_ble_eq_true rfl), (Nat.le_of_ble_eq_true rfl)⟩ (fun r S1 hq => ?_)
        refine gg_k (k2 := (0, 0)) rfl ?_
        obtain ⟨e9, rfl⟩ := hq
        rw [e9, if_neg ca]
        clear e9 S1
        refine gg_if_eq (tgt := 41) dX7_teacher_17 (by decide) (fun c17 => ?_) (fun c17 => ?_)
        · refine gg_iconst (v := -1) dX7_teacher_41 (by decide) ?_
          exact gg_ireturn dX7_teacher_42 rfl rfl ⟨(Nat.le_of_ble_eq_true rfl), (Nat.le_of_ble_eq_true rfl)⟩ (⟨rfl, ⟨A, py, fr, mt, mc, hM, hG, hF⟩, hf⟩)
        · exact absurd rfl c17
  · rw [show teN s a b c = none from if_neg (fun z => ct z.1)]
    refine gg_aload_n dX7_teacher_0 rfl rfl ?_
    refine gf_X7_120 rfl dX7_teacher_1 hM.1 rfl ?_
    refine gg_bipush (v := 12) dX7_teacher_4 (by decide) ?_
    refine gg_icmp_eq (tgt := 41) dX7_teacher_6 (by decide) (fun c6 => ?_) (fun c6 => ?_)
    · refine gg_iconst (v := -1) dX7_teacher_41 (by decide) ?_
      exact gg_ireturn dX7_teacher_42 rfl rfl ⟨(Nat.le_of_ble_eq_true rfl), (Nat.le_of_ble_eq_true rfl)⟩ (⟨rfl, ⟨A, py, fr, mt, mc, hM, hG, hF⟩, hf⟩)
    · exact absurd (congrArg nI (show zT s = 12 by omega)) c6
/-- the rules are numbers up to 9999 -/
def RW (s : DS) : Prop := ∀ j, j < 7 → ∃ m, m ≤ 9999 ∧ zr s j = nI m
theorem pay_e {h m : Nat} (hh : h ≤ 8) (hm : m ≤ 20000) : (nI h * nI m).toInt64 = (nI m).toInt64 * (nI h).toInt64 := by
  apply Int64.toInt_inj.mp
  have h1 : h * m ≤ 8 * 20000 := Nat.mul_le_mul hh hm
  rw [pk_mul, Int32.toInt_toInt64, Int64.toInt_mul, Int32.toInt_toInt64, Int32.toInt_toInt64, nI_toInt (by omega), nI_toInt (by omega), nI_toInt (by omega), ← Int.natCast_mul, Nat.mul_comm m h, Int.bmod_def]
  omega
def gyN (s : DS) (t g : Nat) : DS := setVi (setTe s (up2 (zf s) t (upd (zf s t) 8 (zf s t 8 + 1))) (zm s) (up2 (zp s) t (zp s t + (wgI (zf s t) (fun k => nI (zg s g k)) (zr s)).toInt64 * (nI (zg s g 4)).toInt64))) (vsU (zv s) t (zg s g 0) (zg s g 1) (zD s))
theorem pay_y {s : DS} {t g m4 m5 : Nat} (hm4 : m4 ≤ 9999) (hm5 : m5 ≤ 9999) (e4 : zr s 4 = nI m4) (e5 : zr s 5 = nI m5) (h8 : zg s g 4 ≤ 8) (e1 : hb_ (zf s t 0) (nI (zg s g 2)) = true) (p : Int64) : p + (nI (zg s g 4) * (zr s 4 + zr s 5)).toInt64 = p + (wgI (zf s t) (fun k => nI (zg s g k)) (zr s)).toInt64 * (nI (zg s g 4)).toInt64 := by
  rw [show wgI (zf s t) (fun k => nI (zg s g k)) (zr s) = zr s 4 + zr s 5 from if_pos e1, e4, e5, nI_add, pay_e h8 (by omega)]
theorem pay_n {s : DS} {t g m4 : Nat} (hm4 : m4 ≤ 9999) (e4 : zr s 4 = nI m4) (h8 : zg s g 4 ≤ 8) (e1 : hb_ (zf s t 0) (nI (zg s g 2)) = false) (p : Int64) : p + (nI (zg s g 4) * (zr s 4 + 0)).toInt64 = p + (wgI (zf s t) (fun k => nI (zg s g k)) (zr s)).toInt64 * (nI (zg s g 4)).toInt64 := by
  rw [show wgI (zf s t) (fun k => nI (zg s g k)) (zr s) = zr s 4 from if_neg (by rw [e1]; decide), e4, Int32.add_zero, pay_e h8 (by omega)]
theorem sp_X7_goesBy {S : gl_H} {A : Nat → Nat → Int32} {py : Nat → Int64} {s : DS} {fr mt mc : Int32} (hM : MPR S (A) (py) (zn s) (zD s) (zT s) (zG s) ((zv s).2.2.2) (fr) (mt) (mc)) (hG : AG A py s) (hW : DW s) (hR : RW s) (hvs : (zv s).2.2.2 < 2 ^ 30) {t g : Nat} (ht : t < zT s) (hg : g < zG s) (hs : zf s t 6 = nI g) : Sp mX7_goesBy yX7_goesBy [.ref 70, .int (nI t)] S (fun r S1 => r = none ∧ ∃ A2 py2, MPR S1 A2 py2 (zn s) (zD s) (zT s) (zG s) ((zv s).2.2.2 + 1) fr mt mc ∧ AG A2 py2 (gyN s t g) ∧ Fr 70 95 S S1) := by
  refine gl_enter (j := 2) (by decide +kernel) rfl (fun h => absurd h (by decide)) (Nat.le_of_ble_eq_true rfl) rfl (fun x => ?_)
  have htc := hW.1
  have hgc := hW.2.1
  have hgn := hW.2.2.2.1
  have hf : Fr 70 95 S S := Fr.rf
  have hpy : py t = zp s t := hG.2.2.2.2.1 t ht
  have hA19 := hG.2.2.2.2.2.2.2.1
  have hA20 := hG.2.2.2.2.2.2.2.2.1
  have hA21 := hG.2.2.2.2.2.2.2.2.2
  have h400 : (zv s).2.2.2 % 400 < 400 := Nat.mod_lt _ (by decide)
  obtain ⟨m4, hm4, e4⟩ := hR 4 (by decide)
  obtain ⟨m5, hm5, e5⟩ := hR 5 (by decide)
  have h8 := (hgn g hg).2.2.2.2.2
  have hG2 := ((hG.setF ht 8 (zf s t 8 + 1)).setP (t := t) ht (zp s t + (wgI (zf s t) (fun k => nI (zg s g k)) (zr s)).toInt64 * (nI (zg s g 4)).toInt64))
  refine gg_aload_n dX7_goesBy_0 rfl rfl ?_
  refine gf_X7_41 rfl dX7_goesBy_1 hM.1 rfl ?_
  refine gg_iload_n dX7_goesBy_4 rfl rfl ?_
  refine gg_ald_i (t) dX7_goesBy_5 hM.a10 rfl (by omega) (by decide) ?_
  rw [show A 10 t = zf s t 6 from hG.f ht 6, hs]
  refine gg_istore_n dX7_goesBy_6 rfl (Nat.le_of_ble_eq_true rfl) rfl ?_
  refine gg_aload_n dX7_goesBy_7 rfl rfl ?_
  refine gf_X7_47 rfl dX7_goesBy_8 hM.1 rfl ?_
  refine gg_iload_n dX7_goesBy_11 rfl rfl ?_
  refine gg_dup2 dX7_goesBy_12 rfl rfl ?_
  refine gg_ald_i (t) dX7_goesBy_13 hM.a12 rfl (by omega) (by decide) ?_
  rw [show A 12 t = zf s t 8 from hG.f ht 8]
  refine gg_iconst (v := 1) dX7_goesBy_14 (by decide) ?_
  refine gg_iadd dX7_goesBy_15 ?_
  refine gg_ast_i (t) dX7_goesBy_16 hM.a12 rfl (by omega) (by decide) ?_
  refine MPs_12 hM hf (fun S hM hf => ?_)
  refine gg_aload_n dX7_goesBy_17 rfl rfl ?_
  refine gf_X7_50 rfl dX7_goesBy_18 hM.1 rfl ?_
  refine gg_iload_n dX7_goesBy_21 rfl rfl ?_
  refine gg_dup2 dX7_goesBy_22 rfl rfl ?_
  refine gg_ald_l (t) dX7_goesBy_23 hM.2.2.1 rfl (by omega) (by decide) ?_
  rw [hpy]
  refine gg_aload_n dX7_goesBy_24 rfl rfl ?_
  refine gf_X7_66 rfl dX7_goesBy_25 hM.1 rfl ?_
  refine gg_iload_n dX7_goesBy_28 rfl rfl ?_
  refine gg_ald_i (g) dX7_goesBy_29 hM.a18 rfl (by omega) (by decide) ?_
  rw [show (up2 A 12 (upd (A 12) t (zf s t 8 + 1))) 18 g = nI (zg s g 4) from hG.g hg 4]
  refine gg_aload_n dX7_goesBy_30 rfl rfl ?_
  refine gf_X7_13 rfl dX7_goesBy_31 hM.1 rfl ?_
  refine gg_iconst (v := 4) dX7_goesBy_34 (by decide) ?_
  refine gg_ald_i (4) dX7_goesBy_35 hM.a1 rfl (by omega) (by decide) ?_
  rw [show (up2 A 12 (upd (A 12) t (zf s t 8 + 1))) 1 4 = zr s 4 from hG.r 4]
  refine gg_aload_n dX7_goesBy_36 rfl rfl ?_
  refine gf_X7_20 rfl dX7_goesBy_37 hM.1 rfl ?_
  refine gg_iload_n dX7_goesBy_40 rfl rfl ?_
  refine gg_ald_i (t) dX7_goesBy_41 hM.a3 rfl (by omega) (by decide) ?_
  rw [show (up2 A 12 (upd (A 12) t (zf s t 8 + 1))) 3 t = zf s t 0 from hG.f ht 0]
  refine gg_aload_n dX7_goesBy_42 rfl rfl ?_
  refine gf_X7_60 rfl dX7_goesBy_43 hM.1 rfl ?_
  refine gg_iload_n dX7_goesBy_46 rfl rfl ?_
  refine gg_ald_i (g) dX7_goesBy_47 hM.a16 rfl (by omega) (by decide) ?_
  rw [show (up2 A 12 (upd (A 12) t (zf s t 8 + 1))) 16 g = nI (zg s g 2) from hG.g hg 2]
  refine gg_callS (sp_X7_has S (zf s t 0) (nI (zg s g 2))) dX7_goesBy_48 kw_X7_130 rfl rfl (Nat.le_of_ble_eq_true rfl) (Nat.le_of_ble_eq_true rfl) (Nat.le_of_ble_eq_true rfl) ⟨(Nat.le_of_ble_eq_true rfl), (Nat.le_of_ble_eq_true rfl)⟩ (fun r S1 hq => ?_)
  refine gg_k (k2 := (0, 0)) rfl ?_
  obtain ⟨e9, rfl⟩ := hq
  rw [e9]
  clear e9 S1
  refine gg_if_eq (tgt := 63) dX7_goesBy_51 (by decide) (fun c51 => ?_) (fun c51 => ?_)
  · have e1 := hb_ifn c51
    refine gg_iconst (v := 0) dX7_goesBy_63 (by decide) ?_
    refine gg_iadd dX7_goesBy_64 ?_
    refine gg_imul dX7_goesBy_65 ?_
    refine gg_i2l dX7_goesBy_66 ?_
    refine gg_ladd dX7_goesBy_67 ?_
    first
      | rw [pay_y hm4 hm5 e4 e5 h8 e1 (zp s t)]
      | rw [pay_n hm4 e4 h8 e1 (zp s t)]
    refine gg_ast_l (t) dX7_goesBy_68 hM.2.2.1 rfl (by omega) (by decide) ?_
    refine MPs_pay hM hf (fun S hM hf => ?_)
    refine gg_aload_n dX7_goesBy_69 rfl rfl ?_
    refine gf_X7_168 rfl dX7_goesBy_70 hM.1 rfl ?_
    refine gg_sipush (v := 400) dX7_goesBy_73 (by decide) ?_
    refine gg_irem dX7_goesBy_76 (by decide) ?_
    refine gg_istore_n dX7_goesBy_77 rfl (Nat.le_of_ble_eq_true rfl) rfl ?_
    refine gg_aload_n dX7_goesBy_78 rfl rfl ?_
    refine gf_X7_69 rfl dX7_goesBy_79 hM.1 rfl ?_
    refine gg_iload_n dX7_goesBy_82 rfl rfl ?_
    refine gg_iload_n dX7_goesBy_83 rfl rfl ?_
    refine gg_ast_i ((zv s).2.2.2 % 400) dX7_goesBy_84 hM.a19 (pk_rem (a := (zv s).2.2.2) (d := 400) (by omega) (by decide) (by decide)) h400 (by decide) ?_
    refine MPs_19 hM hf (fun S hM hf => ?_)
    refine gg_aload_n dX7_goesBy_85 rfl rfl ?_
    refine gf_X7_72 rfl dX7_goesBy_86 hM.1 rfl ?_
    refine gg_iload_n dX7_goesBy_89 rfl rfl ?_
    refine gg_bipush (v := 16) dX7_goesBy_90 (by decide) ?_
    refine gg_aload_n dX7_goesBy_92 rfl rfl ?_
    refine gf_X7_54 rfl dX7_goesBy_93 hM.1 rfl ?_
    refine gg_iload_n dX7_goesBy_96 rfl rfl ?_
    refine gg_ald_i (g) dX7_goesBy_97 hM.a14 rfl (by omega) (by decide) ?_
    rw [show up2 (up2 A 12 (upd (A 12) t (zf s t 8 + 1))) 19 _ 14 g = nI (zg s g 0) from hG.g hg 0]
    refine gg_imul dX7_goesBy_98 ?_
    refine gg_aload_n dX7_goesBy_99 rfl rfl ?_
    refine gf_X7_57 rfl dX7_goesBy_100 hM.1 rfl ?_
    refine gg_iload_n dX7_goesBy_103 rfl rfl ?_
    refine gg_ald_i (g) dX7_goesBy_104 hM.a15 rfl (by omega) (by decide) ?_
    rw [show up2 (up2 A 12 (upd (A 12) t (zf s t 8 + 1))) 19 _ 15 g = nI (zg s g 1) from hG.g hg 1]
    refine gg_iadd dX7_goesBy_105 ?_
    rw [show (16 : Int32) * nI (zg s g 0) + nI (zg s g 1) = nI (16 * zg s g 0 + zg s g 1) by rw [← nI_add, ← pk_mul]; rfl]
    refine gg_ast_i ((zv s).2.2.2 % 400) dX7_goesBy_106 hM.a20 (pk_rem (a := (zv s).2.2.2) (d := 400) (by omega) (by decide) (by decide)) h400 (by decide) ?_
    refine MPs_20 hM hf (fun S hM hf => ?_)
    refine gg_aload_n dX7_goesBy_107 rfl rfl ?_
    refine gf_X7_75 rfl dX7_goesBy_108 hM.1 rfl ?_
    refine gg_iload_n dX7_goesBy_111 rfl rfl ?_
    refine gg_aload_n dX7_goesBy_112 rfl rfl ?_
    refine gf_X7_133 rfl dX7_goesBy_113 hM.1 rfl ?_
    refine gg_ast_i ((zv s).2.2.2 % 400) dX7_goesBy_116 hM.a21 (pk_rem (a := (zv s).2.2.2) (d := 400) (by omega) (by decide) (by decide)) h400 (by decide) ?_
    refine MPs_21 hM hf (fun S hM hf => ?_)
    refine gg_aload_n dX7_goesBy_117 rfl rfl ?_
    refine gg_dup dX7_goesBy_118 rfl ?_
    refine gf_X7_168 rfl dX7_goesBy_119 hM.1 rfl ?_
    refine gg_iconst (v := 1) dX7_goesBy_122 (by decide) ?_
    refine gg_iadd dX7_goesBy_123 ?_
    refine pf_X7_168 rfl dX7_goesBy_124 hM.1 (Nat.le_of_ble_eq_true rfl) ?_
    refine MPs_vs ((zv s).2.2.2 + 1) (nI_1 _) hM hf (fun S hM hf => ?_)
    exact gg_return dX7_goesBy_127 rfl ⟨(Nat.le_of_ble_eq_true rfl), (Nat.le_of_ble_eq_true rfl)⟩ (⟨rfl, _, _, hM, AG.vi hG2 (fun j hj => by rw [up2_n _ _ (by omega), up2_n _ _ (by omega), up2_n _ _ (by omega)]; rfl) (by show upd (A 19) _ _ = _; rw [hA19]; rfl) (by show upd (A 20) _ _ = _; rw [hA20]; rfl) (by show upd (A 21) _ _ = _; rw [hA21]; rfl), hf⟩)
  · have e1 := hb_if c51
    refine gg_aload_n dX7_goesBy_54 rfl rfl ?_
    refine gf_X7_13 rfl dX7_goesBy_55 hM.1 rfl ?_
    refine gg_iconst (v := 5) dX7_goesBy_58 (by decide) ?_
    refine gg_ald_i (5) dX7_goesBy_59 hM.a1 rfl (by omega) (by decide) ?_
    rw [show (up2 A 12 (upd (A 12) t (zf s t 8 + 1))) 1 5 = zr s 5 from hG.r 5]
    refine gg_goto (tgt := 64) dX7_goesBy_60 (by decide) ?_
    refine gg_iadd dX7_goesBy_64 ?_
    refine gg_imul dX7_goesBy_65 ?_
    refine gg_i2l dX7_goesBy_66 ?_
    refine gg_ladd dX7_goesBy_67 ?_
    first
      | rw [pay_y hm4 hm5 e4 e5 h8 e1 (zp s t)]
      | rw [pay_n hm4 e4 h8 e1 (zp s t)]
    refine gg_ast_l (t) dX7_goesBy_68 hM.2.2.1 rfl (by omega) (by decide) ?_
    refine MPs_pay hM hf (fun S hM hf => ?_)
    refine gg_aload_n dX7_goesBy_69 rfl rfl ?_
    refine gf_X7_168 rfl dX7_goesBy_70 hM.1 rfl ?_
    refine gg_sipush (v := 400) dX7_goesBy_73 (by decide) ?_
    refine gg_irem dX7_goesBy_76 (by decide) ?_
    refine gg_istore_n dX7_goesBy_77 rfl (Nat.le_of_ble_eq_true rfl) rfl ?_
    refine gg_aload_n dX7_goesBy_78 rfl rfl ?_
    refine gf_X7_69 rfl dX7_goesBy_79 hM.1 rfl ?_
    refine gg_iload_n dX7_goesBy_82 rfl rfl ?_
    refine gg_iload_n dX7_goesBy_83 rfl rfl ?_
    refine gg_ast_i ((zv s).2.2.2 % 400) dX7_goesBy_84 hM.a19 (pk_rem (a := (zv s).2.2.2) (d := 400) (by omega) (by decide) (by decide)) h400 (by decide) ?_
    refine MPs_19 hM hf (fun S hM hf => ?_)
    refine gg_aload_n dX7_goesBy_85 rfl rfl ?_
    refine gf_X7_72 rfl dX7_goesBy_86 hM.1 rfl ?_
    refine gg_iload_n dX7_goesBy_89 rfl rfl ?_
    refine gg_bipush (v := 16) dX7_goesBy_90 (by decide) ?_
    refine gg_aload_n dX7_goesBy_92 rfl rfl ?_
    refine gf_X7_54 rfl dX7_goesBy_93 hM.1 rfl ?_
    refine gg_iload_n dX7_goesBy_96 rfl rfl ?_
    refine gg_ald_i (g) dX7_goesBy_97 hM.a14 rfl (by omega) (by decide) ?_
    rw [show up2 (up2 A 12 (upd (A 12) t (zf s t 8 + 1))) 19 _ 14 g = nI (zg s g 0) from hG.g hg 0]
    refine gg_imul dX7_goesBy_98 ?_
    refine gg_aload_n dX7_goesBy_99 rfl rfl ?_
    refine gf_X7_57 rfl dX7_goesBy_100 hM.1 rfl ?_
    refine gg_iload_n dX7_goesBy_103 rfl rfl ?_
    refine gg_ald_i (g) dX7_goesBy_104 hM.a15 rfl (by omega) (by decide) ?_
    rw [show up2 (up2 A 12 (upd (A 12) t (zf s t 8 + 1))) 19 _ 15 g = nI (zg s g 1) from hG.g hg 1]
    refine gg_iadd dX7_goesBy_105 ?_
    rw [show (16 : Int32) * nI (zg s g 0) + nI (zg s g 1) = nI (16 * zg s g 0 + zg s g 1) by rw [← nI_add, ← pk_mul]; rfl]
    refine gg_ast_i ((zv s).2.2.2 % 400) dX7_goesBy_106 hM.a20 (pk_rem (a := (zv s).2.2.2) (d := 400) (by omega) (by decide) (by decide)) h400 (by decide) ?_
    refine MPs_20 hM hf (fun S hM hf => ?_)
    refine gg_aload_n dX7_goesBy_107 rfl rfl ?_
    refine gf_X7_75 rfl dX7_goesBy_108 hM.1 rfl ?_
    refine gg_iload_n dX7_goesBy_111 rfl rfl ?_
    refine gg_aload_n dX7_goesBy_112 rfl rfl ?_
    refine gf_X7_133 rfl dX7_goesBy_113 hM.1 rfl ?_
    refine gg_ast_i ((zv s).2.2.2 % 400) dX7_goesBy_116 hM.a21 (pk_rem (a := (zv s).2.2.2) (d := 400) (by omega) (by decide) (by decide)) h400 (by decide) ?_
    refine MPs_21 hM hf (fun S hM hf => ?_)
    refine gg_aload_n dX7_goesBy_117 rfl rfl ?_
    refine gg_dup dX7_goesBy_118 rfl ?_
    refine gf_X7_168 rfl dX7_goesBy_119 hM.1 rfl ?_
    refine gg_iconst (v := 1) dX7_goesBy_122 (by decide) ?_
    refine gg_iadd dX7_goesBy_123 ?_
    refine pf_X7_168 rfl dX7_goesBy_124 hM.1 (Nat.le_of_ble_eq_true rfl) ?_
    refine MPs_vs ((zv s).2.2.2 + 1) (nI_1 _) hM hf (fun S hM hf => ?_)
    exact gg_return dX7_goesBy_127 rfl ⟨(Nat.le_of_ble_eq_true rfl), (Nat.le_of_ble_eq_true rfl)⟩ (⟨rfl, _, _, hM, AG.vi hG2 (fun j hj => by rw [up2_n _ _ (by omega), up2_n _ _ (by omega), up2_n _ _ (by omega)]; rfl) (by show upd (A 19) _ _ = _; rw [hA19]; rfl) (by show upd (A 20) _ _ = _; rw [hA20]; rfl) (by show upd (A 21) _ _ = _; rw [hA21]; rfl), hf⟩)
def SW (s : DS) : Prop := ∀ t, t < zT s → zf s t 5 = 1 → ∃ g, g < zG s ∧ zf s t 6 = nI g
theorem edN_r (s : DS) (t : Nat) : zr (edN s t) = zr s := by unfold edN; split <;> rfl
theorem edF_r (s : DS) : ∀ t, zr (edF s t) = zr s
  | 0 => rfl
  | t + 1 => by
    show zr (edN (edF s t) t) = _
    rw [edN_r, edF_r s t]
theorem edN_f (s : DS) (t : Nat) {i : Nat} (hi : i ≠ t) : zf (edN s t) i = zf s i := by
  unfold edN
  split
  · exact up2_n _ _ hi
  · exact up2_n _ _ hi
theorem edF_f (s : DS) : ∀ t i, t ≤ i → zf (edF s t) i = zf s i
  | 0, _, _ => rfl
  | t + 1, i, h => by
    show zf (edN (edF s t) t) i = _
    rw [edN_f _ _ (by omega), edF_f s t i (by omega)]
theorem edN_v (s : DS) (t : Nat) : (zv (edN s t)).2.2.2 ≤ (zv s).2.2.2 + 1 := by
  unfold edN
  split
  · exact Nat.le_succ _
  · exact Nat.le_refl _
theorem edF_v (s : DS) : ∀ t, (zv (edF s t)).2.2.2 ≤ (zv s).2.2.2 + t
  | 0 => Nat.le_refl _
  | t + 1 => Nat.le_trans (edN_v (edF s t) t) (by have := edF_v s t; omega)
theorem AG.tg {A : Nat → Nat → Int32} {py : Nat → Int64} {s : DS} (h : AG A py s) (d n : Nat) : AG A py (setTG s (zT s) 0 d n) := ⟨h.1, h.2.1, h.2.2.1, h.2.2.2.1, h.2.2.2.2.1, h.2.2.2.2.2.1, fun g hg => absurd hg (Nat.not_lt_zero g), h.2.2.2.2.2.2.2⟩
theorem AG.d3 {A : Nat → Nat → Int32} {py : Nat → Int64} {s : DS} (h : AG A py s) {t : Nat} (ht : t < zT s) : AG (up2 (up2 (up2 A 9 (upd (A 9) t 0)) 10 (upd (A 10) t (-1))) 11 (upd (A 11) t 0)) py (setTe s (up2 (zf s) t (sdF (zf s t))) (zm s) (zp s)) := by
  have e : ∀ f : Nat → Nat → Int32, up2 (up2 (up2 f t (upd (f t) 5 0)) t (upd ((up2 f t (upd (f t) 5 0)) t) 6 (-1))) t (upd ((up2 (up2 f t (upd (f t) 5 0)) t (upd ((up2 f t (upd (f t) 5 0)) t) 6 (-1))) t) 7 0) = up2 f t (sdF (f t)) := fun f => by
    simp only [up2_2, up2_s]
    rfl
  have h3 : AG (up2 (up2 (up2 A 9 (upd (A 9) t 0)) 10 (upd (A 10) t (-1))) 11 (upd (A 11) t 0)) py (setTe s (up2 (up2 (up2 (zf s) t (upd (zf s t) 5 0)) t (upd ((up2 (zf s) t (upd (zf s t) 5 0)) t) 6 (-1))) t (upd ((up2 (up2 (zf s) t (upd (zf s t) 5 0)) t (upd ((up2 (zf s) t (upd (zf s t) 5 0)) t) 6 (-1))) t) 7 0)) (zm s) (zp s)) := ((h.setF ht 5 0).setF (t := t) ht 6 (-1)).setF (t := t) ht 7 0
  rw [e] at h3
  exact h3
theorem ed_n {s : DS} {t : Nat} (h : edG s t = none) : setTe s (up2 (zf s) t (sdF (zf s t))) (zm s) (zp s) = edN s t := by
  unfold edN
  rw [h]
theorem ed_y {s : DS} {t g : Nat} (h : edG s t = some g) : setTe (gyN s t g) (up2 (zf (gyN s t g)) t (sdF (zf (gyN s t g) t))) (zm (gyN s t g)) (zp (gyN s t g)) = edN s t := by
  have e : ∀ (f : Nat → Nat → Int32) X, up2 (up2 f t X) t (sdF ((up2 f t X) t)) = up2 f t (sdF X) := fun f X => by rw [up2_2, up2_s]
  unfold edN
  rw [h]
  show setTe (gyN s t g) (up2 (up2 (zf s) t (upd (zf s t) 8 (zf s t 8 + 1))) t (sdF ((up2 (zf s) t (upd (zf s t) 8 (zf s t 8 + 1))) t))) (zm (gyN s t g)) (zp (gyN s t g)) = _
  rw [e]
  rfl
theorem md_loop {S0 : gl_H} {s : DS} {fr mt mc : Int32} (hW : DW s) (hR : RW s) (hS : SW s) (hvs : (zv s).2.2.2 + 12 < 2 ^ 30) (x : gl_X) : ∀ (m t : Nat), t + m = zT s → ∀ (S : gl_H) (A : Nat → Nat → Int32) (py : Nat → Int64), MPR S (A) (py) (zn s) (zD s) (zT s) (zG s) ((zv (edF s t)).2.2.2) fr mt mc → AG A py (edF s t) → Fr 70 95 S0 S → GG mX7_day x (gl_Z mX7_day x (fun r S1 => r = some (.int (nI (zD s + 1))) ∧ MP S1 (setTG (edF s (zT s)) (zT s) 0 (zD s + 1) (zN s)) ∧ Fr 70 95 S0 S1)) 14 [some (.ref 70), some (.int (nI t))] [] S (0, 0) := by
  have htc := hW.1
  intro m
  induction m with
  | zero =>
    intro t hm S A py hM hG hf
    have e : t = zT s := by omega
    subst e
    have h1 := edF_1 s (zT s)
    refine gg_iload_n dX7_day_14 rfl rfl ?_
    refine gg_aload_n dX7_day_15 rfl rfl ?_
    refine gf_X7_120 rfl dX7_day_16 hM.1 rfl ?_
    refine gg_icmp_ge (tgt := 64) dX7_day_19 (by decide) (fun c19 => ?_) (fun c19 => ?_)
    · refine gg_aload_n dX7_day_64 rfl rfl ?_
      refine gg_iconst (v := 0) dX7_day_65 (by decide) ?_
      refine pf_X7_123 rfl dX7_day_66 hM.1 (Nat.le_of_ble_eq_true rfl) ?_
      refine MPs_gc 0 rfl hM hf (fun S hM hf => ?_)
      refine gg_aload_n dX7_day_69 rfl rfl ?_
      refine gg_dup dX7_day_70 rfl ?_
      refine gf_X7_133 rfl dX7_day_71 hM.1 rfl ?_
      refine gg_iconst (v := 1) dX7_day_74 (by decide) ?_
      refine gg_iadd dX7_day_75 ?_
      refine pf_X7_133 rfl dX7_day_76 hM.1 (Nat.le_of_ble_eq_true rfl) ?_
      refine MPs_day (zD s + 1) (nI_1 _) hM hf (fun S hM hf => ?_)
      refine gg_aload_n dX7_day_79 rfl rfl ?_
      refine gg_iconst (v := 0) dX7_day_80 (by decide) ?_
      refine pf_X7_116 rfl dX7_day_81 hM.1 (Nat.le_of_ble_eq_true rfl) rfl rfl ?_
      refine MPs_fr hM hf (fun S hM hf => ?_)
      refine gg_aload_n dX7_day_84 rfl rfl ?_
      refine gf_X7_133 rfl dX7_day_85 hM.1 rfl ?_
      have hG2 := hG.tg (zD s + 1) (zN s)
      rw [show zT (edF s (zT s)) = zT s from congrArg (fun z => z.1) h1.1] at hG2
      have hM2 : MPR S A py (zn (setTG (edF s (zT s)) (zT s) 0 (zD s + 1) (zN s))) (zD s + 1) (zT s) 0 ((zv (edF s (zT s))).2.2.2) 0 mt mc := by
        rw [show zn (setTG (edF s (zT s)) (zT s) 0 (zD s + 1) (zN s)) = zn s from h1.2.2]
        exact hM
      exact gg_ireturn dX7_day_88 rfl rfl ⟨(Nat.le_of_ble_eq_true rfl), (Nat.le_of_ble_eq_true rfl)⟩ (⟨rfl, ⟨A, py, 0, mt, mc, hM2, hG2, Or.inl rfl⟩, hf⟩)
    · exact absurd (nI_le (Nat.le_refl _) (by omega)) c19
  | succ m ih =>
    intro t hm S A py hM hG hf
    have ht : t < zT s := by omega
    have h1 := edF_1 s t
    have hT1 : zT (edF s t) = zT s := congrArg (fun z => z.1) h1.1
    have hG1 : zG (edF s t) = zG s := congrArg (fun z => z.2.1) h1.1
    have hD1 : zD (edF s t) = zD s := congrArg (fun z => z.2.2.1) h1.1
    have hte : t < zT (edF s t) := by rw [hT1]; exact ht
    have hf5 : zf (edF s t) t = zf s t := edF_f s t t (Nat.le_refl t)
    have hv1 := edF_v s t
    refine gg_iload_n dX7_day_14 rfl rfl ?_
    refine gg_aload_n dX7_day_15 rfl rfl ?_
    refine gf_X7_120 rfl dX7_day_16 hM.1 rfl ?_
    refine gg_icmp_ge (tgt := 64) dX7_day_19 (by decide) (fun c19 => ?_) (fun c19 => ?_)
    · exact absurd (n_le c19) (by omega)
    · refine gg_aload_n dX7_day_22 rfl rfl ?_
      refine gf_X7_38 rfl dX7_day_23 hM.1 rfl ?_
      refine gg_iload_n dX7_day_26 rfl rfl ?_
      refine gg_ald_i (t) dX7_day_27 hM.a9 rfl (by omega) (by decide) ?_
      rw [show A 9 t = zf (edF s t) t 5 from hG.f hte 5, hf5]
      refine gg_iconst (v := 1) dX7_day_28 (by decide) ?_
      refine gg_icmp_ne (tgt := 37) dX7_day_29 (by decide) (fun c29 => ?_) (fun c29 => ?_)
      · have eg : edG (edF s t) t = none := by unfold edG; rw [hf5]; exact if_neg c29
        refine gg_aload_n dX7_day_37 rfl rfl ?_
        refine gf_X7_38 rfl dX7_day_38 hM.1 rfl ?_
        refine gg_iload_n dX7_day_41 rfl rfl ?_
        refine gg_iconst (v := 0) dX7_day_42 (by decide) ?_
        refine gg_ast_i (t) dX7_day_43 hM.a9 rfl (by omega) (by decide) ?_
        refine MPs_9 hM hf (fun S hM hf => ?_)
        refine gg_aload_n dX7_day_44 rfl rfl ?_
        refine gf_X7_41 rfl dX7_day_45 hM.1 rfl ?_
        refine gg_iload_n dX7_day_48 rfl rfl ?_
        refine gg_iconst (v := -1) dX7_day_49 (by decide) ?_
        refine gg_ast_i (t) dX7_day_50 hM.a10 rfl (by omega) (by decide) ?_
        refine MPs_10 hM hf (fun S hM hf => ?_)
        refine gg_aload_n dX7_day_51 rfl rfl ?_
        refine gf_X7_44 rfl dX7_day_52 hM.1 rfl ?_
        refine gg_iload_n dX7_day_55 rfl rfl ?_
        refine gg_iconst (v := 0) dX7_day_56 (by decide) ?_
        refine gg_ast_i (t) dX7_day_57 hM.a11 rfl (by omega) (by decide) ?_
        refine MPs_11 hM hf (fun S hM hf => ?_)
        refine gg_iinc (w := nI (t + 1)) dX7_day_58 rfl (nI_1 t) (Nat.le_of_ble_eq_true rfl) rfl ?_
        refine gg_goto (tgt := 14) dX7_day_61 (by decide) ?_
        have hG4 := hG.d3 hte
        rw [ed_n eg] at hG4
        refine ih (t + 1) (by omega) S _ py ?_ hG4 hf
        rw [show (zv (edF s (t + 1))) = zv (edF s t) by show zv (edN (edF s t) t) = _; unfold edN; rw [eg]; rfl]
        exact hM
      · obtain ⟨g, hg, e6⟩ := hS t ht c29
        have eg : edG (edF s t) t = some g := by
          unfold edG
          rw [hf5, if_pos c29, e6, hG1]
          exact tix_some (n := zG s) (by have := hW.2.1; omega) hg
        have hM9 : MPR S A py (zn (edF s t)) (zD (edF s t)) (zT (edF s t)) (zG (edF s t)) (zv (edF s t)).2.2.2 fr mt mc := by
          rw [hT1, hG1, hD1, h1.2.2]
          exact hM
        have hRe : RW (edF s t) := by
          unfold RW
          rw [edF_r]
          exact hR
        refine gg_aload_n dX7_day_32 rfl rfl ?_
        refine gg_iload_n dX7_day_33 rfl rfl ?_
        refine gg_callV (sp_X7_goesBy hM9 hG (hW.edF t) hRe (show (zv (edF s t)).2.2.2 < 2 ^ 30 by omega) hte (g := g) (by rw [hG1]; exact hg) (by rw [hf5]; exact e6)) dX7_day_34 kw_X7_171 rfl hM.1 rfl rfl (Nat.le_of_ble_eq_true rfl) (Nat.le_of_ble_eq_true rfl) (Nat.le_of_ble_eq_true rfl) ⟨(Nat.le_of_ble_eq_true rfl), (Nat.le_of_ble_eq_true rfl)⟩ (fun r S1 hq => ?_)
        refine gg_k (k2 := (0, 0)) rfl ?_
        obtain ⟨rfl, A2, py2, hM, hG5, hf5b⟩ := hq
        have hf := hf.tr hf5b
        clear hf5b
        revert S1
        intro S hM hf
        have hte2 : t < zT (gyN (edF s t) t g) := hte
        refine gg_aload_n dX7_day_37 rfl rfl ?_
        refine gf_X7_38 rfl dX7_day_38 hM.1 rfl ?_
        refine gg_iload_n dX7_day_41 rfl rfl ?_
        refine gg_iconst (v := 0) dX7_day_42 (by decide) ?_
        refine gg_ast_i (t) dX7_day_43 hM.a9 rfl (by omega) (by decide) ?_
        refine MPs_9 hM hf (fun S hM hf => ?_)
        refine gg_aload_n dX7_day_44 rfl rfl ?_
        refine gf_X7_41 rfl dX7_day_45 hM.1 rfl ?_
        refine gg_iload_n dX7_day_48 rfl rfl ?_
        refine gg_iconst (v := -1) dX7_day_49 (by decide) ?_
        refine gg_ast_i (t) dX7_day_50 hM.a10 rfl (by omega) (by decide) ?_
        refine MPs_10 hM hf (fun S hM hf => ?_)
        refine gg_aload_n dX7_day_51 rfl rfl ?_
        refine gf_X7_44 rfl dX7_day_52 hM.1 rfl ?_
        refine gg_iload_n dX7_day_55 rfl rfl ?_
        refine gg_iconst (v := 0) dX7_day_56 (by decide) ?_
        refine gg_ast_i (t) dX7_day_57 hM.a11 rfl (by omega) (by decide) ?_
        refine MPs_11 hM hf (fun S hM hf => ?_)
        refine gg_iinc (w := nI (t + 1)) dX7_day_58 rfl (nI_1 t) (Nat.le_of_ble_eq_true rfl) rfl ?_
        refine gg_goto (tgt := 14) dX7_day_61 (by decide) ?_
        have hG4 := hG5.d3 hte2
        rw [ed_y eg] at hG4
        refine ih (t + 1) (by omega) S _ py2 ?_ hG4 hf
        rw [show (zv (edF s (t + 1))).2.2.2 = (zv (edF s t)).2.2.2 + 1 by show (zv (edN (edF s t) t)).2.2.2 = _; unfold edN; rw [eg]; rfl]
        rw [hT1, hG1, hD1, h1.2.2] at hM
        exact hM
theorem sp_M_day {S : gl_H} {s : DS} (h : MP S s) (hW : DW s) (hR : RW s) (hS : SW s) (hvs : (zv s).2.2.2 + 12 < 2 ^ 30) : Sp mX7_day yX7_day [.ref 70] S (fun r S1 => r = some (.int (dyA s)) ∧ MP S1 (dyN s) ∧ Fr 70 95 S S1) := by
  refine gl_enter (j := 1) (by decide +kernel) rfl (fun h => absurd h (by decide)) (Nat.le_of_ble_eq_true rfl) rfl (fun x => ?_)
  obtain ⟨A, py, fr, mt, mc, hM, hG, hF⟩ := h
  have hf : Fr 70 95 S S := Fr.rf
  have htc := hW.1
  have hgc := hW.2.1
  have hgn := hW.2.2.2.1
  have hD := hW.2.2.1
  by_cases cd : zD s < 2000
  · rw [show dyA s = _ from if_pos cd, show dyN s = _ from if_pos cd]
    refine gg_aload_n dX7_day_0 rfl rfl ?_
    refine gf_X7_133 rfl dX7_day_1 hM.1 rfl ?_
    refine gg_sipush (v := 2000) dX7_day_4 (by decide) ?_
    refine gg_icmp_ne (tgt := 12) dX7_day_7 (by decide) (fun c7 => ?_) (fun c7 => ?_)
    · refine gg_iconst (v := 0) dX7_day_12 (by decide) ?_
      refine gg_istore_n dX7_day_13 rfl (Nat.le_of_ble_eq_true rfl) rfl ?_
      exact md_loop hW hR hS hvs x (zT s) 0 (Nat.zero_add _) S A py hM hG hf
    · exact absurd (n_eq (a := zD s) (b := 2000) c7) (by omega)
  · rw [show dyA s = _ from if_neg cd, show dyN s = _ from if_neg cd]
    refine gg_aload_n dX7_day_0 rfl rfl ?_
    refine gf_X7_133 rfl dX7_day_1 hM.1 rfl ?_
    refine gg_sipush (v := 2000) dX7_day_4 (by decide) ?_
    refine gg_icmp_ne (tgt := 12) dX7_day_7 (by decide) (fun c7 => ?_) (fun c7 => ?_)
    · exact absurd (congrArg nI (show zD s = 2000 by omega)) c7
    · refine gg_iconst (v := -1) dX7_day_10 (by decide) ?_
      exact gg_ireturn dX7_day_11 rfl rfl ⟨(Nat.le_of_ble_eq_true rfl), (Nat.le_of_ble_eq_true rfl)⟩ (⟨rfl, ⟨A, py, fr, mt, mc, hM, hG, hF⟩, hf⟩)
