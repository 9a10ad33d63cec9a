/-! THE MODEL: works -/
set_option maxRecDepth 20000 in
theorem km_145 : Cond.constant RX7 145 10000000 ∈ gl_T := (gl_T_in (by decide +kernel) (by decide +kernel))
theorem im1 (a : Int32) : a + Int32.ofInt (-1) = a - 1 := by rw [Int32.sub_eq_add_neg]; rfl
theorem m4k (g j : Nat) : (4096 : Int32) * nI g + nI j = nI (4096 * g + j) := by rw [← nI_add, ← pk_mul]; rfl
theorem m4k1 (g j : Nat) : (4096 : Int32) * (nI g + 1) + nI j = nI (4096 * (g + 1) + j) := by rw [nI_1, m4k]
theorem p12 {n : Nat} (h : n ≤ 12) : 2 ^ n ≤ 4096 := Nat.pow_le_pow_right (by decide) h
theorem or_lt {a t n : Nat} (ha : a < 2 ^ n) (ht : t < n) : a ||| 2 ^ t < 2 ^ n := Nat.or_lt_two_pow ha (Nat.pow_lt_pow_right (by decide) ht)
/-- the rows of best from the gap r on -/
def BE (A : Nat → Nat → Int32) (s : DS) (r : Nat) : Prop := ∀ g, r ≤ g → g ≤ zG s → ∀ j, j < 2 ^ zT s → A 22 (4096 * g + j) = bsG s g j
theorem BE.cg {A A2 : Nat → Nat → Int32} {s : DS} {r : Nat} (h : BE A s r) (e : A2 22 = A 22) : BE A2 s r := fun g h1 h2 j hj => by rw [e]; exact h g h1 h2 j hj
theorem sp_X7_worth {S : gl_H} {A : Nat → Nat → Int32} {py : Nat → Int64} {s : DS} {n day tc gc vs : Nat} {fr mt mc : Int32} (hM : MPR S (A) (py) (n) (day) (tc) (gc) (vs) (fr) (mt) (mc)) (hG : AG A py s) {t g gone : Nat} (ht : t < zT s) (hg : g < zG s) (hsc : zg s g 0 < 6) (htc : zT s ≤ 12) (hgc : zG s ≤ 10) (hgo : gone < 2 ^ zT s) : Sp mX7_worth yX7_worth [.ref 70, .int (nI t), .int (nI g), .int (nI gone)] S (fun r S1 => S1 = S ∧ r = some (.int (10000000 - zCs s t g + A 22 (4096 * (g + 1) + (gone ||| 2 ^ t))))) := by
  refine gl_enter (j := 0) (by decide +kernel) rfl (fun h => absurd h (by decide)) (Nat.le_of_ble_eq_true rfl) rfl (fun x => ?_)
  have h12 := p12 htc
  have ho := or_lt hgo ht
  refine gg_ldc (v := 10000000) dX7_worth_0 km_145 ?_
  refine gg_aload_n dX7_worth_2 rfl rfl ?_
  refine gg_iload_n dX7_worth_3 rfl rfl ?_
  refine gg_iload_n dX7_worth_4 rfl rfl ?_
  refine gg_callV (sp_X7_costOf hM hG ht hg hsc htc hgc) dX7_worth_5 kw_X7_142 rfl hM.1 rfl rfl (Nat.le_of_ble_eq_true rfl) (Nat.le_of_ble_eq_true rfl) (Nat.le_of_ble_eq_true rfl) ⟨(Nat.le_of_ble_eq_true rfl), (Nat.le_of_ble_eq_true rfl)⟩ (fun r S1 hq => ?_)
  refine gg_k (k2 := (0, 0)) rfl ?_
  obtain ⟨e9, rfl⟩ := hq
  rw [e9]
  clear e9 S1
  refine gg_isub dX7_worth_8 ?_
  refine gg_aload_n dX7_worth_9 rfl rfl ?_
  refine gf_X7_79 rfl dX7_worth_10 hM.1 rfl ?_
  refine gg_sipush (v := 4096) dX7_worth_13 (by decide) ?_
  refine gg_iload_n dX7_worth_16 rfl rfl ?_
  refine gg_iconst (v := 1) dX7_worth_17 (by decide) ?_
  refine gg_iadd dX7_worth_18 ?_
  refine gg_imul dX7_worth_19 ?_
  refine gg_iload_n dX7_worth_20 rfl rfl ?_
  refine gg_iconst (v := 1) dX7_worth_21 (by decide) ?_
  refine gg_iload_n dX7_worth_22 rfl rfl ?_
  refine gg_ishl dX7_worth_23 ?_
  refine gg_ior dX7_worth_24 ?_
  refine gg_iadd dX7_worth_25 ?_
  refine gg_ald_i (4096 * (g + 1) + (gone ||| 2 ^ t)) dX7_worth_26 hM.a22 (by rw [or_sl (by omega), m4k1]) (by omega) (by decide) ?_
  refine gg_iadd dX7_worth_27 ?_
  exact gg_ireturn dX7_worth_28 rfl rfl ⟨(Nat.le_of_ble_eq_true rfl), (Nat.le_of_ble_eq_true rfl)⟩ (⟨rfl, rfl⟩)
theorem ff_lt : ∀ (p : Nat → Bool) (m g k : Nat), ffst p g m = some k → k < g + m ∧ p k = true := by
  intro p m
  induction m with
  | zero => intro g k h; cases h
  | succ m ih =>
    intro g k h
    unfold ffst at h
    split at h
    · rename_i hp
      cases h
      exact ⟨by omega, hp⟩
    · have := ih _ _ h
      exact ⟨by omega, this.2⟩
theorem op_I {s : DS} (htc : zT s ≤ 12) (g : Nat) : (oI (opB (zf s) (zT s) g) = -1) ↔ zOp s g = true := by
  unfold zOp
  cases h : opB (zf s) (zT s) g with
  | none => exact ⟨fun _ => rfl, fun _ => rfl⟩
  | some t =>
    have h9 := (ff_lt _ _ _ _ h).1
    exact ⟨fun z => absurd z (nI_m1 (k := t) (by omega)), fun z => by cases z⟩
theorem bb4o {S : gl_H} {A : Nat → Nat → Int32} {py : Nat → Int64} {s : DS} {fr mt mc : Int32} {Q : Option Value → gl_H → Prop} (hM : MPR S (A) (py) (zn s) (zD s) (zT s) (zG s) ((zv s).2.2.2) (fr) (mt) (mc)) (hG : AG A py s) (hW : DW s) (x : gl_X) {g set : Nat} (hg : g < zG s) (hset : set < 2 ^ zT s) (hB : BE A s (g + 1)) (K : GG mX7_works x (gl_Z mX7_works x Q) 171 [some (.ref 70), some (.int (nI g)), some (.int 1), some (.int (nI set)), some (.int (bsT s g (bsG s (g + 1)) set (zT s))), none, none] [] S (0, 0)) : ∀ (m t : Nat), t + m = zT s → GG mX7_works x (gl_Z mX7_works x Q) 104 [some (.ref 70), some (.int (nI g)), some (.int 1), some (.int (nI set)), some (.int (bsT s g (bsG s (g + 1)) set t)), some (.int (nI t)), none] [] S (0, 0) := by
  have htc := hW.1
  have hgc := hW.2.1
  have hgn := hW.2.2.2.1
  intro m
  induction m with
  | zero =>
    intro t hm
    have e : t = zT s := by omega
    subst e
    refine gg_iload dX7_works_104 rfl ?_
    refine gg_aload_n dX7_works_106 rfl rfl ?_
    refine gf_X7_120 rfl dX7_works_107 hM.1 rfl ?_
    refine gg_icmp_ge (tgt := 171) dX7_works_110 (by decide) (fun c110 => ?_) (fun c110 => ?_)
    · refine gg_fg [true, true, true, true, true, false, false] ?_
      exact K
    · exact absurd (nI_le (Nat.le_refl _) (by omega)) c110
  | succ m ih =>
    intro t hm
    have ht : t < zT s := by omega
    have h9 := ih (t + 1) (by omega)
    have e0 : bsT s g (bsG s (g + 1)) set (t + 1) = if (!set.testBit t && zGo s t g) && decide (bsT s g (bsG s (g + 1)) set t < 10000000 - zCs s t g + (bsG s (g + 1)) (set ||| 2 ^ t)) then 10000000 - zCs s t g + (bsG s (g + 1)) (set ||| 2 ^ t) else bsT s g (bsG s (g + 1)) set t := rfl
    refine gg_iload dX7_works_104 rfl ?_
    refine gg_aload_n dX7_works_106 rfl rfl ?_
    refine gf_X7_120 rfl dX7_works_107 hM.1 rfl ?_
    refine gg_icmp_ge (tgt := 171) dX7_works_110 (by decide) (fun c110 => ?_) (fun c110 => ?_)
    · exact absurd (n_le c110) (by omega)
    · refine gg_iload_n dX7_works_113 rfl rfl ?_
      refine gg_if_eq (tgt := 171) dX7_works_114 (by decide) (fun h => absurd h (by decide)) (fun _ => ?_)
      refine gg_iload_n dX7_works_117 rfl rfl ?_
      refine gg_iload dX7_works_118 rfl ?_
      refine gg_callS (sp_X7_has S (nI set) (nI t)) dX7_works_120 kw_X7_130 rfl rfl (Nat.le_of_ble_eq_true rfl) (Nat.le_of_ble_eq_true rfl) (Nat.le_of_ble_eq_true rfl) ⟨(Nat.le_of_ble_eq_true rfl), (Nat.le_of_ble_eq_true rfl)⟩ (fun r S1 hq => ?_)
      refine gg_k (k2 := (0, 0)) rfl ?_
      obtain ⟨e9, rfl⟩ := hq
      rw [e9]
      clear e9 S1
      refine gg_if_ne (tgt := 165) dX7_works_123 (by decide) (fun c123 => ?_) (fun c123 => ?_)
      · have e1 : set.testBit t = true := by rw [← hb_n (by omega)]; exact hb_if c123
        rw [e0, if_neg (by rw [e1]; simp)] at h9
        refine gg_iinc (w := nI (t + 1)) dX7_works_165 rfl (nI_1 t) (Nat.le_of_ble_eq_true rfl) rfl ?_
        refine gg_goto (tgt := 104) dX7_works_168 (by decide) ?_
        refine gg_fg [true, true, true, true, true, true, false] ?_
        exact h9
      · have e1 : set.testBit t = false := by rw [← hb_n (by omega)]; exact hb_ifn c123
        refine gg_aload_n dX7_works_126 rfl rfl ?_
        refine gg_iload dX7_works_127 rfl ?_
        refine gg_iload_n dX7_works_129 rfl rfl ?_
        refine gg_callV (sp_X7_goes hM hG ht hg (hgn g hg).1 htc hgc) dX7_works_130 kw_X7_149 rfl hM.1 rfl rfl (Nat.le_of_ble_eq_true rfl) (Nat.le_of_ble_eq_true rfl) (Nat.le_of_ble_eq_true rfl) ⟨(Nat.le_of_ble_eq_true rfl), (Nat.le_of_ble_eq_true rfl)⟩ (fun r S1 hq => ?_)
        refine gg_k (k2 := (0, 0)) rfl ?_
        obtain ⟨e9, rfl⟩ := hq
        rw [e9]
        clear e9 S1
        refine gg_if_ne (tgt := 139) dX7_works_133 (by decide) (fun c133 => ?_) (fun c133 => ?_)
        · have e2 := bI_nz c133
          refine gg_aload_n dX7_works_139 rfl rfl ?_
          refine gg_iload dX7_works_140 rfl ?_
          refine gg_iload_n dX7_works_142 rfl rfl ?_
          refine gg_iload_n dX7_works_143 rfl rfl ?_
          refine gg_callV (sp_X7_worth hM hG ht hg (hgn g hg).1 htc hgc hset) dX7_works_144 kw_X7_152 rfl hM.1 rfl rfl (Nat.le_of_ble_eq_true rfl) (Nat.le_of_ble_eq_true rfl) (Nat.le_of_ble_eq_true rfl) ⟨(Nat.le_of_ble_eq_true rfl), (Nat.le_of_ble_eq_true rfl)⟩ (fun r S1 hq => ?_)
          refine gg_k (k2 := (0, 0)) rfl ?_
          obtain ⟨e9, rfl⟩ := hq
          rw [e9, hB (g + 1) (Nat.le_refl _) (by omega) _ (or_lt hset ht)]
          clear e9 S1
          refine gg_istore dX7_works_147 (Nat.le_of_ble_eq_true rfl) rfl ?_
          refine gg_iload dX7_works_149 rfl ?_
          refine gg_iload dX7_works_151 rfl ?_
          refine gg_icmp_le (tgt := 161) dX7_works_153 (by decide) (fun c153 => ?_) (fun c153 => ?_)
          · rw [e0, if_neg (by rw [decide_eq_false (Int32.not_lt.mpr c153)]; simp)] at h9
            refine gg_iload dX7_works_161 rfl ?_
            refine gg_istore dX7_works_163 (Nat.le_of_ble_eq_true rfl) rfl ?_
            refine gg_iinc (w := nI (t + 1)) dX7_works_165 rfl (nI_1 t) (Nat.le_of_ble_eq_true rfl) rfl ?_
            refine gg_goto (tgt := 104) dX7_works_168 (by decide) ?_
            refine gg_fg [true, true, true, true, true, true, false] ?_
            exact h9
          · rw [e0, if_pos (by rw [e1, e2, decide_eq_true (Int32.not_le.mp c153)]; rfl)] at h9
            refine gg_iload dX7_works_156 rfl ?_
            refine gg_goto (tgt := 163) dX7_works_158 (by decide) ?_
            refine gg_istore dX7_works_163 (Nat.le_of_ble_eq_true rfl) rfl ?_
            refine gg_iinc (w := nI (t + 1)) dX7_works_165 rfl (nI_1 t) (Nat.le_of_ble_eq_true rfl) rfl ?_
            refine gg_goto (tgt := 104) dX7_works_168 (by decide) ?_
            refine gg_fg [true, true, true, true, true, true, false] ?_
            exact h9
        · have e2 := bI_z c133
          rw [e0, if_neg (by rw [e2]; simp)] at h9
          refine gg_goto (tgt := 165) dX7_works_136 (by decide) ?_
          refine gg_iinc (w := nI (t + 1)) dX7_works_165 rfl (nI_1 t) (Nat.le_of_ble_eq_true rfl) rfl ?_
          refine gg_goto (tgt := 104) dX7_works_168 (by decide) ?_
          refine gg_fg [true, true, true, true, true, true, false] ?_
          exact h9
theorem bb4 {S : gl_H} {A : Nat → Nat → Int32} {py : Nat → Int64} {s : DS} {fr mt mc : Int32} {Q : Option Value → gl_H → Prop} (hM : MPR S (A) (py) (zn s) (zD s) (zT s) (zG s) ((zv s).2.2.2) (fr) (mt) (mc)) (hG : AG A py s) (hW : DW s) (x : gl_X) {g set : Nat} (hg : g < zG s) (hset : set < 2 ^ zT s) (hB : BE A s (g + 1)) (K : GG mX7_works x (gl_Z mX7_works x Q) 171 [some (.ref 70), some (.int (nI g)), some (.int (bI (zOp s g))), some (.int (nI set)), some (.int (bsG s g set)), none, none] [] S (0, 0)) : GG mX7_works x (gl_Z mX7_works x Q) 104 [some (.ref 70), some (.int (nI g)), some (.int (bI (zOp s g))), some (.int (nI set)), some (.int (bsG s (g + 1) set)), some (.int 0), none] [] S (0, 0) := by
  have htc := hW.1
  by_cases c : zOp s g = true
  · rw [bsG_s s hg, if_pos c, c] at K
    rw [c]
    exact bb4o hM hG hW x hg hset hB K (zT s) 0 (Nat.zero_add _)
  · have c2 := Bool.eq_false_iff.mpr c
    rw [bsG_s s hg, if_neg c, c2] at K
    rw [c2]
    refine gg_iload dX7_works_104 rfl ?_
    refine gg_aload_n dX7_works_106 rfl rfl ?_
    refine gf_X7_120 rfl dX7_works_107 hM.1 rfl ?_
    refine gg_icmp_ge (tgt := 171) dX7_works_110 (by decide) (fun c110 => ?_) (fun c110 => ?_)
    · refine gg_fg [true, true, true, true, true, false, false] ?_
      exact K
    · refine gg_iload_n dX7_works_113 rfl rfl ?_
      refine gg_if_eq (tgt := 171) dX7_works_114 (by decide) (fun _ => ?_) (fun h => absurd rfl h)
      refine gg_fg [true, true, true, true, true, false, false] ?_
      exact K
theorem bb3 {S0 : gl_H} {py : Nat → Int64} {s : DS} {fr mt mc : Int32} {Q : Option Value → gl_H → Prop} (hW : DW s) (x : gl_X) {g : Nat} (hg : g < zG s) (K : ∀ S A, MPR S A py (zn s) (zD s) (zT s) (zG s) (zv s).2.2.2 fr mt mc → AG A py s → Fr 70 95 S0 S → BE A s g → GG mX7_works x (gl_Z mX7_works x Q) 191 [some (.ref 70), some (.int (nI g)), none, none, none, none, none] [] S (0, 0)) : ∀ (m set : Nat), set + m = 2 ^ zT s → ∀ S A, MPR S A py (zn s) (zD s) (zT s) (zG s) (zv s).2.2.2 fr mt mc → AG A py s → Fr 70 95 S0 S → BE A s (g + 1) → (∀ j, j < set → A 22 (4096 * g + j) = bsG s g j) → GG mX7_works x (gl_Z mX7_works x Q) 75 [some (.ref 70), some (.int (nI g)), some (.int (bI (zOp s g))), some (.int (nI set)), none, none, none] [] S (0, 0) := by
  have htc := hW.1
  have hgc := hW.2.1
  have h12 := p12 htc
  intro m
  induction m with
  | zero =>
    intro set hm S A hM hG hf hB hj
    have e : set = 2 ^ zT s := by omega
    subst e
    refine gg_iload_n dX7_works_75 rfl rfl ?_
    refine gg_iconst (v := 1) dX7_works_76 (by decide) ?_
    refine gg_aload_n dX7_works_77 rfl rfl ?_
    refine gf_X7_120 rfl dX7_works_78 hM.1 rfl ?_
    refine gg_ishl dX7_works_81 ?_
    rw [nx_sl _ (by omega)]
    refine gg_icmp_ge (tgt := 191) dX7_works_82 (by decide) (fun c82 => ?_) (fun c82 => ?_)
    · refine gg_fg [true, true, false, false, false, false, false] ?_
      refine K S A hM hG hf (fun g2 h1 h2 j hj2 => ?_)
      by_cases c : g2 = g
      · subst c; exact hj j hj2
      · exact hB g2 (by omega) h2 j hj2
    · exact absurd (nI_le (Nat.le_refl _) (by omega)) c82
  | succ m ih =>
    intro set hm S A hM hG hf hB hj
    have hset : set < 2 ^ zT s := by omega
    refine gg_iload_n dX7_works_75 rfl rfl ?_
    refine gg_iconst (v := 1) dX7_works_76 (by decide) ?_
    refine gg_aload_n dX7_works_77 rfl rfl ?_
    refine gf_X7_120 rfl dX7_works_78 hM.1 rfl ?_
    refine gg_ishl dX7_works_81 ?_
    rw [nx_sl _ (by omega)]
    refine gg_icmp_ge (tgt := 191) dX7_works_82 (by decide) (fun c82 => ?_) (fun c82 => ?_)
    · exact absurd (n_le c82) (by omega)
    · refine gg_aload_n dX7_works_85 rfl rfl ?_
      refine gf_X7_79 rfl dX7_works_86 hM.1 rfl ?_
      refine gg_sipush (v := 4096) dX7_works_89 (by decide) ?_
      refine gg_iload_n dX7_works_92 rfl rfl ?_
      refine gg_iconst (v := 1) dX7_works_93 (by decide) ?_
      refine gg_iadd dX7_works_94 ?_
      refine gg_imul dX7_works_95 ?_
      refine gg_iload_n dX7_works_96 rfl rfl ?_
      refine gg_iadd dX7_works_97 ?_
      refine gg_ald_i (4096 * (g + 1) + set) dX7_works_98 hM.a22 (m4k1 _ _) (by omega) (by decide) ?_
      rw [hB (g + 1) (Nat.le_refl _) (by omega) _ hset]
      refine gg_istore dX7_works_99 (Nat.le_of_ble_eq_true rfl) rfl ?_
      refine gg_iconst (v := 0) dX7_works_101 (by decide) ?_
      refine gg_istore dX7_works_102 (Nat.le_of_ble_eq_true rfl) rfl ?_
      refine bb4 hM hG hW x hg hset hB ?_
      refine gg_aload_n dX7_works_171 rfl rfl ?_
      refine gf_X7_79 rfl dX7_works_172 hM.1 rfl ?_
      refine gg_sipush (v := 4096) dX7_works_175 (by decide) ?_
      refine gg_iload_n dX7_works_178 rfl rfl ?_
      refine gg_imul dX7_works_179 ?_
      refine gg_iload_n dX7_works_180 rfl rfl ?_
      refine gg_iadd dX7_works_181 ?_
      refine gg_iload dX7_works_182 rfl ?_
      refine gg_ast_i (4096 * g + set) dX7_works_184 hM.a22 (m4k _ _) (by omega) (by decide) ?_
      refine MPs_22 hM hf (fun S hM hf => ?_)
      refine gg_iinc (w := nI (set + 1)) dX7_works_185 rfl (nI_1 set) (Nat.le_of_ble_eq_true rfl) rfl ?_
      refine gg_goto (tgt := 75) dX7_works_188 (by decide) ?_
      refine gg_fg [true, true, true, true, false, false, false] ?_
      refine ih (set + 1) (by omega) S _ hM (hG.up (Or.inl (by decide)) _) hf (fun g2 h1 h2 j hj2 => ?_) (fun j hj2 => ?_)
      · rw [up2_s, pk_un (by omega)]; exact hB g2 h1 h2 j hj2
      · rw [up2_s]
        by_cases c : j = set
        · subst c; rw [pk_us]
        · rw [pk_un (by omega)]; exact hj j (by omega)
theorem bb2 {S0 : gl_H} {py : Nat → Int64} {s : DS} {fr mt mc : Int32} {Q : Option Value → gl_H → Prop} (hW : DW s) (x : gl_X) (K : ∀ S A, MPR S A py (zn s) (zD s) (zT s) (zG s) (zv s).2.2.2 fr mt mc → AG A py s → Fr 70 95 S0 S → BE A s 0 → GG mX7_works x (gl_Z mX7_works x Q) 197 [some (.ref 70), none, none, none, none, none, none] [] S (0, 0)) : ∀ (r : Nat), r ≤ zG s → ∀ S A, MPR S A py (zn s) (zD s) (zT s) (zG s) (zv s).2.2.2 fr mt mc → AG A py s → Fr 70 95 S0 S → BE A s r → GG mX7_works x (gl_Z mX7_works x Q) 54 [some (.ref 70), some (.int (nI r - 1)), none, none, none, none, none] [] S (0, 0) := by
  have htc := hW.1
  have hgc := hW.2.1
  intro r
  induction r with
  | zero =>
    intro hr S A hM hG hf hB
    refine gg_iload_n dX7_works_54 rfl rfl ?_
    refine gg_if_lt (tgt := 197) dX7_works_55 (by decide) (fun c55 => ?_) (fun c55 => ?_)
    · refine gg_fg [true, false, false, false, false, false, false] ?_
      exact K S A hM hG hf hB
    · exact absurd (by decide) c55
  | succ g ih =>
    intro hr S A hM hG hf hB
    rw [nI_pred]
    refine gg_iload_n dX7_works_54 rfl rfl ?_
    refine gg_if_lt (tgt := 197) dX7_works_55 (by decide) (fun c55 => ?_) (fun c55 => ?_)
    · exact absurd c55 (nI_pos (by omega))
    · refine gg_aload_n dX7_works_58 rfl rfl ?_
      refine gg_iload_n dX7_works_59 rfl rfl ?_
      refine gg_callV (sp_X7_senderOf hM hG htc g) dX7_works_60 kw_X7_146 rfl hM.1 rfl rfl (Nat.le_of_ble_eq_true rfl) (Nat.le_of_ble_eq_true rfl) (Nat.le_of_ble_eq_true rfl) ⟨(Nat.le_of_ble_eq_true rfl), (Nat.le_of_ble_eq_true rfl)⟩ (fun r S1 hq => ?_)
      refine gg_k (k2 := (0, 0)) rfl ?_
      obtain ⟨e9, rfl⟩ := hq
      rw [e9]
      clear e9 S1
      refine gg_iconst (v := -1) dX7_works_63 (by decide) ?_
      refine gg_icmp_ne (tgt := 71) dX7_works_64 (by decide) (fun c64 => ?_) (fun c64 => ?_)
      · have e1 : zOp s g = false := Bool.eq_false_iff.mpr (fun z => c64 ((op_I htc g).mpr z))
        refine gg_iconst (v := 0) dX7_works_71 (by decide) ?_
        refine gg_istore_n dX7_works_72 rfl (Nat.le_of_ble_eq_true rfl) rfl ?_
        refine gg_iconst (v := 0) dX7_works_73 (by decide) ?_
        refine gg_istore_n dX7_works_74 rfl (Nat.le_of_ble_eq_true rfl) rfl ?_
        refine gg_fg [true, true, true, true, false, false, false] ?_
        have h9 := bb3 (S0 := S0) (py := py) (fr := fr) (mt := mt) (mc := mc) (Q := Q) hW x (g := g) (by omega) (fun S A hM hG hf hB => ?_) (2 ^ zT s) 0 (Nat.zero_add _) S A hM hG hf hB (fun j hj => absurd hj (Nat.not_lt_zero j))
        · rw [e1] at h9
          exact h9
        · refine gg_iinc (w := nI g - 1) dX7_works_191 rfl (im1 _) (Nat.le_of_ble_eq_true rfl) rfl ?_
          refine gg_goto (tgt := 54) dX7_works_194 (by decide) ?_
          exact ih (by omega) S A hM hG hf hB
      · have e1 : zOp s g = true := (op_I htc g).mp c64
        refine gg_iconst (v := 1) dX7_works_67 (by decide) ?_
        refine gg_goto (tgt := 72) dX7_works_68 (by decide) ?_
        refine gg_istore_n dX7_works_72 rfl (Nat.le_of_ble_eq_true rfl) rfl ?_
        refine gg_iconst (v := 0) dX7_works_73 (by decide) ?_
        refine gg_istore_n dX7_works_74 rfl (Nat.le_of_ble_eq_true rfl) rfl ?_
        refine gg_fg [true, true, true, true, false, false, false] ?_
        have h9 := bb3 (S0 := S0) (py := py) (fr := fr) (mt := mt) (mc := mc) (Q := Q) hW x (g := g) (by omega) (fun S A hM hG hf hB => ?_) (2 ^ zT s) 0 (Nat.zero_add _) S A hM hG hf hB (fun j hj => absurd hj (Nat.not_lt_zero j))
        · rw [e1] at h9
          exact h9
        · refine gg_iinc (w := nI g - 1) dX7_works_191 rfl (im1 _) (Nat.le_of_ble_eq_true rfl) rfl ?_
          refine gg_goto (tgt := 54) dX7_works_194 (by decide) ?_
          exact ih (by omega) S A hM hG hf hB
theorem bb1 {S0 : gl_H} {py : Nat → Int64} {s : DS} {fr mt mc : Int32} {Q : Option Value → gl_H → Prop} (hW : DW s) (x : gl_X) (K : ∀ S A, MPR S A py (zn s) (zD s) (zT s) (zG s) (zv s).2.2.2 fr mt mc → AG A py s → Fr 70 95 S0 S → BE A s (zG s) → GG mX7_works x (gl_Z mX7_works x Q) 47 [some (.ref 70), none, none, none, none, none, none] [] S (0, 0)) : ∀ (m set : Nat), set + m = 2 ^ zT s → ∀ S A, MPR S A py (zn s) (zD s) (zT s) (zG s) (zv s).2.2.2 fr mt mc → AG A py s → Fr 70 95 S0 S → (∀ j, j < set → A 22 (4096 * zG s + j) = 0) → GG mX7_works x (gl_Z mX7_works x Q) 15 [some (.ref 70), some (.int (nI set)), none, none, none, none, none] [] S (0, 0) := by
  have htc := hW.1
  have hgc := hW.2.1
  have h12 := p12 htc
  intro m
  induction m with
  | zero =>
    intro set hm S A hM hG hf hj
    have e : set = 2 ^ zT s := by omega
    subst e
    refine gg_iload_n dX7_works_15 rfl rfl ?_
    refine gg_iconst (v := 1) dX7_works_16 (by decide) ?_
    refine gg_aload_n dX7_works_17 rfl rfl ?_
    refine gf_X7_120 rfl dX7_works_18 hM.1 rfl ?_
    refine gg_ishl dX7_works_21 ?_
    rw [nx_sl _ (by omega)]
    refine gg_icmp_ge (tgt := 47) dX7_works_22 (by decide) (fun c22 => ?_) (fun c22 => ?_)
    · refine gg_fg [true, false, false, false, false, false, false] ?_
      refine K S A hM hG hf (fun g2 h1 h2 j hj2 => ?_)
      have e2 : g2 = zG s := by omega
      subst e2
      rw [hj j hj2, bsG_e]
    · exact absurd (nI_le (Nat.le_refl _) (by omega)) c22
  | succ m ih =>
    intro set hm S A hM hG hf hj
    refine gg_iload_n dX7_works_15 rfl rfl ?_
    refine gg_iconst (v := 1) dX7_works_16 (by decide) ?_
    refine gg_aload_n dX7_works_17 rfl rfl ?_
    refine gf_X7_120 rfl dX7_works_18 hM.1 rfl ?_
    refine gg_ishl dX7_works_21 ?_
    rw [nx_sl _ (by omega)]
    refine gg_icmp_ge (tgt := 47) dX7_works_22 (by decide) (fun c22 => ?_) (fun c22 => ?_)
    · exact absurd (n_le c22) (by omega)
    · refine gg_aload_n dX7_works_25 rfl rfl ?_
      refine gf_X7_79 rfl dX7_works_26 hM.1 rfl ?_
      refine gg_sipush (v := 4096) dX7_works_29 (by decide) ?_
      refine gg_aload_n dX7_works_32 rfl rfl ?_
      refine gf_X7_123 rfl dX7_works_33 hM.1 rfl ?_
      refine gg_imul dX7_works_36 ?_
      refine gg_iload_n dX7_works_37 rfl rfl ?_
      refine gg_iadd dX7_works_38 ?_
      refine gg_iconst (v := 0) dX7_works_39 (by decide) ?_
      refine gg_ast_i (4096 * zG s + set) dX7_works_40 hM.a22 (m4k _ _) (by omega) (by decide) ?_
      refine MPs_22 hM hf (fun S hM hf => ?_)
      refine gg_iinc (w := nI (set + 1)) dX7_works_41 rfl (nI_1 set) (Nat.le_of_ble_eq_true rfl) rfl ?_
      refine gg_goto (tgt := 15) dX7_works_44 (by decide) ?_
      refine ih (set + 1) (by omega) S _ hM (hG.up (Or.inl (by decide)) _) hf (fun j hj2 => ?_)
      rw [up2_s]
      by_cases c : j = set
      · subst c; rw [pk_us]
      · rw [pk_un (by omega)]; exact hj j (by omega)
theorem gw6 {S0 : gl_H} {py : Nat → Int64} {s : DS} {fr mt mc : Int32} {Q : Option Value → gl_H → Prop} (hW : DW s) (x : gl_X) {g gone : Nat} (hg : g < zG s) (hgo : gone < 2 ^ zT s) {A : Nat → Nat → Int32} (hG : AG A py s) (hB : BE A s 0) (hm1 : A 23 g = -1) {o0 : Option Nat} (K : ∀ S, MPR S (up2 A 23 (upd (A 23) g (oI o0))) py (zn s) (zD s) (zT s) (zG s) (zv s).2.2.2 fr mt mc → Fr 70 95 S0 S → GG mX7_works x (gl_Z mX7_works x Q) 323 [some (.ref 70), some (.int (nI gone)), some (.int (nI g)), none, none, none, none] [] S (0, 0)) : ∀ (m t : Nat), t + m = zT s → ffst (wkB s g gone) t m = o0 → ∀ S, MPR S A py (zn s) (zD s) (zT s) (zG s) (zv s).2.2.2 fr mt mc → Fr 70 95 S0 S → GG mX7_works x (gl_Z mX7_works x Q) 244 [some (.ref 70), some (.int (nI gone)), some (.int (nI g)), some (.int 1), some (.int (nI t)), none, none] [] S (0, 0) := by
  have htc := hW.1
  have hgc := hW.2.1
  have hgn := hW.2.2.2.1
  have h12 := p12 htc
  intro m
  induction m with
  | zero =>
    intro t hm ho S hM hf
    have e : t = zT s := by omega
    subst e
    have ho : none = o0 := ho
    subst ho
    have e3 : up2 A 23 (upd (A 23) g (oI none)) = A := by
      rw [show oI none = A 23 g from hm1.symm, show upd (A 23) g (A 23 g) = A 23 from funext (fun j => by
        by_cases c : j = g
        · rw [c, pk_us]
        · rw [pk_un c]), up2_id]
    rw [e3] at K
    refine gg_iload dX7_works_244 rfl ?_
    refine gg_aload_n dX7_works_246 rfl rfl ?_
    refine gf_X7_120 rfl dX7_works_247 hM.1 rfl ?_
    refine gg_icmp_ge (tgt := 323) dX7_works_250 (by decide) (fun c250 => ?_) (fun c250 => ?_)
    · refine gg_fg [true, true, true, false, false, false, false] ?_
      exact K S hM hf
    · exact absurd (nI_le (Nat.le_refl _) (by omega)) c250
  | succ m ih =>
    intro t hm ho S hM hf
    have ht : t < zT s := by omega
    have ho : (if wkB s g gone t then some t else ffst (wkB s g gone) (t + 1) m) = o0 := ho
    refine gg_iload dX7_works_244 rfl ?_
    refine gg_aload_n dX7_works_246 rfl rfl ?_
    refine gf_X7_120 rfl dX7_works_247 hM.1 rfl ?_
    refine gg_icmp_ge (tgt := 323) dX7_works_250 (by decide) (fun c250 => ?_) (fun c250 => ?_)
    · exact absurd (n_le c250) (by omega)
    · refine gg_iload_n dX7_works_253 rfl rfl ?_
      refine gg_if_eq (tgt := 323) dX7_works_254 (by decide) (fun h => absurd h (by decide)) (fun _ => ?_)
      refine gg_aload_n dX7_works_257 rfl rfl ?_
      refine gf_X7_82 rfl dX7_works_258 hM.1 rfl ?_
      refine gg_iload_n dX7_works_261 rfl rfl ?_
      refine gg_ald_i (g) dX7_works_262 hM.a23 rfl (by omega) (by decide) ?_
      rw [hm1]
      refine gg_iconst (v := -1) dX7_works_263 (by decide) ?_
      refine gg_icmp_ne (tgt := 323) dX7_works_264 (by decide) (fun c264 => ?_) (fun c264 => ?_)
      · exact absurd rfl c264
      · refine gg_iload_n dX7_works_267 rfl rfl ?_
        refine gg_iload dX7_works_268 rfl ?_
        refine gg_callS (sp_X7_has S (nI gone) (nI t)) dX7_works_270 kw_X7_130 rfl rfl (Nat.le_of_ble_eq_true rfl) (Nat.le_of_ble_eq_true rfl) (Nat.le_of_ble_eq_true rfl) ⟨(Nat.le_of_ble_eq_true rfl), (Nat.le_of_ble_eq_true rfl)⟩ (fun r S1 hq => ?_)
        refine gg_k (k2 := (0, 0)) rfl ?_
        obtain ⟨e9, rfl⟩ := hq
        rw [e9]
        clear e9 S1
        refine gg_if_ne (tgt := 317) dX7_works_273 (by decide) (fun c273 => ?_) (fun c273 => ?_)
        · have e1 : gone.testBit t = true := by rw [← hb_n (by omega)]; exact hb_if c273
          have eb : ¬ wkB s g gone t = true := by unfold wkB; rw [e1]; simp
          rw [if_neg eb] at ho
          refine gg_iinc (w := nI (t + 1)) dX7_works_317 rfl (nI_1 t) (Nat.le_of_ble_eq_true rfl) rfl ?_
          refine gg_goto (tgt := 244) dX7_works_320 (by decide) ?_
          exact ih (t + 1) (by omega) ho S hM hf
        · have e1 : gone.testBit t = false := by rw [← hb_n (by omega)]; exact hb_ifn c273
          refine gg_aload_n dX7_works_276 rfl rfl ?_
          refine gg_iload dX7_works_277 rfl ?_
          refine gg_iload_n dX7_works_279 rfl rfl ?_
          refine gg_callV (sp_X7_goes hM hG ht hg (hgn g hg).1 htc hgc) dX7_works_280 kw_X7_149 rfl hM.1 rfl rfl (Nat.le_of_ble_eq_true rfl) (Nat.le_of_ble_eq_true rfl) (Nat.le_of_ble_eq_true rfl) ⟨(Nat.le_of_ble_eq_true rfl), (Nat.le_of_ble_eq_true rfl)⟩ (fun r S1 hq => ?_)
          refine gg_k (k2 := (0, 0)) rfl ?_
          obtain ⟨e9, rfl⟩ := hq
          rw [e9]
          clear e9 S1
          refine gg_if_eq (tgt := 317) dX7_works_283 (by decide) (fun c283 => ?_) (fun c283 => ?_)
          · have e2 := bI_z c283
            have eb : ¬ wkB s g gone t = true := by unfold wkB; rw [e2]; simp
            rw [if_neg eb] at ho
            refine gg_iinc (w := nI (t + 1)) dX7_works_317 rfl (nI_1 t) (Nat.le_of_ble_eq_true rfl) rfl ?_
            refine gg_goto (tgt := 244) dX7_works_320 (by decide) ?_
            exact ih (t + 1) (by omega) ho S hM hf
          · have e2 := bI_nz c283
            refine gg_aload_n dX7_works_286 rfl rfl ?_
            refine gg_iload dX7_works_287 rfl ?_
            refine gg_iload_n dX7_works_289 rfl rfl ?_
            refine gg_iload_n dX7_works_290 rfl rfl ?_
            refine gg_callV (sp_X7_worth hM hG ht hg (hgn g hg).1 htc hgc hgo) dX7_works_291 kw_X7_152 rfl hM.1 rfl rfl (Nat.le_of_ble_eq_true rfl) (Nat.le_of_ble_eq_true rfl) (Nat.le_of_ble_eq_true rfl) ⟨(Nat.le_of_ble_eq_true rfl), (Nat.le_of_ble_eq_true rfl)⟩ (fun r S1 hq => ?_)
            refine gg_k (k2 := (0, 0)) rfl ?_
            obtain ⟨e9, rfl⟩ := hq
            rw [e9, hB (g + 1) (Nat.zero_le _) (by omega) _ (or_lt hgo ht)]
            clear e9 S1
            refine gg_aload_n dX7_works_294 rfl rfl ?_
            refine gf_X7_79 rfl dX7_works_295 hM.1 rfl ?_
            refine gg_sipush (v := 4096) dX7_works_298 (by decide) ?_
            refine gg_iload_n dX7_works_301 rfl rfl ?_
            refine gg_imul dX7_works_302 ?_
            refine gg_iload_n dX7_works_303 rfl rfl ?_
            refine gg_iadd dX7_works_304 ?_
            refine gg_ald_i (4096 * g + gone) dX7_works_305 hM.a22 (m4k _ _) (by omega) (by decide) ?_
            rw [hB g (Nat.zero_le _) (by omega) _ hgo]
            refine gg_icmp_ne (tgt := 317) dX7_works_306 (by decide) (fun c306 => ?_) (fun c306 => ?_)
            · have eb : ¬ wkB s g gone t = true := by unfold wkB; rw [decide_eq_false c306]; simp
              rw [if_neg eb] at ho
              refine gg_iinc (w := nI (t + 1)) dX7_works_317 rfl (nI_1 t) (Nat.le_of_ble_eq_true rfl) rfl ?_
              refine gg_goto (tgt := 244) dX7_works_320 (by decide) ?_
              exact ih (t + 1) (by omega) ho S hM hf
            · have eb : wkB s g gone t = true := by unfold wkB; rw [e1, e2, decide_eq_true c306]; rfl
              rw [if_pos eb] at ho
              refine gg_aload_n dX7_works_309 rfl rfl ?_
              refine gf_X7_82 rfl dX7_works_310 hM.1 rfl ?_
              refine gg_iload_n dX7_works_313 rfl rfl ?_
              refine gg_iload dX7_works_314 rfl ?_
              refine gg_ast_i (g) dX7_works_316 hM.a23 rfl (by omega) (by decide) ?_
              refine MPs_23 hM hf (fun S hM hf => ?_)
              rw [← ho] at K
              refine gg_iinc (w := nI (t + 1)) dX7_works_317 rfl (nI_1 t) (Nat.le_of_ble_eq_true rfl) rfl ?_
              refine gg_goto (tgt := 244) dX7_works_320 (by decide) ?_
              refine gg_iload dX7_works_244 rfl ?_
              refine gg_aload_n dX7_works_246 rfl rfl ?_
              refine gf_X7_120 rfl dX7_works_247 hM.1 rfl ?_
              refine gg_icmp_ge (tgt := 323) dX7_works_250 (by decide) (fun c250 => ?_) (fun c250 => ?_)
              · refine gg_fg [true, true, true, false, false, false, false] ?_
                exact K S hM hf
              · refine gg_iload_n dX7_works_253 rfl rfl ?_
                refine gg_if_eq (tgt := 323) dX7_works_254 (by decide) (fun h => absurd h (by decide)) (fun _ => ?_)
                refine gg_aload_n dX7_works_257 rfl rfl ?_
                refine gf_X7_82 rfl dX7_works_258 hM.1 rfl ?_
                refine gg_iload_n dX7_works_261 rfl rfl ?_
                refine gg_ald_i (g) dX7_works_262 hM.a23 rfl (by omega) (by decide) ?_
                rw [show (up2 A 23 (upd (A 23) g (nI t))) 23 g = nI t by rw [up2_s, pk_us]]
                refine gg_iconst (v := -1) dX7_works_263 (by decide) ?_
                refine gg_icmp_ne (tgt := 323) dX7_works_264 (by decide) (fun c264 => ?_) (fun c264 => ?_)
                · refine gg_fg [true, true, true, false, false, false, false] ?_
                  exact K S hM hf
                · exact absurd c264 (nI_m1 (k := t) (by omega))
theorem wkF_go {s : DS} : ∀ g, (wkF s g).2.1 < 2 ^ zT s
  | 0 => Nat.two_pow_pos _
  | g + 1 => by
    show (wkS s g (wkF s g)).2.1 < _
    unfold wkS
    cases h : wkT s g (wkF s g).2.1 with
    | none => exact wkF_go g
    | some t =>
      unfold wkT at h
      split at h
      · have := (ff_lt _ _ _ _ h).1
        exact or_lt (wkF_go g) (by omega)
      · cases h
theorem wkT_lt {s : DS} {g gone t : Nat} (h : wkT s g gone = some t) : t < zT s := by
  unfold wkT at h
  split at h
  · have := (ff_lt _ _ _ _ h).1
    omega
  · cases h
theorem va_up_s {α : Type} (f : Nat → α) (i : Nat) (v : α) : va_up f i v i = v := by unfold va_up; exact if_pos rfl
theorem va_up_n {α : Type} (f : Nat → α) {i j : Nat} (v : α) (h : j ≠ i) : va_up f i v j = f j := by unfold va_up; exact if_neg h
theorem gw5 {S0 : gl_H} {py : Nat → Int64} {s : DS} (hW : DW s) (x : gl_X) : ∀ (m g : Nat), g + m = zG s → ∀ S A, MPR S A py (zn s) (zD s) (zT s) (zG s) (zv s).2.2.2 1 (nI (wkF s g).2.2.1) (wkF s g).2.2.2 → AG A py s → Fr 70 95 S0 S → BE A s 0 → (∀ i, i < g → A 23 i = oI ((wkF s g).1 i)) → GG mX7_works x (gl_Z mX7_works x (fun r S1 => r = none ∧ ∃ A2 mt2 mc2, MPR S1 A2 py (zn s) (zD s) (zT s) (zG s) (zv s).2.2.2 1 mt2 mc2 ∧ AG A2 py s ∧ WK s (A2 23) mt2 mc2 ∧ Fr 70 95 S0 S1)) 211 [some (.ref 70), some (.int (nI (wkF s g).2.1)), some (.int (nI g)), none, none, none, none] [] S (0, 0) := by
  have htc := hW.1
  have hgc := hW.2.1
  have hgn := hW.2.2.2.1
  intro m
  induction m with
  | zero =>
    intro g hm S A hM hG hf hB hj
    have e : g = zG s := by omega
    subst e
    refine gg_iload_n dX7_works_211 rfl rfl ?_
    refine gg_aload_n dX7_works_212 rfl rfl ?_
    refine gf_X7_123 rfl dX7_works_213 hM.1 rfl ?_
    refine gg_icmp_ge (tgt := 383) dX7_works_216 (by decide) (fun c216 => ?_) (fun c216 => ?_)
    · exact gg_return dX7_works_383 rfl ⟨(Nat.le_of_ble_eq_true rfl), (Nat.le_of_ble_eq_true rfl)⟩ (⟨rfl, A, _, _, hM, hG, ⟨hj, rfl, rfl⟩, hf⟩)
    · exact absurd (nI_le (Nat.le_refl _) (by omega)) c216
  | succ m ih =>
    intro g hm S A hM hG hf hB hj
    have hg : g < zG s := by omega
    have hgo := wkF_go (s := s) g
    have e0 : wkF s (g + 1) = wkS s g (wkF s g) := rfl
    have h9 := ih (g + 1) (by omega)
    refine gg_iload_n dX7_works_211 rfl rfl ?_
    refine gg_aload_n dX7_works_212 rfl rfl ?_
    refine gf_X7_123 rfl dX7_works_213 hM.1 rfl ?_
    refine gg_icmp_ge (tgt := 383) dX7_works_216 (by decide) (fun c216 => ?_) (fun c216 => ?_)
    · exact absurd (n_le c216) (by omega)
    · refine gg_aload_n dX7_works_219 rfl rfl ?_
      refine gf_X7_82 rfl dX7_works_220 hM.1 rfl ?_
      refine gg_iload_n dX7_works_223 rfl rfl ?_
      refine gg_iconst (v := -1) dX7_works_224 (by decide) ?_
      refine gg_ast_i (g) dX7_works_225 hM.a23 rfl (by omega) (by decide) ?_
      obtain ⟨A3, eA3⟩ : ∃ A3, A3 = up2 A 23 (upd (A 23) g (-1)) := ⟨_, rfl⟩
      refine MPs_23 hM hf (fun S hM hf => ?_)
      rw [← eA3] at hM
      have hm1 : A3 23 g = -1 := by rw [eA3, up2_s, pk_us]
      have hA3 : ∀ i, i ≠ g → A3 23 i = A 23 i := fun i hi => by rw [eA3, up2_s, pk_un hi]
      have hG2 : AG A3 py s := by rw [eA3]; exact hG.up (Or.inl (by decide)) _
      have hB2 : BE A3 s 0 := hB.cg (by rw [eA3]; exact up2_n _ _ (by decide))
      have K : ∀ S, MPR S (up2 A3 23 (upd (A3 23) g (oI (wkT s g (wkF s g).2.1)))) py (zn s) (zD s) (zT s) (zG s) (zv s).2.2.2 1 (nI (wkF s g).2.2.1) (wkF s g).2.2.2 → Fr 70 95 S0 S → GG mX7_works x (gl_Z mX7_works x (fun r S1 => r = none ∧ ∃ A2 mt2 mc2, MPR S1 A2 py (zn s) (zD s) (zT s) (zG s) (zv s).2.2.2 1 mt2 mc2 ∧ AG A2 py s ∧ WK s (A2 23) mt2 mc2 ∧ Fr 70 95 S0 S1)) 323 [some (.ref 70), some (.int (nI (wkF s g).2.1)), some (.int (nI g)), none, none, none, none] [] S (0, 0) := by
        intro S hM hf
        have hG3 : AG (up2 A3 23 (upd (A3 23) g (oI (wkT s g (wkF s g).2.1)))) py s := hG2.up (Or.inl (by decide)) _
        cases hT : wkT s g (wkF s g).2.1 with
        | none =>
          rw [hT] at hM hG3
          have e1 : wkF s (g + 1) = (va_up (wkF s g).1 g none, (wkF s g).2.1, (wkF s g).2.2.1, (wkF s g).2.2.2) := by rw [e0]; unfold wkS; rw [hT]
          rw [e1] at h9
          refine gg_aload_n dX7_works_323 rfl rfl ?_
          refine gf_X7_82 rfl dX7_works_324 hM.1 rfl ?_
          refine gg_iload_n dX7_works_327 rfl rfl ?_
          refine gg_ald_i (g) dX7_works_328 hM.a23 rfl (by omega) (by decide) ?_
          rw [show (up2 A3 23 (upd (A3 23) g (oI none))) 23 g = oI none by rw [up2_s, pk_us]]
          refine gg_iconst (v := -1) dX7_works_329 (by decide) ?_
          refine gg_icmp_ne (tgt := 336) dX7_works_330 (by decide) (fun c330 => ?_) (fun c330 => ?_)
          · exact absurd rfl c330
          · refine gg_goto (tgt := 377) dX7_works_333 (by decide) ?_
            refine gg_iinc (w := nI (g + 1)) dX7_works_377 rfl (nI_1 g) (Nat.le_of_ble_eq_true rfl) rfl ?_
            refine gg_goto (tgt := 211) dX7_works_380 (by decide) ?_
            exact h9 S _ hM hG3 hf (hB2.cg (up2_n _ _ (by decide))) (fun i hi => by
              by_cases c : i = g
              · subst c; rw [up2_s, pk_us]; show _ = oI (va_up (wkF s i).1 i (none) i); rw [va_up_s]
              · rw [up2_s, pk_un c]; show A3 23 i = oI (va_up (wkF s g).1 g (none) i); rw [va_up_n _ _ c, ← hj i (by omega)]; exact hA3 i c)
        | some t =>
          rw [hT] at hM hG3
          have ht := wkT_lt hT
          have e1 : wkF s (g + 1) = (va_up (wkF s g).1 g (some t), (wkF s g).2.1 ||| 2 ^ t, (wkF s g).2.2.1 + 1, (wkF s g).2.2.2 + zCs s t g) := by rw [e0]; unfold wkS; rw [hT]
          rw [e1] at h9
          refine gg_aload_n dX7_works_323 rfl rfl ?_
          refine gf_X7_82 rfl dX7_works_324 hM.1 rfl ?_
          refine gg_iload_n dX7_works_327 rfl rfl ?_
          refine gg_ald_i (g) dX7_works_328 hM.a23 rfl (by omega) (by decide) ?_
          rw [show (up2 A3 23 (upd (A3 23) g (oI (some t)))) 23 g = oI (some t) by rw [up2_s, pk_us], show oI (some t) = nI t from rfl]
          refine gg_iconst (v := -1) dX7_works_329 (by decide) ?_
          refine gg_icmp_ne (tgt := 336) dX7_works_330 (by decide) (fun c330 => ?_) (fun c330 => ?_)
          · refine gg_iload_n dX7_works_336 rfl rfl ?_
            refine gg_iconst (v := 1) dX7_works_337 (by decide) ?_
            refine gg_aload_n dX7_works_338 rfl rfl ?_
            refine gf_X7_82 rfl dX7_works_339 hM.1 rfl ?_
            refine gg_iload_n dX7_works_342 rfl rfl ?_
            refine gg_ald_i (g) dX7_works_343 hM.a23 rfl (by omega) (by decide) ?_
            rw [show (up2 A3 23 (upd (A3 23) g (oI (some t)))) 23 g = oI (some t) by rw [up2_s, pk_us], show oI (some t) = nI t from rfl]
            refine gg_ishl dX7_works_344 ?_
            refine gg_ior dX7_works_345 ?_
            rw [or_sl (by omega)]
            refine gg_istore_n dX7_works_346 rfl (Nat.le_of_ble_eq_true rfl) rfl ?_
            refine gg_aload_n dX7_works_347 rfl rfl ?_
            refine gg_dup dX7_works_348 rfl ?_
            refine gf_X7_156 rfl dX7_works_349 hM.1 rfl ?_
            refine gg_iconst (v := 1) dX7_works_352 (by decide) ?_
            refine gg_iadd dX7_works_353 ?_
            refine pf_X7_156 rfl dX7_works_354 hM.1 (Nat.le_of_ble_eq_true rfl) ?_
            refine MPs_mt hM hf (fun S hM hf => ?_)
            refine gg_aload_n dX7_works_357 rfl rfl ?_
            refine gg_dup dX7_works_358 rfl ?_
            refine gf_X7_159 rfl dX7_works_359 hM.1 rfl ?_
            refine gg_aload_n dX7_works_362 rfl rfl ?_
            refine gg_aload_n dX7_works_363 rfl rfl ?_
            refine gf_X7_82 rfl dX7_works_364 hM.1 rfl ?_
            refine gg_iload_n dX7_works_367 rfl rfl ?_
            refine gg_ald_i (g) dX7_works_368 hM.a23 rfl (by omega) (by decide) ?_
            rw [show (up2 A3 23 (upd (A3 23) g (oI (some t)))) 23 g = oI (some t) by rw [up2_s, pk_us], show oI (some t) = nI t from rfl]
            refine gg_iload_n dX7_works_369 rfl rfl ?_
            refine gg_callV (sp_X7_costOf hM hG3 ht hg (hgn g hg).1 htc hgc) dX7_works_370 kw_X7_142 rfl hM.1 rfl rfl (Nat.le_of_ble_eq_true rfl) (Nat.le_of_ble_eq_true rfl) (Nat.le_of_ble_eq_true rfl) ⟨(Nat.le_of_ble_eq_true rfl), (Nat.le_of_ble_eq_true rfl)⟩ (fun r S1 hq => ?_)
            refine gg_k (k2 := (0, 0)) rfl ?_
            obtain ⟨e9, rfl⟩ := hq
            rw [e9]
            clear e9 S1
            refine gg_iadd dX7_works_373 ?_
            refine pf_X7_159 rfl dX7_works_374 hM.1 (Nat.le_of_ble_eq_true rfl) ?_
            refine MPs_mc hM hf (fun S hM hf => ?_)
            refine gg_iinc (w := nI (g + 1)) dX7_works_377 rfl (nI_1 g) (Nat.le_of_ble_eq_true rfl) rfl ?_
            refine gg_goto (tgt := 211) dX7_works_380 (by decide) ?_
            rw [nI_1] at hM
            exact h9 S _ hM hG3 hf (hB2.cg (up2_n _ _ (by decide))) (fun i hi => by
              by_cases c : i = g
              · subst c; rw [up2_s, pk_us]; show _ = oI (va_up (wkF s i).1 i (some t) i); rw [va_up_s]
              · rw [up2_s, pk_un c]; show A3 23 i = oI (va_up (wkF s g).1 g (some t) i); rw [va_up_n _ _ c, ← hj i (by omega)]; exact hA3 i c)
          · exact absurd c330 (nI_m1 (k := t) (by omega))
      refine gg_aload_n dX7_works_226 rfl rfl ?_
      refine gg_iload_n dX7_works_227 rfl rfl ?_
      refine gg_callV (sp_X7_senderOf hM hG2 htc g) dX7_works_228 kw_X7_146 rfl hM.1 rfl rfl (Nat.le_of_ble_eq_true rfl) (Nat.le_of_ble_eq_true rfl) (Nat.le_of_ble_eq_true rfl) ⟨(Nat.le_of_ble_eq_true rfl), (Nat.le_of_ble_eq_true rfl)⟩ (fun r S1 hq => ?_)
      refine gg_k (k2 := (0, 0)) rfl ?_
      obtain ⟨e9, rfl⟩ := hq
      rw [e9]
      clear e9 S1
      refine gg_iconst (v := -1) dX7_works_231 (by decide) ?_
      refine gg_icmp_ne (tgt := 239) dX7_works_232 (by decide) (fun c232 => ?_) (fun c232 => ?_)
      · have e1 : ¬ zOp s g = true := fun z => c232 ((op_I htc g).mpr z)
        refine gg_iconst (v := 0) dX7_works_239 (by decide) ?_
        refine gg_istore_n dX7_works_240 rfl (Nat.le_of_ble_eq_true rfl) rfl ?_
        refine gg_iconst (v := 0) dX7_works_241 (by decide) ?_
        refine gg_istore dX7_works_242 (Nat.le_of_ble_eq_true rfl) rfl ?_
        refine gg_iload dX7_works_244 rfl ?_
        refine gg_aload_n dX7_works_246 rfl rfl ?_
        refine gf_X7_120 rfl dX7_works_247 hM.1 rfl ?_
        refine gg_icmp_ge (tgt := 323) dX7_works_250 (by decide) (fun c250 => ?_) (fun c250 => ?_)
        · refine gg_fg [true, true, true, false, false, false, false] ?_
          have e2 : wkT s g (wkF s g).2.1 = none := if_neg e1
          rw [e2] at K
          refine K S ?_ hf
          rw [show oI none = A3 23 g from hm1.symm, show upd (A3 23) g (A3 23 g) = A3 23 from funext (fun j => by
            by_cases c : j = g
            · rw [c, pk_us]
            · rw [pk_un c]), up2_id]
          exact hM
        · refine gg_iload_n dX7_works_253 rfl rfl ?_
          refine gg_if_eq (tgt := 323) dX7_works_254 (by decide) (fun _ => ?_) (fun h => absurd rfl h)
          refine gg_fg [true, true, true, false, false, false, false] ?_
          have e2 : wkT s g (wkF s g).2.1 = none := if_neg e1
          rw [e2] at K
          refine K S ?_ hf
          rw [show oI none = A3 23 g from hm1.symm, show upd (A3 23) g (A3 23 g) = A3 23 from funext (fun j => by
            by_cases c : j = g
            · rw [c, pk_us]
            · rw [pk_un c]), up2_id]
          exact hM
      · have e1 : zOp s g = true := (op_I htc g).mp c232
        refine gg_iconst (v := 1) dX7_works_235 (by decide) ?_
        refine gg_goto (tgt := 240) dX7_works_236 (by decide) ?_
        refine gg_istore_n dX7_works_240 rfl (Nat.le_of_ble_eq_true rfl) rfl ?_
        refine gg_iconst (v := 0) dX7_works_241 (by decide) ?_
        refine gg_istore dX7_works_242 (Nat.le_of_ble_eq_true rfl) rfl ?_
        refine gg_fg [true, true, true, true, true, false, false] ?_
        exact gw6 hW x hg hgo hG2 hB2 hm1 K (zT s) 0 (Nat.zero_add _) (if_pos e1).symm S hM hf
theorem sp_X7_works {S : gl_H} {s : DS} (h : MP S s) (hW : DW s) : Sp mX7_works yX7_works [.ref 70] S (fun r S1 => r = none ∧ ∃ A py mt mc, MPR S1 A py (zn s) (zD s) (zT s) (zG s) (zv s).2.2.2 1 mt mc ∧ AG A py s ∧ WK s (A 23) mt mc ∧ Fr 70 95 S S1) := by
  refine gl_enter (j := 6) (by decide +kernel) rfl (fun h => absurd h (by decide)) (Nat.le_of_ble_eq_true rfl) rfl (fun x => ?_)
  obtain ⟨A, py, fr, mt, mc, hM, hG, hF⟩ := h
  have hf : Fr 70 95 S S := Fr.rf
  have htc := hW.1
  have hgc := hW.2.1
  have hgn := hW.2.2.2.1
  rcases hF with rfl | ⟨rfl, hK⟩
  · refine gg_aload_n dX7_works_0 rfl rfl ?_
    refine gf_X7_116 rfl dX7_works_1 hM.1 rfl ?_
    refine gg_if_eq (tgt := 8) dX7_works_4 (by decide) (fun c4 => ?_) (fun c4 => ?_)
    · refine gg_aload_n dX7_works_8 rfl rfl ?_
      refine gg_iconst (v := 1) dX7_works_9 (by decide) ?_
      refine pf_X7_116 rfl dX7_works_10 hM.1 (Nat.le_of_ble_eq_true rfl) rfl rfl ?_
      refine MPs_fr hM hf (fun S hM hf => ?_)
      refine gg_iconst (v := 0) dX7_works_13 (by decide) ?_
      refine gg_istore_n dX7_works_14 rfl (Nat.le_of_ble_eq_true rfl) rfl ?_
      refine bb1 hW x (fun S A hM hG hf hB => ?_) (2 ^ zT s) 0 (Nat.zero_add _) S A hM hG hf (fun j hj => absurd hj (Nat.not_lt_zero j))
      refine gg_aload_n dX7_works_47 rfl rfl ?_
      refine gf_X7_123 rfl dX7_works_48 hM.1 rfl ?_
      refine gg_iconst (v := 1) dX7_works_51 (by decide) ?_
      refine gg_isub dX7_works_52 ?_
      refine gg_istore_n dX7_works_53 rfl (Nat.le_of_ble_eq_true rfl) rfl ?_
      refine bb2 hW x (fun S A hM hG hf hB => ?_) (zG s) (Nat.le_refl _) S A hM hG hf hB
      refine gg_aload_n dX7_works_197 rfl rfl ?_
      refine gg_iconst (v := 0) dX7_works_198 (by decide) ?_
      refine pf_X7_156 rfl dX7_works_199 hM.1 (Nat.le_of_ble_eq_true rfl) ?_
      refine MPs_mt hM hf (fun S hM hf => ?_)
      refine gg_aload_n dX7_works_202 rfl rfl ?_
      refine gg_iconst (v := 0) dX7_works_203 (by decide) ?_
      refine pf_X7_159 rfl dX7_works_204 hM.1 (Nat.le_of_ble_eq_true rfl) ?_
      refine MPs_mc hM hf (fun S hM hf => ?_)
      refine gg_iconst (v := 0) dX7_works_207 (by decide) ?_
      refine gg_istore_n dX7_works_208 rfl (Nat.le_of_ble_eq_true rfl) rfl ?_
      refine gg_iconst (v := 0) dX7_works_209 (by decide) ?_
      refine gg_istore_n dX7_works_210 rfl (Nat.le_of_ble_eq_true rfl) rfl ?_
      refine gg_Q ?_ (gw5 hW x (zG s) 0 (Nat.zero_add _) S A hM hG hf hB (fun i hi => absurd hi (Nat.not_lt_zero i)))
      rintro r S1 ⟨q1, A2, mt2, mc2, q2⟩
      exact ⟨q1, A2, py, mt2, mc2, q2⟩
    · exact absurd rfl c4
  · refine gg_aload_n dX7_works_0 rfl rfl ?_
    refine gf_X7_116 rfl dX7_works_1 hM.1 rfl ?_
    refine gg_if_eq (tgt := 8) dX7_works_4 (by decide) (fun c4 => ?_) (fun c4 => ?_)
    · exact absurd c4 (by decide)
    · exact gg_return dX7_works_7 rfl ⟨(Nat.le_of_ble_eq_true rfl), (Nat.le_of_ble_eq_true rfl)⟩ (⟨rfl, A, py, mt, mc, hM, hG, hK, hf⟩)
