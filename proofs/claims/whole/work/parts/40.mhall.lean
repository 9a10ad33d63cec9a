/-! THE MODEL: hall -/
def opM (s : DS) : Nat → Nat
  | 0 => 0
  | g + 1 => if zOp s g then opM s g ||| 2 ^ g else opM s g
def hlI (s : DS) (set t : Nat) : Nat → Bool
  | 0 => false
  | g + 1 => hlI s set t g || (set.testBit g && zGo s t g)
def hlW (s : DS) (set : Nat) : Nat → Nat
  | 0 => 0
  | t + 1 => if hlI s set t (zG s) then hlW s set t + 1 else hlW s set t
def hlS (s : DS) (op set few : Nat) : Nat := if set &&& op = set ∧ (few = 0 ∨ pcN set < pcN few) ∧ hlW s set (zT s) < pcN set then set else few
def hlF (s : DS) (op : Nat) : Nat → Nat
  | 0 => 0
  | n + 1 => hlS s op (n + 1) (hlF s op n)
def hlA (s : DS) : Nat := if pcN (opM s (zG s)) = (wkF s (zG s)).2.2.1 then 0 else hlF s (opM s (zG s)) (2 ^ zG s - 1)
theorem opM_lt (s : DS) : ∀ g, opM s g < 2 ^ g
  | 0 => by show 0 < 1; decide
  | g + 1 => by
    unfold opM
    have h := opM_lt s g
    have h2 : 2 ^ g < 2 ^ (g + 1) := Nat.pow_lt_pow_right (by decide) (by omega)
    split
    · exact Nat.or_lt_two_pow (by omega) h2
    · omega
theorem hlF_le (s : DS) (op : Nat) : ∀ n, hlF s op n ≤ n
  | 0 => Nat.le_refl 0
  | n + 1 => by
    show hlS s op (n + 1) (hlF s op n) ≤ n + 1
    have := hlF_le s op n
    unfold hlS
    split <;> omega
theorem hlW_le (s : DS) (set : Nat) : ∀ t, hlW s set t ≤ t
  | 0 => Nat.le_refl 0
  | t + 1 => by
    have := hlW_le s set t
    unfold hlW
    split <;> omega
theorem and_not {a b : Nat} (ha : a < 2 ^ 31) : (nI a &&& (nI b ^^^ (-1)) = 0) ↔ a &&& b = a := by
  have hbt : ∀ i, i < 32 → bt (nI a &&& (nI b ^^^ (-1))) i = (a.testBit i && !b.testBit i) := fun i hi => by
    rw [b_and, b_xor, bt_n hi, bt_n hi, b_m1 i hi, Bool.xor_true]
  constructor
  · intro h
    apply Nat.eq_of_testBit_eq
    intro i
    rw [Nat.testBit_and]
    by_cases hi : i < 32
    · have := hbt i hi
      rw [h, b_0] at this
      revert this
      cases a.testBit i <;> cases b.testBit i <;> decide
    · have : a.testBit i = false := Nat.testBit_lt_two_pow (Nat.lt_of_lt_of_le ha (Nat.pow_le_pow_right (by decide) (by omega)))
      rw [this]; rfl
  · intro h
    apply b_ext
    intro i hi
    rw [hbt i hi, b_0]
    have : (a &&& b).testBit i = a.testBit i := by rw [h]
    rw [Nat.testBit_and] at this
    revert this
    cases a.testBit i <;> cases b.testBit i <;> decide
theorem hl1 {S : gl_H} {A : Nat → Nat → Int32} {py : Nat → Int64} {s : DS} {mt mc : Int32} (hM : MPR S (A) (py) (zn s) (zD s) (zT s) (zG s) ((zv s).2.2.2) (1) (mt) (mc)) (hG : AG A py s) (hW : DW s) (x : gl_X) {Q : Option Value → gl_H → Prop} (K : GG mX7_hall x (gl_Z mX7_hall x Q) 41 [some (.ref 70), some (.int (nI (opM s (zG s)))), none, none, none, none, none, none] [] S (0, 0)) : ∀ (m g : Nat), g + m = zG s → GG mX7_hall x (gl_Z mX7_hall x Q) 8 [some (.ref 70), some (.int (nI (opM s g))), some (.int (nI g)), none, none, none, none, none] [] S (0, 0) := by
  have htc := hW.1
  have hgc := hW.2.1
  have hgn := hW.2.2.2.1
  intro m
  induction m with
  | zero =>
    intro g hm
    have e : g = zG s := by omega
    subst e
    refine gg_iload_n dX7_hall_8 rfl rfl ?_
    refine gg_aload_n dX7_hall_9 rfl rfl ?_
    refine gf_X7_123 rfl dX7_hall_10 hM.1 rfl ?_
    refine gg_icmp_ge (tgt := 41) dX7_hall_13 (by decide) (fun c13 => ?_) (fun c13 => ?_)
    · refine gg_fg [true, true, false, false, false, false, false, false] ?_
      exact K
    · exact absurd (nI_le (Nat.le_refl _) (by omega)) c13
  | succ m ih =>
    intro g hm
    have h9 := ih (g + 1) (by omega)
    have e0 : opM s (g + 1) = if zOp s g then opM s g ||| 2 ^ g else opM s g := rfl
    refine gg_iload_n dX7_hall_8 rfl rfl ?_
    refine gg_aload_n dX7_hall_9 rfl rfl ?_
    refine gf_X7_123 rfl dX7_hall_10 hM.1 rfl ?_
    refine gg_icmp_ge (tgt := 41) dX7_hall_13 (by decide) (fun c13 => ?_) (fun c13 => ?_)
    · exact absurd (n_le c13) (by omega)
    · refine gg_iload_n dX7_hall_16 rfl rfl ?_
      refine gg_aload_n dX7_hall_17 rfl rfl ?_
      refine gg_iload_n dX7_hall_18 rfl rfl ?_
      refine gg_callV (sp_X7_senderOf hM hG htc g) dX7_hall_19 kw_X7_146 rfl hM.1 rfl rfl (Nat.le_of_ble_eq_true rfl) (Nat.le_of_ble_eq_true rfl) (Nat.le_of_ble_eq_true rfl) ⟨(Nat.le_of_ble_eq_true rfl), (Nat.le_of_ble_eq_true rfl)⟩ (fun r S1 hq => ?_)
      refine gg_k (k2 := (0, 0)) rfl ?_
      obtain ⟨e9, rfl⟩ := hq
      rw [e9]
      clear e9 S1
      refine gg_iconst (v := -1) dX7_hall_22 (by decide) ?_
      refine gg_icmp_ne (tgt := 32) dX7_hall_23 (by decide) (fun c23 => ?_) (fun c23 => ?_)
      · rw [e0, if_neg (fun z => c23 ((op_I htc g).mpr z))] at h9
        refine gg_iconst (v := 0) dX7_hall_32 (by decide) ?_
        refine gg_ior dX7_hall_33 ?_
        first | rw [Int32.or_zero] | skip
        refine gg_istore_n dX7_hall_34 rfl (Nat.le_of_ble_eq_true rfl) rfl ?_
        refine gg_iinc (w := nI (g + 1)) dX7_hall_35 rfl (nI_1 g) (Nat.le_of_ble_eq_true rfl) rfl ?_
        refine gg_goto (tgt := 8) dX7_hall_38 (by decide) ?_
        exact h9
      · rw [e0, if_pos ((op_I htc g).mp c23), ← or_sl (by omega)] at h9
        refine gg_iconst (v := 1) dX7_hall_26 (by decide) ?_
        refine gg_iload_n dX7_hall_27 rfl rfl ?_
        refine gg_ishl dX7_hall_28 ?_
        refine gg_goto (tgt := 33) dX7_hall_29 (by decide) ?_
        refine gg_ior dX7_hall_33 ?_
        first | rw [Int32.or_zero] | skip
        refine gg_istore_n dX7_hall_34 rfl (Nat.le_of_ble_eq_true rfl) rfl ?_
        refine gg_iinc (w := nI (g + 1)) dX7_hall_35 rfl (nI_1 g) (Nat.le_of_ble_eq_true rfl) rfl ?_
        refine gg_goto (tgt := 8) dX7_hall_38 (by decide) ?_
        exact h9
theorem hl4 {S : gl_H} {A : Nat → Nat → Int32} {py : Nat → Int64} {s : DS} {mt mc : Int32} (hM : MPR S (A) (py) (zn s) (zD s) (zT s) (zG s) ((zv s).2.2.2) (1) (mt) (mc)) (hG : AG A py s) (hW : DW s) (x : gl_X) {Q : Option Value → gl_H → Prop} {op few set wh t : Nat} (ht : t < zT s) (K : GG mX7_hall x (gl_Z mX7_hall x Q) 162 [some (.ref 70), some (.int (nI op)), some (.int (nI few)), some (.int (nI set)), some (.int (nI wh)), some (.int (nI t)), some (.int (bI (hlI s set t (zG s)))), none] [] S (0, 0)) : ∀ (m g : Nat), g + m = zG s → GG mX7_hall x (gl_Z mX7_hall x Q) 115 [some (.ref 70), some (.int (nI op)), some (.int (nI few)), some (.int (nI set)), some (.int (nI wh)), some (.int (nI t)), some (.int (bI (hlI s set t g))), some (.int (nI g))] [] S (0, 0) := by
  have htc := hW.1
  have hgc := hW.2.1
  have hgn := hW.2.2.2.1
  intro m
  induction m with
  | zero =>
    intro g hm
    have e : g = zG s := by omega
    subst e
    refine gg_iload dX7_hall_115 rfl ?_
    refine gg_aload_n dX7_hall_117 rfl rfl ?_
    refine gf_X7_123 rfl dX7_hall_118 hM.1 rfl ?_
    refine gg_icmp_ge (tgt := 162) dX7_hall_121 (by decide) (fun c121 => ?_) (fun c121 => ?_)
    · refine gg_fg [true, true, true, true, true, true, true, false] ?_
      exact K
    · exact absurd (nI_le (Nat.le_refl _) (by omega)) c121
  | succ m ih =>
    intro g hm
    have hg : g < zG s := by omega
    have h9 := ih (g + 1) (by omega)
    have e0 : hlI s set t (g + 1) = (hlI s set t g || (set.testBit g && zGo s t g)) := rfl
    refine gg_iload dX7_hall_115 rfl ?_
    refine gg_aload_n dX7_hall_117 rfl rfl ?_
    refine gf_X7_123 rfl dX7_hall_118 hM.1 rfl ?_
    refine gg_icmp_ge (tgt := 162) dX7_hall_121 (by decide) (fun c121 => ?_) (fun c121 => ?_)
    · exact absurd (n_le c121) (by omega)
    · refine gg_iload dX7_hall_124 rfl ?_
      refine gg_if_ne (tgt := 149) dX7_hall_126 (by decide) (fun c126 => ?_) (fun c126 => ?_)
      · rw [e0, bI_nz c126, Bool.true_or] at h9
        refine gg_iconst (v := 1) dX7_hall_149 (by decide) ?_
        refine gg_goto (tgt := 154) dX7_hall_150 (by decide) ?_
        refine gg_istore dX7_hall_154 (Nat.le_of_ble_eq_true rfl) rfl ?_
        refine gg_iinc (w := nI (g + 1)) dX7_hall_156 rfl (nI_1 g) (Nat.le_of_ble_eq_true rfl) rfl ?_
        refine gg_goto (tgt := 115) dX7_hall_159 (by decide) ?_
        exact h9
      · rw [e0, bI_z c126, Bool.false_or] at h9
        refine gg_iload_n dX7_hall_129 rfl rfl ?_
        refine gg_iload dX7_hall_130 rfl ?_
        refine gg_callS (sp_X7_has S (nI set) (nI g)) dX7_hall_132 kw_X7_130 rfl rfl (Nat.le_of_ble_eq_true rfl) (Nat.le_of_ble_eq_true rfl) (Nat.le_of_ble_eq_true rfl) ⟨(Nat.le_of_ble_eq_true rfl), (Nat.le_of_ble_eq_true rfl)⟩ (fun r S1 hq => ?_)
        refine gg_k (k2 := (0, 0)) rfl ?_
        obtain ⟨e9, rfl⟩ := hq
        rw [e9]
        clear e9 S1
        refine gg_if_eq (tgt := 153) dX7_hall_135 (by decide) (fun c135 => ?_) (fun c135 => ?_)
        · rw [show set.testBit g = false by rw [← hb_n (by omega)]; exact hb_ifn c135, Bool.false_and] at h9
          refine gg_iconst (v := 0) dX7_hall_153 (by decide) ?_
          refine gg_istore dX7_hall_154 (Nat.le_of_ble_eq_true rfl) rfl ?_
          refine gg_iinc (w := nI (g + 1)) dX7_hall_156 rfl (nI_1 g) (Nat.le_of_ble_eq_true rfl) rfl ?_
          refine gg_goto (tgt := 115) dX7_hall_159 (by decide) ?_
          exact h9
        · rw [show set.testBit g = true by rw [← hb_n (by omega)]; exact hb_if c135, Bool.true_and] at h9
          refine gg_aload_n dX7_hall_138 rfl rfl ?_
          refine gg_iload dX7_hall_139 rfl ?_
          refine gg_iload dX7_hall_141 rfl ?_
          refine gg_callV (sp_X7_goes hM hG ht hg (hgn g hg).1 htc hgc) dX7_hall_143 kw_X7_149 rfl hM.1 rfl rfl (Nat.le_of_ble_eq_true rfl) (Nat.le_of_ble_eq_true rfl) (Nat.le_of_ble_eq_true rfl) ⟨(Nat.le_of_ble_eq_true rfl), (Nat.le_of_ble_eq_true rfl)⟩ (fun r S1 hq => ?_)
          refine gg_k (k2 := (0, 0)) rfl ?_
          obtain ⟨e9, rfl⟩ := hq
          rw [e9]
          clear e9 S1
          refine gg_if_eq (tgt := 153) dX7_hall_146 (by decide) (fun c146 => ?_) (fun c146 => ?_)
          · rw [bI_z c146] at h9
            refine gg_iconst (v := 0) dX7_hall_153 (by decide) ?_
            refine gg_istore dX7_hall_154 (Nat.le_of_ble_eq_true rfl) rfl ?_
            refine gg_iinc (w := nI (g + 1)) dX7_hall_156 rfl (nI_1 g) (Nat.le_of_ble_eq_true rfl) rfl ?_
            refine gg_goto (tgt := 115) dX7_hall_159 (by decide) ?_
            exact h9
          · rw [bI_nz c146] at h9
            refine gg_iconst (v := 1) dX7_hall_149 (by decide) ?_
            refine gg_goto (tgt := 154) dX7_hall_150 (by decide) ?_
            refine gg_istore dX7_hall_154 (Nat.le_of_ble_eq_true rfl) rfl ?_
            refine gg_iinc (w := nI (g + 1)) dX7_hall_156 rfl (nI_1 g) (Nat.le_of_ble_eq_true rfl) rfl ?_
            refine gg_goto (tgt := 115) dX7_hall_159 (by decide) ?_
            exact h9
theorem hl3 {S : gl_H} {A : Nat → Nat → Int32} {py : Nat → Int64} {s : DS} {mt mc : Int32} (hM : MPR S (A) (py) (zn s) (zD s) (zT s) (zG s) ((zv s).2.2.2) (1) (mt) (mc)) (hG : AG A py s) (hW : DW s) (x : gl_X) {Q : Option Value → gl_H → Prop} {op few set : Nat} (K : GG mX7_hall x (gl_Z mX7_hall x Q) 183 [some (.ref 70), some (.int (nI op)), some (.int (nI few)), some (.int (nI set)), some (.int (nI (hlW s set (zT s)))), none, none, none] [] S (0, 0)) : ∀ (m t : Nat), t + m = zT s → GG mX7_hall x (gl_Z mX7_hall x Q) 100 [some (.ref 70), some (.int (nI op)), some (.int (nI few)), some (.int (nI set)), some (.int (nI (hlW s set t))), some (.int (nI t)), none, none] [] S (0, 0) := by
  have htc := hW.1
  have hgc := hW.2.1
  have hgn := hW.2.2.2.1
  intro m
  induction m with
  | zero =>
    intro t hm
    have e : t = zT s := by omega
    subst e
    refine gg_iload dX7_hall_100 rfl ?_
    refine gg_aload_n dX7_hall_102 rfl rfl ?_
    refine gf_X7_120 rfl dX7_hall_103 hM.1 rfl ?_
    refine gg_icmp_ge (tgt := 183) dX7_hall_106 (by decide) (fun c106 => ?_) (fun c106 => ?_)
    · refine gg_fg [true, true, true, true, true, false, false, false] ?_
      exact K
    · exact absurd (nI_le (Nat.le_refl _) (by omega)) c106
  | succ m ih =>
    intro t hm
    have ht : t < zT s := by omega
    have h9 := ih (t + 1) (by omega)
    have e0 : hlW s set (t + 1) = if hlI s set t (zG s) then hlW s set t + 1 else hlW s set t := rfl
    refine gg_iload dX7_hall_100 rfl ?_
    refine gg_aload_n dX7_hall_102 rfl rfl ?_
    refine gf_X7_120 rfl dX7_hall_103 hM.1 rfl ?_
    refine gg_icmp_ge (tgt := 183) dX7_hall_106 (by decide) (fun c106 => ?_) (fun c106 => ?_)
    · exact absurd (n_le c106) (by omega)
    · refine gg_iconst (v := 0) dX7_hall_109 (by decide) ?_
      refine gg_istore dX7_hall_110 (Nat.le_of_ble_eq_true rfl) rfl ?_
      refine gg_iconst (v := 0) dX7_hall_112 (by decide) ?_
      refine gg_istore dX7_hall_113 (Nat.le_of_ble_eq_true rfl) rfl ?_
      refine hl4 hM hG hW x ht ?_ (zG s) 0 (Nat.zero_add _)
      refine gg_iload dX7_hall_162 rfl ?_
      refine gg_iload dX7_hall_164 rfl ?_
      refine gg_if_eq (tgt := 173) dX7_hall_166 (by decide) (fun c166 => ?_) (fun c166 => ?_)
      · rw [e0, if_neg (by rw [bI_z c166]; decide)] at h9
        refine gg_iconst (v := 0) dX7_hall_173 (by decide) ?_
        refine gg_iadd dX7_hall_174 ?_
        first | rw [Int32.add_zero] | skip
        refine gg_istore dX7_hall_175 (Nat.le_of_ble_eq_true rfl) rfl ?_
        refine gg_iinc (w := nI (t + 1)) dX7_hall_177 rfl (nI_1 t) (Nat.le_of_ble_eq_true rfl) rfl ?_
        refine gg_goto (tgt := 100) dX7_hall_180 (by decide) ?_
        refine gg_fg [true, true, true, true, true, true, false, false] ?_
        exact h9
      · rw [e0, if_pos (bI_nz c166), ← nI_1] at h9
        refine gg_iconst (v := 1) dX7_hall_169 (by decide) ?_
        refine gg_goto (tgt := 174) dX7_hall_170 (by decide) ?_
        refine gg_iadd dX7_hall_174 ?_
        first | rw [Int32.add_zero] | skip
        refine gg_istore dX7_hall_175 (Nat.le_of_ble_eq_true rfl) rfl ?_
        refine gg_iinc (w := nI (t + 1)) dX7_hall_177 rfl (nI_1 t) (Nat.le_of_ble_eq_true rfl) rfl ?_
        refine gg_goto (tgt := 100) dX7_hall_180 (by decide) ?_
        refine gg_fg [true, true, true, true, true, true, false, false] ?_
        exact h9
theorem hl2 {S : gl_H} {A : Nat → Nat → Int32} {py : Nat → Int64} {s : DS} {mt mc : Int32} (hM : MPR S (A) (py) (zn s) (zD s) (zT s) (zG s) ((zv s).2.2.2) (1) (mt) (mc)) (hG : AG A py s) (hW : DW s) (x : gl_X) {Q : Option Value → gl_H → Prop} {op : Nat} (hop : op < 4096) (K : GG mX7_hall x (gl_Z mX7_hall x Q) 200 [some (.ref 70), some (.int (nI op)), some (.int (nI (hlF s op (2 ^ zG s - 1)))), none, none, none, none, none] [] S (0, 0)) : ∀ (m n : Nat), n + m = 2 ^ zG s - 1 → GG mX7_hall x (gl_Z mX7_hall x Q) 58 [some (.ref 70), some (.int (nI op)), some (.int (nI (hlF s op n))), some (.int (nI (n + 1))), none, none, none, none] [] S (0, 0) := by
  have htc := hW.1
  have hgc := hW.2.1
  have hgn := hW.2.2.2.1
  have h10 : 2 ^ zG s ≤ 1024 := Nat.pow_le_pow_right (by decide) hgc
  have h1 : 0 < 2 ^ zG s := Nat.two_pow_pos _
  intro m
  induction m with
  | zero =>
    intro n hm
    have e : n = 2 ^ zG s - 1 := by omega
    subst e
    refine gg_iload_n dX7_hall_58 rfl rfl ?_
    refine gg_iconst (v := 1) dX7_hall_59 (by decide) ?_
    refine gg_aload_n dX7_hall_60 rfl rfl ?_
    refine gf_X7_123 rfl dX7_hall_61 hM.1 rfl ?_
    refine gg_ishl dX7_hall_64 ?_
    rw [nx_sl _ (by omega)]
    refine gg_icmp_ge (tgt := 200) dX7_hall_65 (by decide) (fun c65 => ?_) (fun c65 => ?_)
    · refine gg_fg [true, true, true, false, false, false, false, false] ?_
      exact K
    · exact absurd (nI_le (a := 2 ^ zG s) (b := 2 ^ zG s - 1 + 1) (by omega) (by omega)) c65
  | succ m ih =>
    intro n hm
    have h9 := ih (n + 1) (by omega)
    have hle := hlF_le s op n
    have hwl := hlW_le s (n + 1) (zT s)
    have hpc := pc_le (n + 1)
    have hpf := pc_le (hlF s op n)
    have e0 : hlF s op (n + 1) = if (n + 1) &&& op = (n + 1) ∧ (hlF s op n = 0 ∨ pcN (n + 1) < pcN (hlF s op n)) ∧ hlW s (n + 1) (zT s) < pcN (n + 1) then n + 1 else hlF s op n := rfl
    refine gg_iload_n dX7_hall_58 rfl rfl ?_
    refine gg_iconst (v := 1) dX7_hall_59 (by decide) ?_
    refine gg_aload_n dX7_hall_60 rfl rfl ?_
    refine gf_X7_123 rfl dX7_hall_61 hM.1 rfl ?_
    refine gg_ishl dX7_hall_64 ?_
    rw [nx_sl _ (by omega)]
    refine gg_icmp_ge (tgt := 200) dX7_hall_65 (by decide) (fun c65 => ?_) (fun c65 => ?_)
    · exact absurd (n_le (a := 2 ^ zG s) (b := n + 1) c65) (by omega)
    · refine gg_iload_n dX7_hall_68 rfl rfl ?_
      refine gg_iload_n dX7_hall_69 rfl rfl ?_
      refine gg_iconst (v := -1) dX7_hall_70 (by decide) ?_
      refine gg_ixor dX7_hall_71 ?_
      refine gg_iand dX7_hall_72 ?_
      refine gg_if_ne (tgt := 194) dX7_hall_73 (by decide) (fun c73 => ?_) (fun c73 => ?_)
      · rw [e0, if_neg (fun z => c73 ((and_not (by omega)).mpr z.1))] at h9
        refine gg_iinc (w := nI (n + 1 + 1)) dX7_hall_194 rfl (nI_1 _) (Nat.le_of_ble_eq_true rfl) rfl ?_
        refine gg_goto (tgt := 58) dX7_hall_197 (by decide) ?_
        refine gg_fg [true, true, true, true, false, false, false, false] ?_
        exact h9
      · have e1 := (and_not (a := n + 1) (b := op) (by omega)).mp c73
        refine gg_iload_n dX7_hall_76 rfl rfl ?_
        refine gg_if_eq (tgt := 94) dX7_hall_77 (by decide) (fun c77 => ?_) (fun c77 => ?_)
        · have e2 : hlF s op n = 0 ∨ pcN (n + 1) < pcN (hlF s op n) := Or.inl (n_eq (a := hlF s op n) (b := 0) c77)
          refine gg_iconst (v := 0) dX7_hall_94 (by decide) ?_
          refine gg_istore dX7_hall_95 (Nat.le_of_ble_eq_true rfl) rfl ?_
          refine gg_iconst (v := 0) dX7_hall_97 (by decide) ?_
          refine gg_istore dX7_hall_98 (Nat.le_of_ble_eq_true rfl) rfl ?_
          refine gg_fg [true, true, true, true, true, true, false, false] ?_
          refine hl3 hM hG hW x ?_ (zT s) 0 (Nat.zero_add _)
          refine gg_iload dX7_hall_183 rfl ?_
          refine gg_iload_n dX7_hall_185 rfl rfl ?_
          refine gg_callS (sp_X7_sizeOf S (v := n + 1) (by omega)) dX7_hall_186 kw_X7_165 rfl rfl (Nat.le_of_ble_eq_true rfl) (Nat.le_of_ble_eq_true rfl) (Nat.le_of_ble_eq_true rfl) ⟨(Nat.le_of_ble_eq_true rfl), (Nat.le_of_ble_eq_true rfl)⟩ (fun r S1 hq => ?_)
          refine gg_k (k2 := (0, 0)) rfl ?_
          obtain ⟨e9, rfl⟩ := hq
          rw [e9]
          clear e9 S1
          refine gg_icmp_ge (tgt := 194) dX7_hall_189 (by decide) (fun c189 => ?_) (fun c189 => ?_)
          · rw [e0, if_neg (fun z => by have := n_le c189; omega)] at h9
            refine gg_iinc (w := nI (n + 1 + 1)) dX7_hall_194 rfl (nI_1 _) (Nat.le_of_ble_eq_true rfl) rfl ?_
            refine gg_goto (tgt := 58) dX7_hall_197 (by decide) ?_
            refine gg_fg [true, true, true, true, false, false, false, false] ?_
            exact h9
          · rw [e0, if_pos ⟨e1, e2, n_nle c189⟩] at h9
            refine gg_iload_n dX7_hall_192 rfl rfl ?_
            refine gg_istore_n dX7_hall_193 rfl (Nat.le_of_ble_eq_true rfl) rfl ?_
            refine gg_iinc (w := nI (n + 1 + 1)) dX7_hall_194 rfl (nI_1 _) (Nat.le_of_ble_eq_true rfl) rfl ?_
            refine gg_goto (tgt := 58) dX7_hall_197 (by decide) ?_
            refine gg_fg [true, true, true, true, false, false, false, false] ?_
            exact h9
        · have e3 : ¬ hlF s op n = 0 := fun z => c77 (by rw [z]; rfl)
          refine gg_iload_n dX7_hall_80 rfl rfl ?_
          refine gg_callS (sp_X7_sizeOf S (v := n + 1) (by omega)) dX7_hall_81 kw_X7_165 rfl rfl (Nat.le_of_ble_eq_true rfl) (Nat.le_of_ble_eq_true rfl) (Nat.le_of_ble_eq_true rfl) ⟨(Nat.le_of_ble_eq_true rfl), (Nat.le_of_ble_eq_true rfl)⟩ (fun r S1 hq => ?_)
          refine gg_k (k2 := (0, 0)) rfl ?_
          obtain ⟨e9, rfl⟩ := hq
          rw [e9]
          clear e9 S1
          refine gg_iload_n dX7_hall_84 rfl rfl ?_
          refine gg_callS (sp_X7_sizeOf S (v := hlF s op n) (by omega)) dX7_hall_85 kw_X7_165 rfl rfl (Nat.le_of_ble_eq_true rfl) (Nat.le_of_ble_eq_true rfl) (Nat.le_of_ble_eq_true rfl) ⟨(Nat.le_of_ble_eq_true rfl), (Nat.le_of_ble_eq_true rfl)⟩ (fun r S1 hq => ?_)
          refine gg_k (k2 := (0, 0)) rfl ?_
          obtain ⟨e9, rfl⟩ := hq
          rw [e9]
          clear e9 S1
          refine gg_icmp_lt (tgt := 94) dX7_hall_88 (by decide) (fun c88 => ?_) (fun c88 => ?_)
          · have e2 : hlF s op n = 0 ∨ pcN (n + 1) < pcN (hlF s op n) := Or.inr (n_lt c88)
            refine gg_iconst (v := 0) dX7_hall_94 (by decide) ?_
            refine gg_istore dX7_hall_95 (Nat.le_of_ble_eq_true rfl) rfl ?_
            refine gg_iconst (v := 0) dX7_hall_97 (by decide) ?_
            refine gg_istore dX7_hall_98 (Nat.le_of_ble_eq_true rfl) rfl ?_
            refine gg_fg [true, true, true, true, true, true, false, false] ?_
            refine hl3 hM hG hW x ?_ (zT s) 0 (Nat.zero_add _)
            refine gg_iload dX7_hall_183 rfl ?_
            refine gg_iload_n dX7_hall_185 rfl rfl ?_
            refine gg_callS (sp_X7_sizeOf S (v := n + 1) (by omega)) dX7_hall_186 kw_X7_165 rfl rfl (Nat.le_of_ble_eq_true rfl) (Nat.le_of_ble_eq_true rfl) (Nat.le_of_ble_eq_true rfl) ⟨(Nat.le_of_ble_eq_true rfl), (Nat.le_of_ble_eq_true rfl)⟩ (fun r S1 hq => ?_)
            refine gg_k (k2 := (0, 0)) rfl ?_
            obtain ⟨e9, rfl⟩ := hq
            rw [e9]
            clear e9 S1
            refine gg_icmp_ge (tgt := 194) dX7_hall_189 (by decide) (fun c189 => ?_) (fun c189 => ?_)
            · rw [e0, if_neg (fun z => by have := n_le c189; omega)] at h9
              refine gg_iinc (w := nI (n + 1 + 1)) dX7_hall_194 rfl (nI_1 _) (Nat.le_of_ble_eq_true rfl) rfl ?_
              refine gg_goto (tgt := 58) dX7_hall_197 (by decide) ?_
              refine gg_fg [true, true, true, true, false, false, false, false] ?_
              exact h9
            · rw [e0, if_pos ⟨e1, e2, n_nle c189⟩] at h9
              refine gg_iload_n dX7_hall_192 rfl rfl ?_
              refine gg_istore_n dX7_hall_193 rfl (Nat.le_of_ble_eq_true rfl) rfl ?_
              refine gg_iinc (w := nI (n + 1 + 1)) dX7_hall_194 rfl (nI_1 _) (Nat.le_of_ble_eq_true rfl) rfl ?_
              refine gg_goto (tgt := 58) dX7_hall_197 (by decide) ?_
              refine gg_fg [true, true, true, true, false, false, false, false] ?_
              exact h9
          · rw [e0, if_neg (fun z => z.2.1.elim e3 (fun y => by have := n_nlt c88; omega))] at h9
            refine gg_goto (tgt := 194) dX7_hall_91 (by decide) ?_
            refine gg_iinc (w := nI (n + 1 + 1)) dX7_hall_194 rfl (nI_1 _) (Nat.le_of_ble_eq_true rfl) rfl ?_
            refine gg_goto (tgt := 58) dX7_hall_197 (by decide) ?_
            refine gg_fg [true, true, true, true, false, false, false, false] ?_
            exact h9
theorem wkF_cnt {s : DS} : ∀ g, (wkF s g).2.2.1 ≤ g
  | 0 => Nat.le_refl 0
  | g + 1 => by
    have := wkF_cnt (s := s) g
    show (wkS s g (wkF s g)).2.2.1 ≤ g + 1
    unfold wkS
    split
    · exact Nat.le_succ_of_le this
    · exact Nat.succ_le_succ this
theorem sp_M_hall {S : gl_H} {s : DS} (h : MP S s) (hW : DW s) : Sp mX7_hall yX7_hall [.ref 70] S (fun r S1 => r = some (.int (nI (hlA s))) ∧ MP S1 s ∧ Fr 70 95 S S1) := by
  refine gl_enter (j := 7) (by decide +kernel) rfl (fun h => absurd h (by decide)) (Nat.le_of_ble_eq_true rfl) rfl (fun x => ?_)
  obtain ⟨A, py, fr, mt, mc, hM, hG, hF⟩ := h
  have hf : Fr 70 95 S S := Fr.rf
  have htc := hW.1
  have hgc := hW.2.1
  have hgn := hW.2.2.2.1
  have h10 : 2 ^ zG s ≤ 1024 := Nat.pow_le_pow_right (by decide) hgc
  have hop := opM_lt s (zG s)
  have hpo := pc_le (opM s (zG s))
  have hcn := wkF_cnt (s := s) (zG s)
  refine gg_aload_n dX7_hall_0 rfl rfl ?_
  refine gg_callV (sp_X7_works ⟨A, py, fr, mt, mc, hM, hG, hF⟩ hW) dX7_hall_1 kw_X7_162 rfl hM.1 rfl rfl (Nat.le_of_ble_eq_true rfl) (Nat.le_of_ble_eq_true rfl) (Nat.le_of_ble_eq_true rfl) ⟨(Nat.le_of_ble_eq_true rfl), (Nat.le_of_ble_eq_true rfl)⟩ (fun r S1 hq => ?_)
  refine gg_k (k2 := (0, 0)) rfl ?_
  obtain ⟨rfl, A, py, mt, mc, hM, hG, hK, hf⟩ := hq
  revert S1
  intro S hM hf
  have hF : (1 : Int32) = 0 ∨ ((1 : Int32) = 1 ∧ WK s (A 23) mt mc) := Or.inr ⟨rfl, hK⟩
  refine gg_iconst (v := 0) dX7_hall_4 (by decide) ?_
  refine gg_istore_n dX7_hall_5 rfl (Nat.le_of_ble_eq_true rfl) rfl ?_
  refine gg_iconst (v := 0) dX7_hall_6 (by decide) ?_
  refine gg_istore_n dX7_hall_7 rfl (Nat.le_of_ble_eq_true rfl) rfl ?_
  refine hl1 hM hG hW x ?_ (zG s) 0 (Nat.zero_add _)
  refine gg_iload_n dX7_hall_41 rfl rfl ?_
  refine gg_callS (sp_X7_sizeOf S (v := opM s (zG s)) (by omega)) dX7_hall_42 kw_X7_165 rfl rfl (Nat.le_of_ble_eq_true rfl) (Nat.le_of_ble_eq_true rfl) (Nat.le_of_ble_eq_true rfl) ⟨(Nat.le_of_ble_eq_true rfl), (Nat.le_of_ble_eq_true rfl)⟩ (fun r S1 hq => ?_)
  refine gg_k (k2 := (0, 0)) rfl ?_
  obtain ⟨e9, rfl⟩ := hq
  rw [e9]
  clear e9 S1
  refine gg_aload_n dX7_hall_45 rfl rfl ?_
  refine gf_X7_156 rfl dX7_hall_46 hM.1 rfl ?_
  rw [hK.2.1]
  refine gg_icmp_ne (tgt := 54) dX7_hall_49 (by decide) (fun c49 => ?_) (fun c49 => ?_)
  · rw [show hlA s = _ from if_neg (fun z => c49 (by rw [z]))]
    refine gg_iconst (v := 0) dX7_hall_54 (by decide) ?_
    refine gg_istore_n dX7_hall_55 rfl (Nat.le_of_ble_eq_true rfl) rfl ?_
    refine gg_iconst (v := 1) dX7_hall_56 (by decide) ?_
    refine gg_istore_n dX7_hall_57 rfl (Nat.le_of_ble_eq_true rfl) rfl ?_
    refine hl2 hM hG hW x (by omega) ?_ (2 ^ zG s - 1) 0 (Nat.zero_add _)
    refine gg_iload_n dX7_hall_200 rfl rfl ?_
    exact gg_ireturn dX7_hall_201 rfl rfl ⟨(Nat.le_of_ble_eq_true rfl), (Nat.le_of_ble_eq_true rfl)⟩ (⟨rfl, ⟨A, py, 1, mt, mc, hM, hG, hF⟩, hf⟩)
  · rw [show hlA s = 0 from if_pos (n_eq c49)]
    refine gg_iconst (v := 0) dX7_hall_52 (by decide) ?_
    exact gg_ireturn dX7_hall_53 rfl rfl ⟨(Nat.le_of_ble_eq_true rfl), (Nat.le_of_ble_eq_true rfl)⟩ (⟨rfl, ⟨A, py, 1, mt, mc, hM, hG, hF⟩, hf⟩)
