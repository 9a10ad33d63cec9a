/-! bits: the first rows are the kit's, pasted -/
def bt (x : Int32) (i : Nat) : Bool := x.toBitVec.getLsbD i
theorem b_ext {x y : Int32} (h : ∀ i, i < 32 → bt x i = bt y i) : x = y := Int32.toBitVec_inj.mp (BitVec.eq_of_getLsbD_eq (fun i hi => h i hi))
theorem b_or (x y : Int32) (i : Nat) : bt (x ||| y) i = (bt x i || bt y i) := by unfold bt; rw [Int32.toBitVec_or, BitVec.getLsbD_or]
theorem b_and (x y : Int32) (i : Nat) : bt (x &&& y) i = (bt x i && bt y i) := by unfold bt; rw [Int32.toBitVec_and, BitVec.getLsbD_and]
theorem b_xor (x y : Int32) (i : Nat) : bt (x ^^^ y) i = (bt x i ^^ bt y i) := by unfold bt; rw [Int32.toBitVec_xor, BitVec.getLsbD_xor]
theorem b_big {x : Int32} {i : Nat} (h : 32 ≤ i) : bt x i = false := BitVec.getLsbD_of_ge _ _ h
theorem b_255 (i : Nat) : bt 255 i = decide (i < 8) := by
  rcases Nat.lt_or_ge i 32 with h | h
  · exact (by decide +kernel : ∀ i, i < 32 → bt 255 i = decide (i < 8)) i h
  · rw [b_big h, decide_eq_false (by omega)]
theorem b_65535 (i : Nat) : bt 65535 i = decide (i < 16) := by
  rcases Nat.lt_or_ge i 32 with h | h
  · exact (by decide +kernel : ∀ i, i < 32 → bt 65535 i = decide (i < 16)) i h
  · rw [b_big h, decide_eq_false (by omega)]
theorem b_m1 : ∀ i, i < 32 → bt (-1) i = true := by decide +kernel
theorem b_0 (i : Nat) : bt 0 i = false := BitVec.getLsbD_zero
theorem s_l : ∀ n, n < 32 → ((nI n &&& 31).toBitVec.smod 32).toNat = n := by decide +kernel
theorem s_u : ∀ n, n < 32 → (((nI n).toUInt32 &&& Int32.toUInt32 31).toBitVec % 32).toNat = n := by decide +kernel
theorem b_shl (n : Nat) (hn : n < 32) (x : Int32) {i : Nat} (hi : i < 32) : bt (x <<< (nI n &&& 31)) i = (decide (n ≤ i) && bt x (i - n)) := by
  unfold bt
  rw [Int32.toBitVec_shiftLeft]
  show (x.toBitVec <<< ((nI n &&& 31).toBitVec.smod 32).toNat).getLsbD i = _
  rw [s_l n hn, BitVec.getLsbD_shiftLeft]
  rcases Nat.lt_or_ge i n with h | h
  · simp [h, Nat.not_le.mpr h]
  · simp [hi, h, Nat.not_lt.mpr h]
theorem b_ushr (n : Nat) (hn : n < 32) (x : Int32) (i : Nat) : bt ((x.toUInt32 >>> ((nI n).toUInt32 &&& Int32.toUInt32 31)).toInt32) i = bt x (n + i) := by
  show (x.toUInt32 >>> ((nI n).toUInt32 &&& Int32.toUInt32 31)).toBitVec.getLsbD i = x.toUInt32.toBitVec.getLsbD (n + i)
  rw [UInt32.toBitVec_shiftRight]
  show (x.toUInt32.toBitVec >>> (((nI n).toUInt32 &&& Int32.toUInt32 31).toBitVec % 32).toNat).getLsbD i = _
  rw [s_u n hn, BitVec.getLsbD_ushiftRight]
theorem b_sshr (n : Nat) (hn : n < 32) (x : Int32) {i : Nat} (hi : i < 32) : bt (x >>> (nI n &&& 31)) i = if n + i < 32 then bt x (n + i) else bt x 31 := by
  unfold bt
  rw [Int32.toBitVec_shiftRight]
  show (x.toBitVec.sshiftRight ((nI n &&& 31).toBitVec.smod 32).toNat).getLsbD i = _
  rw [s_l n hn, BitVec.getLsbD_sshiftRight, BitVec.msb_eq_getLsbD_last]
  simp [hi]
theorem b_shl8 (x : Int32) {i : Nat} (hi : i < 32) : bt (x <<< ((8 : Int32) &&& 31)) i = (decide (8 ≤ i) && bt x (i - 8)) := b_shl 8 (by omega) x hi
theorem b_shl16 (x : Int32) {i : Nat} (hi : i < 32) : bt (x <<< ((16 : Int32) &&& 31)) i = (decide (16 ≤ i) && bt x (i - 16)) := b_shl 16 (by omega) x hi
theorem b_shl24 (x : Int32) {i : Nat} (hi : i < 32) : bt (x <<< ((24 : Int32) &&& 31)) i = (decide (24 ≤ i) && bt x (i - 24)) := b_shl 24 (by omega) x hi
theorem b_sshr8 (x : Int32) {i : Nat} (hi : i < 32) : bt (x >>> ((8 : Int32) &&& 31)) i = if 8 + i < 32 then bt x (8 + i) else bt x 31 := b_sshr 8 (by omega) x hi
/-! ===== nI under and, xor, >>>, one bit, 65535 ===== -/
theorem nx_and (a b : Nat) : nI a &&& nI b = nI (a &&& b) := by
  apply Int32.toBitVec_inj.1
  show BitVec.ofNat 32 a &&& BitVec.ofNat 32 b = BitVec.ofNat 32 (a &&& b)
  apply BitVec.eq_of_getLsbD_eq
  intro i hi
  simp [hi]
theorem nx_xor (a b : Nat) : nI a ^^^ nI b = nI (a ^^^ b) := by
  apply Int32.toBitVec_inj.1
  show BitVec.ofNat 32 a ^^^ BitVec.ofNat 32 b = BitVec.ofNat 32 (a ^^^ b)
  apply BitVec.eq_of_getLsbD_eq
  intro i hi
  simp [hi]
theorem nx_or (a b : Nat) : nI a ||| nI b = nI (a ||| b) := by
  apply Int32.toBitVec_inj.1
  show BitVec.ofNat 32 a ||| BitVec.ofNat 32 b = BitVec.ofNat 32 (a ||| b)
  apply BitVec.eq_of_getLsbD_eq
  intro i hi
  simp [hi]
theorem nx_sl : ∀ t, t < 31 → ((1 : Int32) <<< (nI t &&& 31)) = nI (2 ^ t) := by decide +kernel
theorem bt_n {k i : Nat} (hi : i < 32) : bt (nI k) i = k.testBit i := by
  show (BitVec.ofNat 32 k).getLsbD i = k.testBit i
  rw [BitVec.getLsbD_ofNat, decide_eq_true hi, Bool.true_and]
theorem bt_1 : ∀ i, i < 32 → bt 1 i = decide (i = 0) := by decide +kernel
theorem hb_bt {x : Int32} {j : Nat} (hj : j < 32) : hb_ x (nI j) = bt x j := by
  unfold hb_
  have h0 : bt (x >>> (nI j &&& 31)) 0 = bt x j := by rw [b_sshr j hj x (by decide), if_pos (by omega)]; rfl
  by_cases h : bt x j = true
  · rw [h]
    apply decide_eq_true
    apply b_ext
    intro i hi
    rw [b_and, bt_1 i hi]
    by_cases e : i = 0
    · subst e; rw [h0, h]; rfl
    · rw [decide_eq_false e, Bool.and_false]
  · rw [Bool.eq_false_iff.mpr h]
    apply decide_eq_false
    intro z
    have z2 : bt ((x >>> (nI j &&& 31)) &&& 1) 0 = bt 1 0 := by rw [z]
    rw [b_and, h0, Bool.eq_false_iff.mpr h] at z2
    exact absurd z2 (by decide)
theorem hb_n {k j : Nat} (hj : j < 32) : hb_ (nI k) (nI j) = k.testBit j := by rw [hb_bt hj, bt_n hj]
theorem or_sl {k t : Nat} (ht : t < 31) : nI k ||| ((1 : Int32) <<< (nI t &&& 31)) = nI (k ||| 2 ^ t) := by rw [nx_sl t ht, nx_or]
/-- the bits of a set of twelve -/
def pcN (v : Nat) : Nat := cntN (fun t => v.testBit t) 12
theorem sz_d : ∀ a, a < 64 → ∀ b, b < 64 → (bcv (nI (64 * a + b)) = nI (pcN (64 * a + b)) ∧ (64 * a + b ≠ 0 → pcN ((64 * a + b) &&& (64 * a + b - 1)) + 1 = pcN (64 * a + b))) := by decide +kernel
theorem sz_1 {v : Nat} (h : v < 4096) : bcv (nI v) = nI (pcN v) := by
  have := (sz_d (v / 64) (by omega) (v % 64) (by omega)).1
  rw [show 64 * (v / 64) + v % 64 = v by omega] at this
  exact this
theorem sz_2 {v : Nat} (h : v < 4096) (h0 : v ≠ 0) : pcN (v &&& (v - 1)) + 1 = pcN v := by
  have := (sz_d (v / 64) (by omega) (v % 64) (by omega)).2
  rw [show 64 * (v / 64) + v % 64 = v by omega] at this
  exact this h0
theorem pc_le (v : Nat) : pcN v ≤ 12 := by
  have h9 : ∀ (p : Nat → Bool) n, cntN p n ≤ n := by
    intro p n
    induction n with
    | zero => exact Nat.le_refl 0
    | succ n ih => unfold cntN; split <;> omega
  exact h9 _ 12
theorem sz_loop {S : gl_H} {v0 : Int32} {r0 : Nat} (x : gl_X) : ∀ (m v c : Nat), v ≤ m → v < 4096 → c + pcN v = r0 → GG mX7_sizeOf x (gl_Z mX7_sizeOf x (fun r S1 => S1 = S ∧ r = some (.int (nI r0)))) 4 [some (.int v0), some (.int (nI c)), some (.int (nI v))] [] S (0, 0) := by
  intro m
  induction m with
  | zero =>
    intro v c h1 h2 h3
    have e : v = 0 := by omega
    subst e
    have e : c = r0 := h3
    subst e
    refine gg_iload_n dX7_sizeOf_4 rfl rfl ?_
    refine gg_if_eq (tgt := 20) dX7_sizeOf_5 (by decide) (fun c5 => ?_) (fun c5 => ?_)
    · refine gg_iload_n dX7_sizeOf_20 rfl rfl ?_
      exact gg_ireturn dX7_sizeOf_21 rfl rfl ⟨(Nat.le_of_ble_eq_true rfl), (Nat.le_of_ble_eq_true rfl)⟩ (⟨rfl, rfl⟩)
    · exact absurd rfl c5
  | succ m ih =>
    intro v c h1 h2 h3
    by_cases h0 : v = 0
    · subst h0
      have e : c = r0 := h3
      subst e
      refine gg_iload_n dX7_sizeOf_4 rfl rfl ?_
      refine gg_if_eq (tgt := 20) dX7_sizeOf_5 (by decide) (fun c5 => ?_) (fun c5 => ?_)
      · refine gg_iload_n dX7_sizeOf_20 rfl rfl ?_
        exact gg_ireturn dX7_sizeOf_21 rfl rfl ⟨(Nat.le_of_ble_eq_true rfl), (Nat.le_of_ble_eq_true rfl)⟩ (⟨rfl, rfl⟩)
      · exact absurd rfl c5
    · have e2 := sz_2 h2 h0
      have e3 : nI v &&& (nI v - 1) = nI (v &&& (v - 1)) := by
        rw [show nI v - 1 = nI (v - 1) by rw [← nI_pred (v - 1), show v - 1 + 1 = v by omega], nx_and]
      have e4 : v &&& (v - 1) ≤ v - 1 := Nat.and_le_right
      refine gg_iload_n dX7_sizeOf_4 rfl rfl ?_
      refine gg_if_eq (tgt := 20) dX7_sizeOf_5 (by decide) (fun c5 => ?_) (fun c5 => ?_)
      · exact absurd c5 (nI_ne0 (by omega) (by omega))
      · refine gg_iinc (w := nI (c + 1)) dX7_sizeOf_8 rfl (nI_1 c) (Nat.le_of_ble_eq_true rfl) rfl ?_
        refine gg_iload_n dX7_sizeOf_11 rfl rfl ?_
        refine gg_iload_n dX7_sizeOf_12 rfl rfl ?_
        refine gg_iconst (v := 1) dX7_sizeOf_13 (by decide) ?_
        refine gg_isub dX7_sizeOf_14 ?_
        refine gg_iand dX7_sizeOf_15 ?_
        refine gg_istore_n dX7_sizeOf_16 rfl (Nat.le_of_ble_eq_true rfl) rfl ?_
        refine gg_goto (tgt := 4) dX7_sizeOf_17 (by decide) ?_
        rw [e3]
        exact ih _ (c + 1) (by omega) (by omega) (by omega)
theorem sp_X7_sizeOf (S : gl_H) {v : Nat} (hv : v < 4096) : Sp mX7_sizeOf yX7_sizeOf [.int (nI v)] S (fun r S1 => S1 = S ∧ r = some (.int (nI (pcN v)))) := by
  refine gl_enter (j := 2) (by decide +kernel) rfl (fun h => absurd h (by decide)) (Nat.le_of_ble_eq_true rfl) rfl (fun x => ?_)
  refine gg_iconst (v := 0) dX7_sizeOf_0 (by decide) ?_
  refine gg_istore_n dX7_sizeOf_1 rfl (Nat.le_of_ble_eq_true rfl) rfl ?_
  refine gg_iload_n dX7_sizeOf_2 rfl rfl ?_
  refine gg_istore_n dX7_sizeOf_3 rfl (Nat.le_of_ble_eq_true rfl) rfl ?_
  exact sz_loop x v v 0 (Nat.le_refl v) hv (Nat.zero_add _)
/-- every visit of those kept is by one of twelve, of a day no later than today -/
def VW (s : DS) : Prop := (zv s).2.2.2 < 2 ^ 30 ∧ ∀ i, i < vK (zv s).2.2.2 → (∃ t, t < 12 ∧ (zv s).1 i = nI t) ∧ ∃ d, d ≤ 2000 ∧ (zv s).2.2.1 i = nI d
theorem ts_lt {v r d : Nat → Int32} {room day : Int32} : ∀ (n : Nat), (∀ i, i < n → ∃ t, t < 12 ∧ v i = nI t) → ∃ m, m < 4096 ∧ tsF v r d room day n = nI m
  | 0, _ => ⟨0, by decide, rfl⟩
  | n + 1, h => by
    obtain ⟨m, hm, e⟩ := ts_lt (v := v) (r := r) (d := d) (room := room) (day := day) n (fun i hi => h i (by omega))
    obtain ⟨t, ht, e2⟩ := h n (by omega)
    unfold tsF
    rw [e, e2, or_sl (by omega)]
    split
    · exact ⟨_, Nat.or_lt_two_pow (n := 12) hm (Nat.pow_lt_pow_right (by decide) ht), rfl⟩
    · exact ⟨m, hm, rfl⟩
theorem day_cmp {x d : Nat} (hx : x ≤ 2000) (hd : d ≤ 2000) : (nI d < nI x - 30) ↔ ¬ (nI x - nI d ≤ 30) := by
  have e1 : (nI x - 30).toInt = (x : Int) - 30 := by
    rw [fb_subI (by rw [nI_toInt (by omega), show (30 : Int32).toInt = 30 by decide]; omega) (by rw [nI_toInt (by omega), show (30 : Int32).toInt = 30 by decide]; omega), nI_toInt (by omega)]
    rfl
  have e2 : (nI x - nI d).toInt = (x : Int) - d := by
    rw [fb_subI (by rw [nI_toInt (by omega), nI_toInt (by omega)]; omega) (by rw [nI_toInt (by omega), nI_toInt (by omega)]; omega), nI_toInt (by omega), nI_toInt (by omega)]
  rw [Int32.lt_iff_toInt_lt, Int32.le_iff_toInt_le, e1, e2, nI_toInt (by omega), show (30 : Int32).toInt = 30 by decide]
  omega
theorem st_loop {S : gl_H} {A : Nat → Nat → Int32} {py : Nat → Int64} {s : DS} {fr mt mc : Int32} (hM : MPR S (A) (py) (zn s) (zD s) (zT s) (zG s) ((zv s).2.2.2) (fr) (mt) (mc)) (hG : AG A py s) (hW : DW s) (hV : VW s) {k9 c9 : Int32} (x : gl_X) {r0 : Nat} (hr0 : bcv (tsF (zv s).1 (zv s).2.1 (zv s).2.2.1 (16 * k9 + c9) (nI (zD s)) (vK (zv s).2.2.2)) = nI r0) : ∀ (m i : Nat), i + m = vK (zv s).2.2.2 → GG mX7_strangers x (gl_Z mX7_strangers x (fun r S1 => S1 = S ∧ r = some (.int (nI r0)))) 26 [some (.ref 70), some (.int k9), some (.int c9), some (.int (tsF (zv s).1 (zv s).2.1 (zv s).2.2.1 (16 * k9 + c9) (nI (zD s)) i)), some (.int (nI i))] [] S (0, 0) := by
  have hvk := vK_le (zv s).2.2.2
  intro m
  induction m with
  | zero =>
    intro i hm
    have e : i = vK (zv s).2.2.2 := by omega
    subst e
    obtain ⟨m, hm, em⟩ := ts_lt (v := (zv s).1) (r := (zv s).2.1) (d := (zv s).2.2.1) (room := 16 * k9 + c9) (day := nI (zD s)) (vK (zv s).2.2.2) (fun i hi => (hV.2 i hi).1)
    rw [em, sz_1 hm] at hr0
    refine gg_iload dX7_strangers_26 rfl ?_
    refine gg_aload_n dX7_strangers_28 rfl rfl ?_
    refine gg_callV (sp_X7_kept hM hV.1) dX7_strangers_29 kw_X7_174 rfl hM.1 rfl rfl (Nat.le_of_ble_eq_true rfl) (Nat.le_of_ble_eq_true rfl) (Nat.le_of_ble_eq_true rfl) ⟨(Nat.le_of_ble_eq_true rfl), (Nat.le_of_ble_eq_true rfl)⟩ (fun r S1 hq => ?_)
    refine gg_k (k2 := (0, 0)) rfl ?_
    obtain ⟨e9, rfl⟩ := hq
    rw [e9]
    clear e9 S1
    refine gg_icmp_ge (tgt := 86) dX7_strangers_32 (by decide) (fun c32 => ?_) (fun c32 => ?_)
    · refine gg_iload_n dX7_strangers_86 rfl rfl ?_
      rw [em]
      refine gg_callS (sp_X7_sizeOf S hm) dX7_strangers_87 kw_X7_165 rfl rfl (Nat.le_of_ble_eq_true rfl) (Nat.le_of_ble_eq_true rfl) (Nat.le_of_ble_eq_true rfl) ⟨(Nat.le_of_ble_eq_true rfl), (Nat.le_of_ble_eq_true rfl)⟩ (fun r S1 hq => ?_)
      refine gg_k (k2 := (0, 0)) rfl ?_
      obtain ⟨e9, rfl⟩ := hq
      rw [e9, hr0]
      clear e9 S1
      exact gg_ireturn dX7_strangers_90 rfl rfl ⟨(Nat.le_of_ble_eq_true rfl), (Nat.le_of_ble_eq_true rfl)⟩ (⟨rfl, rfl⟩)
    · exact absurd (nI_le (Nat.le_refl _) (by omega)) c32
  | succ m ih =>
    intro i hm
    have hi : i < vK (zv s).2.2.2 := by omega
    obtain ⟨⟨t, ht, e1⟩, d, hd, e2⟩ := hV.2 i hi
    have hday := hW.2.2.1
    have h9 := ih (i + 1) (by omega)
    have e0 : (tsF (zv s).1 (zv s).2.1 (zv s).2.2.1 (16 * k9 + c9) (nI (zD s)) (i + 1)) = if (zv s).2.1 i = 16 * k9 + c9 ∧ nI (zD s) - (zv s).2.2.1 i ≤ 30 then (tsF (zv s).1 (zv s).2.1 (zv s).2.2.1 (16 * k9 + c9) (nI (zD s)) i) ||| ((1 : Int32) <<< ((zv s).1 i &&& 31)) else (tsF (zv s).1 (zv s).2.1 (zv s).2.2.1 (16 * k9 + c9) (nI (zD s)) i) := rfl
    refine gg_iload dX7_strangers_26 rfl ?_
    refine gg_aload_n dX7_strangers_28 rfl rfl ?_
    refine gg_callV (sp_X7_kept hM hV.1) dX7_strangers_29 kw_X7_174 rfl hM.1 rfl rfl (Nat.le_of_ble_eq_true rfl) (Nat.le_of_ble_eq_true rfl) (Nat.le_of_ble_eq_true rfl) ⟨(Nat.le_of_ble_eq_true rfl), (Nat.le_of_ble_eq_true rfl)⟩ (fun r S1 hq => ?_)
    refine gg_k (k2 := (0, 0)) rfl ?_
    obtain ⟨e9, rfl⟩ := hq
    rw [e9]
    clear e9 S1
    refine gg_icmp_ge (tgt := 86) dX7_strangers_32 (by decide) (fun c32 => ?_) (fun c32 => ?_)
    · exact absurd (n_le c32) (by omega)
    · refine gg_aload_n dX7_strangers_35 rfl rfl ?_
      refine gf_X7_72 rfl dX7_strangers_36 hM.1 rfl ?_
      refine gg_iload dX7_strangers_39 rfl ?_
      refine gg_ald_i (i) dX7_strangers_41 hM.a20 rfl (by omega) (by decide) ?_
      rw [show A 20 = (zv s).2.1 from hG.2.2.2.2.2.2.2.2.1]
      refine gg_bipush (v := 16) dX7_strangers_42 (by decide) ?_
      refine gg_iload_n dX7_strangers_44 rfl rfl ?_
      refine gg_imul dX7_strangers_45 ?_
      refine gg_iload_n dX7_strangers_46 rfl rfl ?_
      refine gg_iadd dX7_strangers_47 ?_
      refine gg_icmp_ne (tgt := 80) dX7_strangers_48 (by decide) (fun c48 => ?_) (fun c48 => ?_)
      · rw [if_neg (fun z => c48 z.1)] at e0
        refine gg_iinc (w := nI (i + 1)) dX7_strangers_80 rfl (nI_1 i) (Nat.le_of_ble_eq_true rfl) rfl ?_
        refine gg_goto (tgt := 26) dX7_strangers_83 (by decide) ?_
        rw [e0] at h9
        exact h9
      · refine gg_aload_n dX7_strangers_51 rfl rfl ?_
        refine gf_X7_75 rfl dX7_strangers_52 hM.1 rfl ?_
        refine gg_iload dX7_strangers_55 rfl ?_
        refine gg_ald_i (i) dX7_strangers_57 hM.a21 rfl (by omega) (by decide) ?_
        rw [show A 21 = (zv s).2.2.1 from hG.2.2.2.2.2.2.2.2.2]
        refine gg_aload_n dX7_strangers_58 rfl rfl ?_
        refine gf_X7_133 rfl dX7_strangers_59 hM.1 rfl ?_
        refine gg_bipush (v := 30) dX7_strangers_62 (by decide) ?_
        refine gg_isub dX7_strangers_64 ?_
        refine gg_icmp_lt (tgt := 80) dX7_strangers_65 (by decide) (fun c65 => ?_) (fun c65 => ?_)
        · rw [if_neg (fun z => (day_cmp hday hd).mp (by rw [← e2]; exact c65) (by rw [← e2]; exact z.2))] at e0
          refine gg_iinc (w := nI (i + 1)) dX7_strangers_80 rfl (nI_1 i) (Nat.le_of_ble_eq_true rfl) rfl ?_
          refine gg_goto (tgt := 26) dX7_strangers_83 (by decide) ?_
          rw [e0] at h9
          exact h9
        · rw [if_pos ⟨c48, Decidable.not_not.mp (fun z => absurd ((day_cmp hday hd).mpr (by rw [← e2]; exact z)) (by rw [← e2]; exact c65))⟩] at e0
          refine gg_iload_n dX7_strangers_68 rfl rfl ?_
          refine gg_iconst (v := 1) dX7_strangers_69 (by decide) ?_
          refine gg_aload_n dX7_strangers_70 rfl rfl ?_
          refine gf_X7_69 rfl dX7_strangers_71 hM.1 rfl ?_
          refine gg_iload dX7_strangers_74 rfl ?_
          refine gg_ald_i (i) dX7_strangers_76 hM.a19 rfl (by omega) (by decide) ?_
          rw [show A 19 = (zv s).1 from hG.2.2.2.2.2.2.2.1]
          refine gg_ishl dX7_strangers_77 ?_
          refine gg_ior dX7_strangers_78 ?_
          refine gg_istore_n dX7_strangers_79 rfl (Nat.le_of_ble_eq_true rfl) rfl ?_
          refine gg_iinc (w := nI (i + 1)) dX7_strangers_80 rfl (nI_1 i) (Nat.le_of_ble_eq_true rfl) rfl ?_
          refine gg_goto (tgt := 26) dX7_strangers_83 (by decide) ?_
          rw [e0] at h9
          exact h9
theorem sp_X7_strangers {S : gl_H} {A : Nat → Nat → Int32} {py : Nat → Int64} {s : DS} {fr mt mc : Int32} (hM : MPR S (A) (py) (zn s) (zD s) (zT s) (zG s) ((zv s).2.2.2) (fr) (mt) (mc)) (hG : AG A py s) (hW : DW s) (hV : VW s) (k9 c9 : Int32) : Sp mX7_strangers yX7_strangers [.ref 70, .int k9, .int c9] S (fun r S1 => S1 = S ∧ r = some (.int (stA s k9 c9))) := by
  refine gl_enter (j := 2) (by decide +kernel) rfl (fun h => absurd h (by decide)) (Nat.le_of_ble_eq_true rfl) rfl (fun x => ?_)
  have htc := hW.1
  have hgc := hW.2.1
  have hgn := hW.2.2.2.1
  by_cases ck9 : 0 ≤ k9 ∧ k9 ≤ 5
  · by_cases cc9 : 0 ≤ c9 ∧ c9 ≤ 15
    · obtain ⟨m, hm, em⟩ := ts_lt (v := (zv s).1) (r := (zv s).2.1) (d := (zv s).2.2.1) (room := 16 * k9 + c9) (day := nI (zD s)) (vK (zv s).2.2.2) (fun i hi => (hV.2 i hi).1)
      have hr0 : bcv (tsF (zv s).1 (zv s).2.1 (zv s).2.2.1 (16 * k9 + c9) (nI (zD s)) (vK (zv s).2.2.2)) = nI (pcN m) := by rw [em, sz_1 hm]
      rw [show stA s k9 c9 = nI (pcN m) from (if_pos ⟨ck9, cc9⟩).trans hr0]
      refine gg_iload_n dX7_strangers_0 rfl rfl ?_
      refine gg_iconst (v := 0) dX7_strangers_1 (by decide) ?_
      refine gg_iconst (v := 5) dX7_strangers_2 (by decide) ?_
      refine gg_callS (sp_X7_lies S k9 0 5) dX7_strangers_3 kw_X7_97 rfl rfl (Nat.le_of_ble_eq_true rfl) (Nat.le_of_ble_eq_true rfl) (Nat.le_of_ble_eq_true rfl) ⟨(Nat.le_of_ble_eq_true rfl), (Nat.le_of_ble_eq_true rfl)⟩ (fun r S1 hq => ?_)
      refine gg_k (k2 := (0, 0)) rfl ?_
      obtain ⟨e9, rfl⟩ := hq
      rw [e9, if_pos ck9]
      clear e9 S1
      refine gg_if_eq (tgt := 19) dX7_strangers_6 (by decide) (fun c6 => ?_) (fun c6 => ?_)
      · exact absurd c6 (by decide)
      · refine gg_iload_n dX7_strangers_9 rfl rfl ?_
        refine gg_iconst (v := 0) dX7_strangers_10 (by decide) ?_
        refine gg_bipush (v := 15) dX7_strangers_11 (by decide) ?_
        refine gg_callS (sp_X7_lies S c9 0 15) dX7_strangers_13 kw_X7_97 rfl rfl (Nat.le_of_ble_eq_true rfl) (Nat.le_of_ble_eq_true rfl) (Nat.le_of_ble_eq_true rfl) ⟨(Nat.le_of_ble_eq_true rfl), (Nat.le_of_ble_eq_true rfl)⟩ (fun r S1 hq => ?_)
        refine gg_k (k2 := (0, 0)) rfl ?_
        obtain ⟨e9, rfl⟩ := hq
        rw [e9, if_pos cc9]
        clear e9 S1
        refine gg_if_ne (tgt := 21) dX7_strangers_16 (by decide) (fun c16 => ?_) (fun c16 => ?_)
        · refine gg_iconst (v := 0) dX7_strangers_21 (by decide) ?_
          refine gg_istore_n dX7_strangers_22 rfl (Nat.le_of_ble_eq_true rfl) rfl ?_
          refine gg_iconst (v := 0) dX7_strangers_23 (by decide) ?_
          refine gg_istore dX7_strangers_24 (Nat.le_of_ble_eq_true rfl) rfl ?_
          exact st_loop hM hG hW hV x hr0 _ 0 (Nat.zero_add _)
        · exact absurd c16 (by decide)
    · rw [show stA s k9 c9 = -1 from if_neg (fun z => cc9 z.2)]
      refine gg_iload_n dX7_strangers_0 rfl rfl ?_
      refine gg_iconst (v := 0) dX7_strangers_1 (by decide) ?_
      refine gg_iconst (v := 5) dX7_strangers_2 (by decide) ?_
      refine gg_callS (sp_X7_lies S k9 0 5) dX7_strangers_3 kw_X7_97 rfl rfl (Nat.le_of_ble_eq_true rfl) (Nat.le_of_ble_eq_true rfl) (Nat.le_of_ble_eq_true rfl) ⟨(Nat.le_of_ble_eq_true rfl), (Nat.le_of_ble_eq_true rfl)⟩ (fun r S1 hq => ?_)
      refine gg_k (k2 := (0, 0)) rfl ?_
      obtain ⟨e9, rfl⟩ := hq
      rw [e9, if_pos ck9]
      clear e9 S1
      refine gg_if_eq (tgt := 19) dX7_strangers_6 (by decide) (fun c6 => ?_) (fun c6 => ?_)
      · exact absurd c6 (by decide)
      · refine gg_iload_n dX7_strangers_9 rfl rfl ?_
        refine gg_iconst (v := 0) dX7_strangers_10 (by decide) ?_
        refine gg_bipush (v := 15) dX7_strangers_11 (by decide) ?_
        refine gg_callS (sp_X7_lies S c9 0 15) dX7_strangers_13 kw_X7_97 rfl rfl (Nat.le_of_ble_eq_true rfl) (Nat.le_of_ble_eq_true rfl) (Nat.le_of_ble_eq_true rfl) ⟨(Nat.le_of_ble_eq_true rfl), (Nat.le_of_ble_eq_true rfl)⟩ (fun r S1 hq => ?_)
        refine gg_k (k2 := (0, 0)) rfl ?_
        obtain ⟨e9, rfl⟩ := hq
        rw [e9, if_neg cc9]
        clear e9 S1
        refine gg_if_ne (tgt := 21) dX7_strangers_16 (by decide) (fun c16 => ?_) (fun c16 => ?_)
        · exact absurd rfl c16
        · refine gg_iconst (v := -1) dX7_strangers_19 (by decide) ?_
          exact gg_ireturn dX7_strangers_20 rfl rfl ⟨(Nat.le_of_ble_eq_true rfl), (Nat.le_of_ble_eq_true rfl)⟩ (⟨rfl, rfl⟩)
  · rw [show stA s k9 c9 = -1 from if_neg (fun z => ck9 z.1)]
    refine gg_iload_n dX7_strangers_0 rfl rfl ?_
    refine gg_iconst (v := 0) dX7_strangers_1 (by decide) ?_
    refine gg_iconst (v := 5) dX7_strangers_2 (by decide) ?_
    refine gg_callS (sp_X7_lies S k9 0 5) dX7_strangers_3 kw_X7_97 rfl rfl (Nat.le_of_ble_eq_true rfl) (Nat.le_of_ble_eq_true rfl) (Nat.le_of_ble_eq_true rfl) ⟨(Nat.le_of_ble_eq_true rfl), (Nat.le_of_ble_eq_true rfl)⟩ (fun r S1 hq => ?_)
    refine gg_k (k2 := (0, 0)) rfl ?_
    obtain ⟨e9, rfl⟩ := hq
    rw [e9, if_neg ck9]
    clear e9 S1
    refine gg_if_eq (tgt := 19) dX7_strangers_6 (by decide) (fun c6 => ?_) (fun c6 => ?_)
    · refine gg_iconst (v := -1) dX7_strangers_19 (by decide) ?_
      exact gg_ireturn dX7_strangers_20 rfl rfl ⟨(Nat.le_of_ble_eq_true rfl), (Nat.le_of_ble_eq_true rfl)⟩ (⟨rfl, rfl⟩)
    · exact absurd rfl c6
/-! what the model works out -/
def zOp (s : DS) (g : Nat) : Bool := (opB (zf s) (zT s) g).isNone
/-- one row of best: at the gap g, of the row behind it -/
def bsT (s : DS) (g : Nat) (row : Nat → Int32) (set : Nat) : Nat → Int32
  | 0 => row set
  | t + 1 => if (!set.testBit t && zGo s t g) && decide (bsT s g row set t < 10000000 - zCs s t g + row (set ||| 2 ^ t)) then 10000000 - zCs s t g + row (set ||| 2 ^ t) else bsT s g row set t
/-- the row of best with r gaps behind it -/
def bsR (s : DS) : Nat → Nat → Int32
  | 0 => fun _ => 0
  | r + 1 => fun set => if zOp s (zG s - (r + 1)) then bsT s (zG s - (r + 1)) (bsR s r) set (zT s) else bsR s r set
def bsG (s : DS) (g : Nat) : Nat → Int32 := bsR s (zG s - g)
theorem bsG_e (s : DS) : bsG s (zG s) = fun _ => 0 := by unfold bsG; rw [Nat.sub_self]; rfl
theorem bsG_s (s : DS) {g : Nat} (hg : g < zG s) (set : Nat) : bsG s g set = if zOp s g then bsT s g (bsG s (g + 1)) set (zT s) else bsG s (g + 1) set := by
  unfold bsG
  rw [show zG s - g = (zG s - (g + 1)) + 1 by omega]
  show (if zOp s (zG s - (zG s - (g + 1) + 1)) then bsT s (zG s - (zG s - (g + 1) + 1)) (bsR s (zG s - (g + 1))) set (zT s) else bsR s (zG s - (g + 1)) set) = _
  rw [show zG s - (zG s - (g + 1) + 1) = g by omega]
def wkB (s : DS) (g gone t : Nat) : Bool := (!gone.testBit t && zGo s t g) && decide (10000000 - zCs s t g + bsG s (g + 1) (gone ||| 2 ^ t) = bsG s g gone)
def wkT (s : DS) (g gone : Nat) : Option Nat := if zOp s g then ffst (wkB s g gone) 0 (zT s) else none
abbrev wk_T : Type := (Nat → Option Nat) × Nat × Nat × Int32
def wkS (s : DS) (g : Nat) (p : wk_T) : wk_T := match wkT s g p.2.1 with
  | none => (va_up p.1 g none, p.2.1, p.2.2.1, p.2.2.2)
  | some t => (va_up p.1 g (some t), p.2.1 ||| 2 ^ t, p.2.2.1 + 1, p.2.2.2 + zCs s t g)
def wkF (s : DS) : Nat → wk_T
  | 0 => (fun _ => none, 0, 0, 0)
  | g + 1 => wkS s g (wkF s g)
def WK (s : DS) (m : Nat → Int32) (mt mc : Int32) : Prop := (∀ g, g < zG s → m g = oI ((wkF s (zG s)).1 g)) ∧ mt = nI (wkF s (zG s)).2.2.1 ∧ mc = (wkF s (zG s)).2.2.2
/-- THE MODEL'S PICTURE of the state -/
def MP (S : gl_H) (s : DS) : Prop := ∃ (A : Nat → Nat → Int32) (py : Nat → Int64) (fr mt mc : Int32), MPR S (A) (py) (zn s) (zD s) (zT s) (zG s) ((zv s).2.2.2) (fr) (mt) (mc) ∧ AG A py s ∧ (fr = 0 ∨ (fr = 1 ∧ WK s (A 23) mt mc))
theorem MP.keep {S S1 : gl_H} {s : DS} (h : MP S s) (hf : FrD S S1) : MP S1 s := by
  obtain ⟨A, py, fr, mt, mc, h1, h2⟩ := h
  exact ⟨A, py, fr, mt, mc, h1.keep (fun q a b => hf q a (Nat.lt_trans b (by decide))), h2⟩
theorem DP.keepM {S S1 : gl_H} {s : DS} (h : DP S s) (hW : DW s) (hf : Fr 70 95 S S1) : DP S1 s := by
  obtain ⟨⟨gp, hD⟩, hT, hBx, hVx, hMx⟩ := h
  exact ⟨⟨gp, hD.keep hW.1 (fun q hq => hf q (by unfold pdIn at hq; omega))⟩, hT.fr2 hf (Or.inr (by decide)), hBx.fr hf (Or.inr (by decide)), hVx.fr hf (Or.inr (by decide)), hMx.fr hf (Or.inr (by decide))⟩
