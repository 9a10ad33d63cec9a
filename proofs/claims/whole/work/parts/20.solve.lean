/-! the shift, a gap comes in, the match -/
theorem sp_X1_isGap_y (S : gl_H) {g : Nat} (hg : g < 10) : Sp mX1_isGap yX1_isGap [.int (nI g)] S (fun r S1 => S1 = S ∧ r = some (.int 1)) := by
  refine gl_enter (j := 0) (by decide +kernel) rfl (fun h => absurd h (by decide)) (Nat.le_of_ble_eq_true rfl) rfl (fun x => ?_)
  refine gg_iload_n dX1_isGap_0 rfl rfl ?_
  refine gg_if_lt (tgt := 14) dX1_isGap_1 (by decide) (fun c1 => ?_) (fun c1 => ?_)
  · exact absurd c1 (nI_pos (by omega))
  · refine gg_iload_n dX1_isGap_4 rfl rfl ?_
    refine gg_bipush (v := 10) dX1_isGap_5 (by decide) ?_
    refine gg_icmp_ge (tgt := 14) dX1_isGap_7 (by decide) (fun c7 => ?_) (fun c7 => ?_)
    · exact absurd (n_le (a := 10) c7) (by omega)
    · refine gg_iconst (v := 1) dX1_isGap_10 (by decide) ?_
      refine gg_goto (tgt := 15) dX1_isGap_11 (by decide) ?_
      exact gg_ireturn dX1_isGap_15 rfl rfl ⟨(Nat.le_of_ble_eq_true rfl), (Nat.le_of_ble_eq_true rfl)⟩ (⟨rfl, rfl⟩)
theorem sp_X1_isGap_n (S : gl_H) : Sp mX1_isGap yX1_isGap [.int (-1)] S (fun r S1 => S1 = S ∧ r = some (.int 0)) := by
  refine gl_enter (j := 0) (by decide +kernel) rfl (fun h => absurd h (by decide)) (Nat.le_of_ble_eq_true rfl) rfl (fun x => ?_)
  refine gg_iload_n dX1_isGap_0 rfl rfl ?_
  refine gg_if_lt (tgt := 14) dX1_isGap_1 (by decide) (fun c1 => ?_) (fun c1 => ?_)
  · refine gg_iconst (v := 0) dX1_isGap_14 (by decide) ?_
    exact gg_ireturn dX1_isGap_15 rfl rfl ⟨(Nat.le_of_ble_eq_true rfl), (Nat.le_of_ble_eq_true rfl)⟩ (⟨rfl, rfl⟩)
  · exact absurd (by decide) c1
abbrev sh_T : Type := (Nat → Nat) × Option Nat × Nat
def shS (n : Nat) (par : Nat → Option Nat) (s : sh_T) : sh_T := match s.2.1 with
  | none => s
  | some g => (va_up s.1 g s.2.2, (if g = n then none else par g), s.1 g)
def shF (n : Nat) (par : Nat → Option Nat) : Nat → sh_T → sh_T
  | 0, s => s
  | m + 1, s => shS n par (shF n par m s)
theorem shF_stop {n r : Nat} {par : Nat → Option Nat} {s : sh_T} (h : (shF n par r s).2.1 = none) : ∀ m, shF n par (r + m) s = shF n par r s
  | 0 => rfl
  | m + 1 => by
    show shS n par (shF n par (r + m) s) = _
    rw [shF_stop h m, shS, h]
theorem shF_lt {n : Nat} {par : Nat → Option Nat} (hpar : ∀ g h, par g = some h → h < 10) {s : sh_T} (h0 : ∀ g, s.2.1 = some g → g < 10) : ∀ (r g : Nat), (shF n par r s).2.1 = some g → g < 10
  | 0, g, h => h0 g h
  | r + 1, g, h => by
    have ih := shF_lt (n := n) hpar h0 r
    have h' : (shS n par (shF n par r s)).2.1 = some g := h
    generalize shF n par r s = q at ih h'
    obtain ⟨a, cur, c⟩ := q
    cases cur with
    | none => exact absurd h' (by simp [shS])
    | some g0 =>
      have h2 : (if g0 = n then none else par g0) = some g := h'
      by_cases e : g0 = n
      · rw [if_pos e] at h2; cases h2
      · rw [if_neg e] at h2; exact hpar _ _ h2
theorem shF_le {n : Nat} {par : Nat → Option Nat} {s : sh_T} (h0 : ∀ i, s.1 i ≤ 12) (hc : s.2.2 ≤ 12) : ∀ (r : Nat), (∀ i, (shF n par r s).1 i ≤ 12) ∧ (shF n par r s).2.2 ≤ 12
  | 0 => ⟨h0, hc⟩
  | r + 1 => by
    have ih := shF_le (n := n) (par := par) h0 hc r
    show (∀ i, (shS n par (shF n par r s)).1 i ≤ 12) ∧ (shS n par (shF n par r s)).2.2 ≤ 12
    generalize shF n par r s = q at ih
    obtain ⟨a, cur, c⟩ := q
    cases cur with
    | none => exact ih
    | some g0 =>
      refine ⟨fun i => ?_, ih.1 g0⟩
      show va_up a g0 c i ≤ 12
      unfold va_up
      by_cases e : i = g0
      · rw [if_pos e]; exact ih.2
      · rw [if_neg e]; exact ih.1 i
def tkU (tk : Int32) (t : Nat) : Int32 := if t = 12 then tk else tk ||| ((1 : Int32) <<< (nI t &&& 31))
theorem sh_loop {S0 : gl_H} {og tk : Int32} {w : Nat → Nat → Int64} {tks : Nat → Int32} {tl : Nat → Int64} {par : Nat → Option Nat} {n e t : Nat} {s0 : sh_T} (hn : n < 10) (hpar : ∀ g h, par g = some h → h < 10) (h0 : ∀ g, s0.2.1 = some g → g < 10) (x : gl_X) : ∀ (m st : Nat), st + m = 10 → ∀ S, PM S og tk w tks (fun i => nI ((shF n par st s0).1 i)) tl (fun i => oI (par i)) → Fr 12 30 S0 S → GG mX1_shiftAlong x (gl_Z mX1_shiftAlong x (fun r S1 => r = none ∧ PM S1 og tk w tks (fun i => nI ((shF n par 10 s0).1 i)) tl (fun i => oI (par i)) ∧ Fr 12 30 S0 S1)) 27 [some (.ref 12), some (.int (nI n)), some (.int (nI e)), some (.int (nI t)), some (.int (oI (shF n par st s0).2.1)), some (.int (nI (shF n par st s0).2.2)), some (.int (nI st)), none] [] S (0, 0) := by
  intro m
  induction m with
  | zero =>
    intro st hm S hp hf
    have e : st = 10 := by omega
    subst e
    refine gg_iload dX1_shiftAlong_27 rfl ?_
    refine gg_bipush (v := 10) dX1_shiftAlong_29 (by decide) ?_
    refine gg_icmp_ge (tgt := 89) dX1_shiftAlong_31 (by decide) (fun c31 => ?_) (fun c31 => ?_)
    · exact gg_return dX1_shiftAlong_89 rfl ⟨(Nat.le_of_ble_eq_true rfl), (Nat.le_of_ble_eq_true rfl)⟩ (⟨rfl, hp, hf⟩)
    · exact absurd (nI_le (Nat.le_refl 10) (by omega)) c31
  | succ m ih =>
    intro st hm S hp hf
    have hlt := shF_lt (n := n) hpar h0 st
    have hstop := shF_stop (n := n) (r := st) (par := par) (s := s0)
    generalize hs : shF n par st s0 = s at hp hlt hstop ⊢
    obtain ⟨a, cur, co⟩ := s
    cases cur with
    | none =>
      have e4 := hstop rfl (m + 1)
      rw [hm] at e4
      refine gg_iload dX1_shiftAlong_27 rfl ?_
      refine gg_bipush (v := 10) dX1_shiftAlong_29 (by decide) ?_
      refine gg_icmp_ge (tgt := 89) dX1_shiftAlong_31 (by decide) (fun c31 => ?_) (fun c31 => ?_)
      · exact absurd (n_le (a := 10) c31) (by omega)
      · refine gg_iload dX1_shiftAlong_34 rfl ?_
        refine gg_callS (sp_X1_isGap_n S) dX1_shiftAlong_36 kw_X1_48 rfl rfl (Nat.le_of_ble_eq_true rfl) (Nat.le_of_ble_eq_true rfl) (Nat.le_of_ble_eq_true rfl) ⟨(Nat.le_of_ble_eq_true rfl), (Nat.le_of_ble_eq_true rfl)⟩ (fun r S1 hq => ?_)
        refine gg_k (k2 := (0, 0)) rfl ?_
        obtain ⟨e9, rfl⟩ := hq
        rw [e9]
        clear e9 S1
        refine gg_if_eq (tgt := 89) dX1_shiftAlong_39 (by decide) (fun c39 => ?_) (fun c39 => ?_)
        · exact gg_return dX1_shiftAlong_89 rfl ⟨(Nat.le_of_ble_eq_true rfl), (Nat.le_of_ble_eq_true rfl)⟩ (⟨rfl, by rw [e4]; exact hp, hf⟩)
        · exact absurd rfl c39
    | some g =>
      have hg : g < 10 := hlt g rfl
      refine gg_iload dX1_shiftAlong_27 rfl ?_
      refine gg_bipush (v := 10) dX1_shiftAlong_29 (by decide) ?_
      refine gg_icmp_ge (tgt := 89) dX1_shiftAlong_31 (by decide) (fun c31 => ?_) (fun c31 => ?_)
      · exact absurd (n_le (a := 10) c31) (by omega)
      · refine gg_iload dX1_shiftAlong_34 rfl ?_
        refine gg_callS (sp_X1_isGap_y S hg) dX1_shiftAlong_36 kw_X1_48 rfl rfl (Nat.le_of_ble_eq_true rfl) (Nat.le_of_ble_eq_true rfl) (Nat.le_of_ble_eq_true rfl) ⟨(Nat.le_of_ble_eq_true rfl), (Nat.le_of_ble_eq_true rfl)⟩ (fun r S1 hq => ?_)
        refine gg_k (k2 := (0, 0)) rfl ?_
        obtain ⟨e9, rfl⟩ := hq
        rw [e9]
        clear e9 S1
        refine gg_if_eq (tgt := 89) dX1_shiftAlong_39 (by decide) (fun c39 => ?_) (fun c39 => ?_)
        · exact absurd c39 (by decide)
        · refine gg_aload_n dX1_shiftAlong_42 rfl rfl ?_
          refine gf_X1_20 rfl dX1_shiftAlong_43 hp.1 rfl ?_
          refine gg_iload dX1_shiftAlong_46 rfl ?_
          refine gg_ald_i (g) dX1_shiftAlong_48 hp.2.2.2.2.1 rfl hg (by decide) ?_
          refine gg_istore dX1_shiftAlong_49 (Nat.le_of_ble_eq_true rfl) rfl ?_
          refine gg_aload_n dX1_shiftAlong_51 rfl rfl ?_
          refine gf_X1_20 rfl dX1_shiftAlong_52 hp.1 rfl ?_
          refine gg_iload dX1_shiftAlong_55 rfl ?_
          refine gg_iload dX1_shiftAlong_57 rfl ?_
          refine gg_ast_i (g) dX1_shiftAlong_59 hp.2.2.2.2.1 rfl hg (by decide) ?_
          refine PMs_to hp hf (fun S hp hf => ?_)
          rw [show upd (fun i => nI (a i)) g (nI co) = fun i => nI (va_up a g co i) from upd_F nI a g co] at hp
          refine gg_iload dX1_shiftAlong_60 rfl ?_
          refine gg_istore dX1_shiftAlong_62 (Nat.le_of_ble_eq_true rfl) rfl ?_
          refine gg_iload dX1_shiftAlong_64 rfl ?_
          refine gg_iload_n dX1_shiftAlong_66 rfl rfl ?_
          refine gg_icmp_ne (tgt := 74) dX1_shiftAlong_67 (by decide) (fun c67 => ?_) (fun c67 => ?_)
          · have e : shS n par (a, some g, co) = (va_up a g co, par g, a g) := by show (_, (if g = n then none else par g), _) = _; rw [if_neg (n_ne c67)]
            refine gg_aload_n dX1_shiftAlong_74 rfl rfl ?_
            refine gf_X1_27 rfl dX1_shiftAlong_75 hp.1 rfl ?_
            refine gg_iload dX1_shiftAlong_78 rfl ?_
            refine gg_ald_i (g) dX1_shiftAlong_80 hp.2.2.2.2.2.2 rfl hg (by decide) ?_
            refine gg_istore dX1_shiftAlong_81 (Nat.le_of_ble_eq_true rfl) rfl ?_
            refine gg_iinc (w := nI (st + 1)) dX1_shiftAlong_83 rfl (nI_1 st) (Nat.le_of_ble_eq_true rfl) rfl ?_
            refine gg_goto (tgt := 27) dX1_shiftAlong_86 (by decide) ?_
            have e3 : shF n par (st + 1) s0 = _ := (congrArg (shS n par) hs).trans e
            refine gg_fg [true, true, true, true, true, true, true, false] ?_
            have h9 := ih (st + 1) (by omega) S
            rw [e3] at h9
            exact h9 hp hf
          · have e : shS n par (a, some g, co) = (va_up a g co, none, a g) := by show (_, (if g = n then none else par g), _) = _; rw [if_pos (n_eq c67)]
            refine gg_iconst (v := -1) dX1_shiftAlong_70 (by decide) ?_
            refine gg_goto (tgt := 81) dX1_shiftAlong_71 (by decide) ?_
            refine gg_istore dX1_shiftAlong_81 (Nat.le_of_ble_eq_true rfl) rfl ?_
            refine gg_iinc (w := nI (st + 1)) dX1_shiftAlong_83 rfl (nI_1 st) (Nat.le_of_ble_eq_true rfl) rfl ?_
            refine gg_goto (tgt := 27) dX1_shiftAlong_86 (by decide) ?_
            have e3 : shF n par (st + 1) s0 = _ := (congrArg (shS n par) hs).trans e
            refine gg_fg [true, true, true, true, true, true, true, false] ?_
            have h9 := ih (st + 1) (by omega) S
            rw [e3] at h9
            exact h9 hp hf
theorem sp_X1_shiftAlong {S : gl_H} {og tk : Int32} {w : Nat → Nat → Int64} {tks : Nat → Int32} {a : Nat → Nat} {tl : Nat → Int64} {par : Nat → Option Nat} (hp : PM S og tk w tks (fun i => nI (a i)) tl (fun i => oI (par i))) {n e t : Nat} (hn : n < 10) (he : e < 10) (ht : t ≤ 12) (hpar : ∀ g h, par g = some h → h < 10) : Sp mX1_shiftAlong yX1_shiftAlong [.ref 12, .int (nI n), .int (nI e), .int (nI t)] S (fun r S1 => r = none ∧ PM S1 og (tkU tk t) w tks (fun i => nI ((shF n par 10 (a, some e, t)).1 i)) tl (fun i => oI (par i)) ∧ Fr 12 30 S S1) := by
  refine gl_enter (j := 4) (by decide +kernel) rfl (fun h => absurd h (by decide)) (Nat.le_of_ble_eq_true rfl) rfl (fun x => ?_)
  have hf : Fr 12 30 S S := Fr.rf
  refine gg_iload_n dX1_shiftAlong_0 rfl rfl ?_
  refine gg_bipush (v := 12) dX1_shiftAlong_1 (by decide) ?_
  refine gg_icmp_eq (tgt := 18) dX1_shiftAlong_3 (by decide) (fun c3 => ?_) (fun c3 => ?_)
  · have e0 : tkU tk t = tk := if_pos (n_eq (b := 12) c3)
    rw [e0]
    refine gg_iload_n dX1_shiftAlong_18 rfl rfl ?_
    refine gg_istore dX1_shiftAlong_19 (Nat.le_of_ble_eq_true rfl) rfl ?_
    refine gg_iload_n dX1_shiftAlong_21 rfl rfl ?_
    refine gg_istore dX1_shiftAlong_22 (Nat.le_of_ble_eq_true rfl) rfl ?_
    refine gg_iconst (v := 0) dX1_shiftAlong_24 (by decide) ?_
    refine gg_istore dX1_shiftAlong_25 (Nat.le_of_ble_eq_true rfl) rfl ?_
    exact sh_loop (s0 := (a, some e, t)) hn hpar (fun g h => by cases h; exact he) x 10 0 rfl S hp hf
  · have e0 : tkU tk t = tk ||| ((1 : Int32) <<< (nI t &&& 31)) := if_neg (n_ne (b := 12) c3)
    rw [e0]
    refine gg_aload_n dX1_shiftAlong_6 rfl rfl ?_
    refine gg_dup dX1_shiftAlong_7 rfl ?_
    refine gf_X1_45 rfl dX1_shiftAlong_8 hp.1 rfl ?_
    refine gg_iconst (v := 1) dX1_shiftAlong_11 (by decide) ?_
    refine gg_iload_n dX1_shiftAlong_12 rfl rfl ?_
    refine gg_ishl dX1_shiftAlong_13 ?_
    refine gg_ior dX1_shiftAlong_14 ?_
    refine pf_X1_45 rfl dX1_shiftAlong_15 hp.1 (Nat.le_of_ble_eq_true rfl) ?_
    refine PMs_tk hp hf (fun S hp hf => ?_)
    refine gg_iload_n dX1_shiftAlong_18 rfl rfl ?_
    refine gg_istore dX1_shiftAlong_19 (Nat.le_of_ble_eq_true rfl) rfl ?_
    refine gg_iload_n dX1_shiftAlong_21 rfl rfl ?_
    refine gg_istore dX1_shiftAlong_22 (Nat.le_of_ble_eq_true rfl) rfl ?_
    refine gg_iconst (v := 0) dX1_shiftAlong_24 (by decide) ?_
    refine gg_istore dX1_shiftAlong_25 (Nat.le_of_ble_eq_true rfl) rfl ?_
    exact sh_loop (s0 := (a, some e, t)) hn hpar (fun g h => by cases h; exact he) x 10 0 rfl S hp hf
theorem lcF_par {w : Nat → Nat → Int64} {a : Nat → Nat} {g b : Nat} (hg : g ≤ b) {s : lc_T} (h0 : ∀ i h, s.2.1 i = some h → h ≤ b) : ∀ (n i h : Nat), (lcF w a g n s).2.1 i = some h → h ≤ b
  | 0, i, h, e => h0 i h e
  | n + 1, i, h, e => by
    have ih := lcF_par (w := w) (a := a) hg h0 n
    have e' : (lcS w a g n (lcF w a g n s)).2.1 i = some h := e
    generalize lcF w a g n s = q at ih e'
    unfold lcS at e'
    split at e'
    · exact ih i h e'
    · split at e'
      · have e2 : va_up q.2.1 n (some g) i = some h := e'
        unfold va_up at e2
        by_cases z : i = n
        · rw [if_pos z] at e2; cases e2; exact hg
        · rw [if_neg z] at e2; exact ih i h e2
      · exact ih i h e'
theorem frF_par {w : Nat → Nat → Int64} {a : Nat → Nat} {n : Nat} {s : lc_T} (h0 : ∀ i h, s.2.1 i = some h → h ≤ n) : ∀ (g i h : Nat), g ≤ n + 1 → (frF w a n g s).2.1 i = some h → h ≤ n
  | 0, i, h, _, e => h0 i h e
  | g + 1, i, h, hg, e => by
    have ih := frF_par (w := w) (a := a) (n := n) h0 g
    have e' : (frS w a n g (frF w a n g s)).2.1 i = some h := e
    generalize frF w a n g s = q at ih e'
    unfold frS at e'
    split at e'
    · exact ih i h (by omega) e'
    · exact lcF_par (s := (q.1, q.2.1, false)) (show g ≤ n by omega) (fun i h e => ih i h (by omega) e) n i h e'
theorem rdF_par {w : Nat → Nat → Int64} {a : Nat → Nat} {n : Nat} {s : lc_T} (h0 : ∀ i h, s.2.1 i = some h → h ≤ n) : ∀ (r i h : Nat), (rdF w a n r s).2.1 i = some h → h ≤ n
  | 0, i, h, e => h0 i h e
  | r + 1, i, h, e => by
    have ih := rdF_par (w := w) (a := a) (n := n) h0 r
    have e' : (rdS w a n (rdF w a n r s)).2.1 i = some h := e
    generalize rdF w a n r s = q at ih e'
    unfold rdS at e'
    split at e'
    · exact frF_par (s := (q.1, q.2.1, false)) ih (n + 1) i h (Nat.le_refl _) e'
    · exact ih i h e'
abbrev bi_T : Type := Nat × Nat × Int64
def biS (w : Nat → Nat → Int64) (tk : Int32) (tl : Nat → Int64) (g : Nat) (s : bi_T) : bi_T := if tl g = mFAR then s else if tl g + w g (ceF w tk g 12) < s.2.2 then (g, ceF w tk g 12, tl g + w g (ceF w tk g 12)) else s
def biF (w : Nat → Nat → Int64) (tk : Int32) (tl : Nat → Int64) : Nat → bi_T → bi_T
  | 0, s => s
  | g + 1, s => biS w tk tl g (biF w tk tl g s)
theorem biF_le {w : Nat → Nat → Int64} {tk : Int32} {tl : Nat → Int64} {n : Nat} {s : bi_T} (h0 : s.1 ≤ n ∧ s.2.1 ≤ 12) : ∀ g, g ≤ n + 1 → (biF w tk tl g s).1 ≤ n ∧ (biF w tk tl g s).2.1 ≤ 12
  | 0, _ => h0
  | g + 1, hg => by
    have ih := biF_le (w := w) (tk := tk) (tl := tl) h0 g (by omega)
    show (biS w tk tl g (biF w tk tl g s)).1 ≤ n ∧ (biS w tk tl g (biF w tk tl g s)).2.1 ≤ 12
    generalize biF w tk tl g s = q at ih
    unfold biS
    split
    · exact ih
    · split
      · exact ⟨show g ≤ n by omega, ceF_le w tk g 12 (by omega)⟩
      · exact ih
theorem bi_loop {og tk : Int32} {w : Nat → Nat → Int64} {tks to : Nat → Int32} {tl : Nat → Int64} {lt : Nat → Int32} {n : Nat} {s0 : bi_T} {Z : State → Prop} (hn : n < 10) {S : gl_H} (hp : PM S og tk w tks to tl lt) (x : gl_X) (K : GG mX1_bringIn x Z 108 [some (.ref 12), some (.int (nI n)), some (.int (nI (biF w tk tl (n + 1) s0).1)), some (.int (nI (biF w tk tl (n + 1) s0).2.1)), none, none, none, none] [] S (0, 0)) : ∀ (m g : Nat), g + m = n + 1 → GG mX1_bringIn x Z 18 [some (.ref 12), some (.int (nI n)), some (.int (nI (biF w tk tl g s0).1)), some (.int (nI (biF w tk tl g s0).2.1)), some (.long (biF w tk tl g s0).2.2), none, some (.int (nI g)), none] [] S (0, 0) := by
  intro m
  induction m with
  | zero =>
    intro g hm
    have e : g = n + 1 := by omega
    subst e
    refine gg_iload dX1_bringIn_18 rfl ?_
    refine gg_iload_n dX1_bringIn_20 rfl rfl ?_
    refine gg_icmp_gt (tgt := 108) dX1_bringIn_21 (by decide) (fun c21 => ?_) (fun c21 => ?_)
    · refine gg_fg [true, true, true, true, false, false, false, false] ?_
      exact K
    · exact absurd (nI_lt (Nat.lt_succ_self n) (by omega)) c21
  | succ m ih =>
    intro g hm
    have hg : g < 10 := by omega
    have hce := ceF_le w tk g 12 (by omega)
    generalize hs : biF w tk tl g s0 = s
    refine gg_iload dX1_bringIn_18 rfl ?_
    refine gg_iload_n dX1_bringIn_20 rfl rfl ?_
    refine gg_icmp_gt (tgt := 108) dX1_bringIn_21 (by decide) (fun c21 => ?_) (fun c21 => ?_)
    · exact absurd (n_lt c21) (by omega)
    · refine gg_iload dX1_bringIn_24 rfl ?_
      refine gg_bipush (v := 10) dX1_bringIn_26 (by decide) ?_
      refine gg_icmp_ge (tgt := 108) dX1_bringIn_28 (by decide) (fun c28 => ?_) (fun c28 => ?_)
      · exact absurd (n_le (a := 10) c28) (by omega)
      · refine gg_aload_n dX1_bringIn_31 rfl rfl ?_
        refine gf_X1_23 rfl dX1_bringIn_32 hp.1 rfl ?_
        refine gg_iload dX1_bringIn_35 rfl ?_
        refine gg_ald_l (g) dX1_bringIn_37 hp.2.2.2.2.2.1 rfl hg (by decide) ?_
        refine gg_ldc2 (v := mFAR) dX1_bringIn_38 kq_81 ?_
        refine gg_lcmp dX1_bringIn_41 ?_
        refine gg_if_ne (tgt := 48) dX1_bringIn_42 (by decide) (fun c42 => ?_) (fun c42 => ?_)
        · have c42 := lg_z _ _ c42
          refine gg_aload_n dX1_bringIn_48 rfl rfl ?_
          refine gg_iload dX1_bringIn_49 rfl ?_
          refine gg_callV (sp_X1_cheapestEnd hg hp) dX1_bringIn_51 kw_X1_83 rfl hp.1 rfl rfl (Nat.le_of_ble_eq_true rfl) (Nat.le_of_ble_eq_true rfl) (Nat.le_of_ble_eq_true rfl) ⟨(Nat.le_of_ble_eq_true rfl), (Nat.le_of_ble_eq_true rfl)⟩ (fun r S1 hq => ?_)
          refine gg_k (k2 := (0, 0)) rfl ?_
          obtain ⟨e9, rfl⟩ := hq
          rw [e9]
          clear e9 S1
          refine gg_istore dX1_bringIn_54 (Nat.le_of_ble_eq_true rfl) rfl ?_
          refine gg_aload_n dX1_bringIn_56 rfl rfl ?_
          refine gf_X1_23 rfl dX1_bringIn_57 hp.1 rfl ?_
          refine gg_iload dX1_bringIn_60 rfl ?_
          refine gg_ald_l (g) dX1_bringIn_62 hp.2.2.2.2.2.1 rfl hg (by decide) ?_
          refine gg_aload_n dX1_bringIn_63 rfl rfl ?_
          refine gg_iload dX1_bringIn_64 rfl ?_
          refine gg_iload dX1_bringIn_66 rfl ?_
          refine gg_callV (sp_X1_weightOf hp hg (show ceF w tk g 12 < 13 by omega)) dX1_bringIn_68 kw_X1_66 rfl hp.1 rfl rfl (Nat.le_of_ble_eq_true rfl) (Nat.le_of_ble_eq_true rfl) (Nat.le_of_ble_eq_true rfl) ⟨(Nat.le_of_ble_eq_true rfl), (Nat.le_of_ble_eq_true rfl)⟩ (fun r S1 hq => ?_)
          refine gg_k (k2 := (0, 0)) rfl ?_
          obtain ⟨e9, rfl⟩ := hq
          rw [e9]
          clear e9 S1
          refine gg_ladd dX1_bringIn_71 ?_
          refine gg_lload dX1_bringIn_72 rfl ?_
          refine gg_lcmp dX1_bringIn_74 ?_
          refine gg_if_ge (tgt := 102) dX1_bringIn_75 (by decide) (fun c75 => ?_) (fun c75 => ?_)
          · have e : biS w tk tl g s = s := (if_neg c42).trans (if_neg (Int64.not_lt.mpr ((lg_cmp_ge _ _).mp c75)))
            refine gg_iinc (w := nI (g + 1)) dX1_bringIn_102 rfl (nI_1 g) (Nat.le_of_ble_eq_true rfl) rfl ?_
            refine gg_goto (tgt := 18) dX1_bringIn_105 (by decide) ?_
            have e3 : biF w tk tl (g + 1) s0 = _ := (congrArg (biS w tk tl g) hs).trans e
            refine gg_fg [true, true, true, true, true, false, true, false] ?_
            have h9 := ih (g + 1) (by omega)
            rw [e3] at h9
            exact h9
          · have e : biS w tk tl g s = (g, ceF w tk g 12, tl g + w g (ceF w tk g 12)) := (if_neg c42).trans (if_pos (Int64.not_le.mp (fun q => c75 ((lg_cmp_ge _ _).mpr q))))
            refine gg_aload_n dX1_bringIn_78 rfl rfl ?_
            refine gf_X1_23 rfl dX1_bringIn_79 hp.1 rfl ?_
            refine gg_iload dX1_bringIn_82 rfl ?_
            refine gg_ald_l (g) dX1_bringIn_84 hp.2.2.2.2.2.1 rfl hg (by decide) ?_
            refine gg_aload_n dX1_bringIn_85 rfl rfl ?_
            refine gg_iload dX1_bringIn_86 rfl ?_
            refine gg_iload dX1_bringIn_88 rfl ?_
            refine gg_callV (sp_X1_weightOf hp hg (show ceF w tk g 12 < 13 by omega)) dX1_bringIn_90 kw_X1_66 rfl hp.1 rfl rfl (Nat.le_of_ble_eq_true rfl) (Nat.le_of_ble_eq_true rfl) (Nat.le_of_ble_eq_true rfl) ⟨(Nat.le_of_ble_eq_true rfl), (Nat.le_of_ble_eq_true rfl)⟩ (fun r S1 hq => ?_)
            refine gg_k (k2 := (0, 0)) rfl ?_
            obtain ⟨e9, rfl⟩ := hq
            rw [e9]
            clear e9 S1
            refine gg_ladd dX1_bringIn_93 ?_
            refine gg_lstore dX1_bringIn_94 (Nat.le_of_ble_eq_true rfl) rfl ?_
            refine gg_iload dX1_bringIn_96 rfl ?_
            refine gg_istore_n dX1_bringIn_98 rfl (Nat.le_of_ble_eq_true rfl) rfl ?_
            refine gg_iload dX1_bringIn_99 rfl ?_
            refine gg_istore_n dX1_bringIn_101 rfl (Nat.le_of_ble_eq_true rfl) rfl ?_
            refine gg_iinc (w := nI (g + 1)) dX1_bringIn_102 rfl (nI_1 g) (Nat.le_of_ble_eq_true rfl) rfl ?_
            refine gg_goto (tgt := 18) dX1_bringIn_105 (by decide) ?_
            have e3 : biF w tk tl (g + 1) s0 = _ := (congrArg (biS w tk tl g) hs).trans e
            refine gg_fg [true, true, true, true, true, false, true, false] ?_
            have h9 := ih (g + 1) (by omega)
            rw [e3] at h9
            exact h9
        · have e : biS w tk tl g s = s := if_pos ((lg_cmp_eq _ _).mp c42)
          refine gg_goto (tgt := 102) dX1_bringIn_45 (by decide) ?_
          refine gg_iinc (w := nI (g + 1)) dX1_bringIn_102 rfl (nI_1 g) (Nat.le_of_ble_eq_true rfl) rfl ?_
          refine gg_goto (tgt := 18) dX1_bringIn_105 (by decide) ?_
          have e3 : biF w tk tl (g + 1) s0 = _ := (congrArg (biS w tk tl g) hs).trans e
          refine gg_fg [true, true, true, true, true, false, true, false] ?_
          have h9 := ih (g + 1) (by omega)
          rw [e3] at h9
          exact h9
abbrev sv_T : Type := (Nat → Nat) × Int32 × (Nat → Int64) × (Nat → Option Nat)
def biR (w : Nat → Nat → Int64) (n : Nat) (s : sv_T) : sv_T := let f := rdF w s.1 n 10 (s0F s.2.2.1 s.2.2.2 n); let b := biF w s.2.1 f.1 (n + 1) (n, 12, mFAR); ((shF n f.2.1 10 (s.1, some b.1, b.2.1)).1, tkU s.2.1 b.2.1, f.1, f.2.1)
theorem s0F_par {tl : Nat → Int64} {par : Nat → Option Nat} {n b : Nat} (hb : ∀ i h, par i = some h → h ≤ b) : ∀ i h, (s0F tl par n).2.1 i = some h → h ≤ b := fun i h e => by
  have e' : fillN par 10 none i = some h := e
  unfold fillN at e'
  by_cases z : i < 10
  · rw [if_pos z] at e'; cases e'
  · rw [if_neg z] at e'; exact hb i h e'
def svOk (s : sv_T) : Prop := (∀ i, s.1 i ≤ 12) ∧ ∀ i h, s.2.2.2 i = some h → i < 10 ∧ h < 10
theorem rd_out {w : Nat → Nat → Int64} {a : Nat → Nat} {n : Nat} (hn : n < 10) {tl : Nat → Int64} {par : Nat → Option Nat} (h0 : ∀ i h, par i = some h → i < 10 ∧ h < 10) : ∀ i h, (rdF w a n 10 (s0F tl par n)).2.1 i = some h → h ≤ n := rdF_par (s := s0F tl par n) (fun i h e => by
  have e' : fillN par 10 none i = some h := e
  unfold fillN at e'
  by_cases z : i < 10
  · rw [if_pos z] at e'; cases e'
  · rw [if_neg z] at e'; exact absurd (h0 i h e').1 z) 10
theorem sp_X1_bringIn {S : gl_H} {og : Int32} {w : Nat → Nat → Int64} {tks : Nat → Int32} {s : sv_T} (hok : svOk s) (hp : PM S og s.2.1 w tks (fun i => nI (s.1 i)) s.2.2.1 (fun i => oI (s.2.2.2 i))) {n : Nat} (hn : n < 10) : Sp mX1_bringIn yX1_bringIn [.ref 12, .int (nI n)] S (fun r S1 => r = none ∧ PM S1 og (biR w n s).2.1 w tks (fun i => nI ((biR w n s).1 i)) (biR w n s).2.2.1 (fun i => oI ((biR w n s).2.2.2 i)) ∧ Fr 12 30 S S1) := by
  refine gl_enter (j := 6) (by decide +kernel) rfl (fun h => absurd h (by decide)) (Nat.le_of_ble_eq_true rfl) rfl (fun x => ?_)
  have hf : Fr 12 30 S S := Fr.rf
  refine gg_aload_n dX1_bringIn_0 rfl rfl ?_
  refine gg_iload_n dX1_bringIn_1 rfl rfl ?_
  refine gg_callV (sp_X1_findChains hp hn (fun h _ => hok.1 h)) dX1_bringIn_2 kw_X1_78 rfl hp.1 rfl rfl (Nat.le_of_ble_eq_true rfl) (Nat.le_of_ble_eq_true rfl) (Nat.le_of_ble_eq_true rfl) ⟨(Nat.le_of_ble_eq_true rfl), (Nat.le_of_ble_eq_true rfl)⟩ (fun r S1 hq => ?_)
  refine gg_k (k2 := (0, 0)) rfl ?_
  obtain ⟨rfl, hp, hf1⟩ := hq
  have hf := hf.tr hf1
  clear hf1
  have hrd := rd_out (w := w) (a := s.1) (tl := s.2.2.1) hn hok.2
  generalize hff : rdF w s.1 n 10 (s0F s.2.2.1 s.2.2.2 n) = f at hp hrd
  have hbf := biF_le (w := w) (tk := s.2.1) (tl := f.1) (n := n) (s := (n, 12, mFAR)) ⟨Nat.le_refl n, Nat.le_refl 12⟩ (n + 1) (Nat.le_refl _)
  refine gg_iload_n dX1_bringIn_5 rfl rfl ?_
  refine gg_istore_n dX1_bringIn_6 rfl (Nat.le_of_ble_eq_true rfl) rfl ?_
  refine gg_bipush (v := 12) dX1_bringIn_7 (by decide) ?_
  refine gg_istore_n dX1_bringIn_9 rfl (Nat.le_of_ble_eq_true rfl) rfl ?_
  refine gg_ldc2 (v := mFAR) dX1_bringIn_10 kq_81 ?_
  refine gg_lstore dX1_bringIn_13 (Nat.le_of_ble_eq_true rfl) rfl ?_
  refine gg_iconst (v := 0) dX1_bringIn_15 (by decide) ?_
  refine gg_istore dX1_bringIn_16 (Nat.le_of_ble_eq_true rfl) rfl ?_
  refine bi_loop (s0 := (n, 12, mFAR)) hn hp x ?_ (n + 1) 0 (by omega)
  generalize hbb : biF w s.2.1 f.1 (n + 1) (n, 12, mFAR) = b at hbf ⊢
  refine gg_aload_n dX1_bringIn_108 rfl rfl ?_
  refine gg_iload_n dX1_bringIn_109 rfl rfl ?_
  refine gg_iload_n dX1_bringIn_110 rfl rfl ?_
  refine gg_iload_n dX1_bringIn_111 rfl rfl ?_
  refine gg_callV (sp_X1_shiftAlong hp hn (show b.1 < 10 by omega) hbf.2 (fun g h e => by have := hrd g h e; omega)) dX1_bringIn_112 kw_X1_86 rfl hp.1 rfl rfl (Nat.le_of_ble_eq_true rfl) (Nat.le_of_ble_eq_true rfl) (Nat.le_of_ble_eq_true rfl) ⟨(Nat.le_of_ble_eq_true rfl), (Nat.le_of_ble_eq_true rfl)⟩ (fun r S2 hq => ?_)
  obtain ⟨rfl, hp2, hf2⟩ := hq
  have e : biR w n s = ((shF n f.2.1 10 (s.1, some b.1, b.2.1)).1, tkU s.2.1 b.2.1, f.1, f.2.1) := by unfold biR; rw [hff]; show ((shF n f.2.1 10 (s.1, some (biF w s.2.1 f.1 (n + 1) (n, 12, mFAR)).1, (biF w s.2.1 f.1 (n + 1) (n, 12, mFAR)).2.1)).1, _, _, _) = _; rw [hbb]
  exact gg_return dX1_bringIn_115 rfl ⟨(Nat.le_of_ble_eq_true rfl), (Nat.le_of_ble_eq_true rfl)⟩ (by rw [e]; exact ⟨rfl, hp2, hf.tr hf2⟩)
theorem lcF_dom {w : Nat → Nat → Int64} {a : Nat → Nat} {g b : Nat} {s : lc_T} (h0 : ∀ i h, s.2.1 i = some h → i < b) : ∀ (n : Nat), n ≤ b → ∀ i h, (lcF w a g n s).2.1 i = some h → i < b
  | 0, _, i, h, e => h0 i h e
  | n + 1, hn, i, h, e => by
    have ih := lcF_dom (w := w) (a := a) (g := g) h0 n (by omega)
    have e' : (lcS w a g n (lcF w a g n s)).2.1 i = some h := e
    generalize lcF w a g n s = q at ih e'
    unfold lcS at e'
    split at e'
    · exact ih i h e'
    · split at e'
      · have e2 : va_up q.2.1 n (some g) i = some h := e'
        unfold va_up at e2
        by_cases z : i = n
        · omega
        · rw [if_neg z] at e2; exact ih i h e2
      · exact ih i h e'
theorem frF_dom {w : Nat → Nat → Int64} {a : Nat → Nat} {n b : Nat} (hb : n ≤ b) {s : lc_T} (h0 : ∀ i h, s.2.1 i = some h → i < b) : ∀ (g : Nat), ∀ i h, (frF w a n g s).2.1 i = some h → i < b
  | 0, i, h, e => h0 i h e
  | g + 1, i, h, e => by
    have ih := frF_dom (w := w) (a := a) (n := n) hb h0 g
    have e' : (frS w a n g (frF w a n g s)).2.1 i = some h := e
    generalize frF w a n g s = q at ih e'
    unfold frS at e'
    split at e'
    · exact ih i h e'
    · exact lcF_dom (s := (q.1, q.2.1, false)) ih n hb i h e'
theorem rdF_dom {w : Nat → Nat → Int64} {a : Nat → Nat} {n b : Nat} (hb : n ≤ b) {s : lc_T} (h0 : ∀ i h, s.2.1 i = some h → i < b) : ∀ (r : Nat), ∀ i h, (rdF w a n r s).2.1 i = some h → i < b
  | 0, i, h, e => h0 i h e
  | r + 1, i, h, e => by
    have ih := rdF_dom (w := w) (a := a) (n := n) hb h0 r
    have e' : (rdS w a n (rdF w a n r s)).2.1 i = some h := e
    generalize rdF w a n r s = q at ih e'
    unfold rdS at e'
    split at e'
    · exact frF_dom hb (s := (q.1, q.2.1, false)) ih (n + 1) i h e'
    · exact ih i h e'
theorem biR_ok {w : Nat → Nat → Int64} {n : Nat} (hn : n < 10) {s : sv_T} (h : svOk s) : svOk (biR w n s) := by
  have h1 := rd_out (w := w) (a := s.1) (tl := s.2.2.1) hn h.2
  have h2 : ∀ i h9, (s0F s.2.2.1 s.2.2.2 n).2.1 i = some h9 → i < 10 := fun i h9 e => by
    have e' : fillN s.2.2.2 10 none i = some h9 := e
    unfold fillN at e'
    by_cases z : i < 10
    · exact z
    · rw [if_neg z] at e'; exact (h.2 i h9 e').1
  have h3 := rdF_dom (w := w) (a := s.1) (n := n) (b := 10) (by omega) h2 10
  unfold biR
  generalize rdF w s.1 n 10 (s0F s.2.2.1 s.2.2.2 n) = f at h1 h3
  have h4 := biF_le (w := w) (tk := s.2.1) (tl := f.1) (n := n) (s := (n, 12, mFAR)) ⟨Nat.le_refl n, Nat.le_refl 12⟩ (n + 1) (Nat.le_refl _)
  refine ⟨fun i => (shF_le (s := (s.1, some _, _)) h.1 h4.2 10).1 i, fun i h9 e => ⟨h3 i h9 e, ?_⟩⟩
  have := h1 i h9 e
  omega
def slS (w : Nat → Nat → Int64) (og : Int32) (g : Nat) (s : sv_T) : sv_T := if hb_ og (nI g) then biR w g s else s
def slF (w : Nat → Nat → Int64) (og : Int32) : Nat → sv_T → sv_T
  | 0, s => s
  | g + 1, s => slS w og g (slF w og g s)
theorem slF_ok {w : Nat → Nat → Int64} {og : Int32} {s : sv_T} (h : svOk s) : ∀ g, g ≤ 10 → svOk (slF w og g s)
  | 0, _ => h
  | g + 1, hg => by
    have ih := slF_ok (w := w) (og := og) h g (by omega)
    show svOk (slS w og g (slF w og g s))
    unfold slS
    split
    · exact biR_ok (by omega) ih
    · exact ih
theorem sl_loop {S0 : gl_H} {og : Int32} {w : Nat → Nat → Int64} {tks : Nat → Int32} {s0 : sv_T} (hok : svOk s0) (x : gl_X) : ∀ (m g : Nat), g + m = 10 → ∀ S, PM S og (slF w og g s0).2.1 w tks (fun i => nI ((slF w og g s0).1 i)) (slF w og g s0).2.2.1 (fun i => oI ((slF w og g s0).2.2.2 i)) → Fr 12 30 S0 S → GG mX1_solve x (gl_Z mX1_solve x (fun r S1 => r = none ∧ PM S1 og (slF w og 10 s0).2.1 w tks (fun i => nI ((slF w og 10 s0).1 i)) (slF w og 10 s0).2.2.1 (fun i => oI ((slF w og 10 s0).2.2.2 i)) ∧ Fr 12 30 S0 S1)) 2 [some (.ref 12), some (.int (nI g))] [] S (0, 0) := by
  intro m
  induction m with
  | zero =>
    intro g hm S hp hf
    have e : g = 10 := by omega
    subst e
    refine gg_iload_n dX1_solve_2 rfl rfl ?_
    refine gg_bipush (v := 10) dX1_solve_3 (by decide) ?_
    refine gg_icmp_ge (tgt := 30) dX1_solve_5 (by decide) (fun c5 => ?_) (fun c5 => ?_)
    · exact gg_return dX1_solve_30 rfl ⟨(Nat.le_of_ble_eq_true rfl), (Nat.le_of_ble_eq_true rfl)⟩ (⟨rfl, hp, hf⟩)
    · exact absurd (nI_le (Nat.le_refl 10) (by omega)) c5
  | succ m ih =>
    intro g hm S hp hf
    have hg : g < 10 := by omega
    have hok2 := slF_ok (w := w) (og := og) hok g (by omega)
    generalize hs : slF w og g s0 = s at hp hok2
    refine gg_iload_n dX1_solve_2 rfl rfl ?_
    refine gg_bipush (v := 10) dX1_solve_3 (by decide) ?_
    refine gg_icmp_ge (tgt := 30) dX1_solve_5 (by decide) (fun c5 => ?_) (fun c5 => ?_)
    · exact absurd (n_le (a := 10) c5) (by omega)
    · refine gg_aload_n dX1_solve_8 rfl rfl ?_
      refine gf_X1_41 rfl dX1_solve_9 hp.1 rfl ?_
      refine gg_iload_n dX1_solve_12 rfl rfl ?_
      refine gg_callSN (host := RX6) (sp_X6_hasBit S og (nI g)) dX1_solve_13 (fun _ _ _ _ h => h.2.2.2.2.2.2.2.2.2) kw_X1_58 rfl rfl (Nat.le_of_ble_eq_true rfl) (Nat.le_of_ble_eq_true rfl) (Nat.le_of_ble_eq_true rfl) ⟨(Nat.le_of_ble_eq_true rfl), (Nat.le_of_ble_eq_true rfl)⟩ (fun r S1 hq => ?_)
      refine gg_k (k2 := (0, 0)) rfl ?_
      obtain ⟨e9, rfl⟩ := hq
      rw [e9]
      clear e9 S1
      refine gg_if_eq (tgt := 24) dX1_solve_16 (by decide) (fun c16 => ?_) (fun c16 => ?_)
      · have e : slS w og g s = s := if_neg (by rw [bI_z c16]; decide)
        refine gg_iinc (w := nI (g + 1)) dX1_solve_24 rfl (nI_1 g) (Nat.le_of_ble_eq_true rfl) rfl ?_
        refine gg_goto (tgt := 2) dX1_solve_27 (by decide) ?_
        have e3 : slF w og (g + 1) s0 = _ := (congrArg (slS w og g) hs).trans e
        have h9 := ih (g + 1) (by omega) S
        rw [e3] at h9
        exact h9 hp hf
      · have e : slS w og g s = biR w g s := if_pos (bI_nz c16)
        refine gg_aload_n dX1_solve_19 rfl rfl ?_
        refine gg_iload_n dX1_solve_20 rfl rfl ?_
        refine gg_callV (sp_X1_bringIn hok2 hp hg) dX1_solve_21 kw_X1_62 rfl hp.1 rfl rfl (Nat.le_of_ble_eq_true rfl) (Nat.le_of_ble_eq_true rfl) (Nat.le_of_ble_eq_true rfl) ⟨(Nat.le_of_ble_eq_true rfl), (Nat.le_of_ble_eq_true rfl)⟩ (fun r S1 hq => ?_)
        refine gg_k (k2 := (0, 0)) rfl ?_
        obtain ⟨rfl, hp, hf1⟩ := hq
        have hf := hf.tr hf1
        clear hf1
        revert S1
        intro S hp hf
        refine gg_iinc (w := nI (g + 1)) dX1_solve_24 rfl (nI_1 g) (Nat.le_of_ble_eq_true rfl) rfl ?_
        refine gg_goto (tgt := 2) dX1_solve_27 (by decide) ?_
        have e3 : slF w og (g + 1) s0 = _ := (congrArg (slS w og g) hs).trans e
        have h9 := ih (g + 1) (by omega) S
        rw [e3] at h9
        exact h9 hp hf
theorem sp_X1_solve {S : gl_H} {og : Int32} {w : Nat → Nat → Int64} {tks : Nat → Int32} {s : sv_T} (hok : svOk s) (hp : PM S og (s).2.1 w tks (fun i => nI ((s).1 i)) (s).2.2.1 (fun i => oI ((s).2.2.2 i))) : Sp mX1_solve yX1_solve [.ref 12] S (fun r S1 => r = none ∧ PM S1 og (slF w og 10 s).2.1 w tks (fun i => nI ((slF w og 10 s).1 i)) (slF w og 10 s).2.2.1 (fun i => oI ((slF w og 10 s).2.2.2 i)) ∧ Fr 12 30 S S1) := by
  refine gl_enter (j := 1) (by decide +kernel) rfl (fun h => absurd h (by decide)) (Nat.le_of_ble_eq_true rfl) rfl (fun x => ?_)
  refine gg_iconst (v := 0) dX1_solve_0 (by decide) ?_
  refine gg_istore_n dX1_solve_1 rfl (Nat.le_of_ble_eq_true rfl) rfl ?_
  exact sl_loop hok x 10 0 rfl S hp Fr.rf
