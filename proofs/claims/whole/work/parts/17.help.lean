/-! helpers of the walks; the JDK's loops -/
def gl_mask : List Bool → List (Option Value) → List (Option Value)
  | true :: m, a :: t => a :: gl_mask m t
  | false :: m, _ :: t => none :: gl_mask m t
  | _, _ => []
theorem gl_mask_in : ∀ {m : List Bool} {ls : List (Option Value)} {n : Nat} {q : Nat × Value}, q ∈ gl_as n (gl_mask m ls) → q ∈ gl_as n ls
  | [], _, _, _, h => by cases h
  | true :: _, [], _, _, h => by cases h
  | false :: _, [], _, _, h => by cases h
  | true :: m, none :: t, n, q, h => gl_mask_in (m := m) (ls := t) (n := n + 1) h
  | true :: m, some v :: t, n, q, h => by
    rcases List.mem_cons.mp (show q ∈ (n, v) :: gl_as (n + 1) (gl_mask m t) from h) with e | e
    · rw [e]; exact List.mem_cons_self
    · exact List.mem_cons_of_mem _ (gl_mask_in e)
  | false :: m, none :: t, n, q, h => gl_mask_in (m := m) (ls := t) (n := n + 1) h
  | false :: m, some v :: t, n, q, h => List.mem_cons_of_mem _ (gl_mask_in (m := m) (ls := t) (n := n + 1) h)
/-- some locals are forgotten -/
theorem gg_fg (m : List Bool) {M : gl_M} {x : gl_X} {Z : State → Prop} {pc : Nat} {ls : List (Option Value)} {st : List Value} {S : gl_H} {k : Nat × Nat} (K : GG M x Z pc (gl_mask m ls) st S k) : GG M x Z pc ls st S k := by
  obtain ⟨p, l, e, R, s, m9, args, below, meth, c, D, Kc, A, ad0, S0⟩ := x
  intro ok ad H locs LS hR hS hAg hst hls hLS
  refine K ok ad H locs LS hR hS hAg hst (fun q hq => hls q (gl_mask_in hq)) ⟨hLS.1, hLS.2.1, fun q hq => hLS.2.2 q ?_⟩
  obtain ⟨r, hr, rfl⟩ := List.mem_map.mp hq
  exact List.mem_map.mpr ⟨r, gl_mask_in hr, rfl⟩
theorem gg_k {M : gl_M} {x : gl_X} {Z : State → Prop} {pc : Nat} {ls : List (Option Value)} {st : List Value} {S : gl_H} {k k2 : Nat × Nat} (h : k = k2) (K : GG M x Z pc ls st S k2) : GG M x Z pc ls st S k := by rw [h]; exact K
theorem n_le {a b : Nat} (h : nI a ≤ nI b) (ha : a < 2 ^ 31 := by omega) (hb : b < 2 ^ 31 := by omega) : a ≤ b := (nI_leI ha hb).mp h
theorem n_nle {a b : Nat} (h : ¬ nI a ≤ nI b) (ha : a < 2 ^ 31 := by omega) (hb : b < 2 ^ 31 := by omega) : b < a := Nat.not_le.mp (fun q => h ((nI_leI ha hb).mpr q))
theorem n_lt {a b : Nat} (h : nI a < nI b) (ha : a < 2 ^ 31 := by omega) (hb : b < 2 ^ 31 := by omega) : a < b := (nI_ltI ha hb).mp h
theorem n_nlt {a b : Nat} (h : ¬ nI a < nI b) (ha : a < 2 ^ 31 := by omega) (hb : b < 2 ^ 31 := by omega) : b ≤ a := Nat.not_lt.mp (fun q => h ((nI_ltI ha hb).mpr q))
theorem n_eq {a b : Nat} (h : nI a = nI b) (ha : a < 2 ^ 31 := by omega) (hb : b < 2 ^ 31 := by omega) : a = b := (nI_eq ha hb).mp h
theorem n_ne {a b : Nat} (h : ¬ nI a = nI b) : a ≠ b := fun q => h (by rw [q])
theorem lg_z (x y : Int64) (h : ¬ lg_cmp x y = 0) : x ≠ y := fun q => h ((lg_cmp_eq x y).mpr q)
/-- every place but those of [lo, hi) stays -/
def Fr (lo hi : Nat) (S S1 : gl_H) : Prop := ∀ q, ¬ (lo ≤ q ∧ q < hi) → S1 q = S q
theorem Fr.rf {lo hi : Nat} {S : gl_H} : Fr lo hi S S := fun _ _ => rfl
theorem Fr.pu {lo hi p : Nat} {S S1 : gl_H} {c : gl_C} (h : Fr lo hi S S1) (h1 : lo ≤ p) (h2 : p < hi) : Fr lo hi S (gl_pu S1 p c) := fun q hq => (gl_pu_n S1 c (fun e => hq (by rw [e]; exact ⟨h1, h2⟩))).trans (h q hq)
theorem Fr.tr {lo hi : Nat} {S S1 S2 : gl_H} (h : Fr lo hi S S1) (h2 : Fr lo hi S1 S2) : Fr lo hi S S2 := fun q hq => (h2 q hq).trans (h q hq)
theorem Fr.mono {lo hi lo2 hi2 : Nat} {S S1 : gl_H} (h : Fr lo hi S S1) (h1 : lo2 ≤ lo) (h2 : hi ≤ hi2) : Fr lo2 hi2 S S1 := fun q hq => h q (fun z => hq ⟨Nat.le_trans h1 z.1, Nat.lt_of_lt_of_le z.2 h2⟩)
/-- f with v at the first n places -/
def fillN {α : Type} (f : Nat → α) (n : Nat) (v : α) : Nat → α := fun j => if j < n then v else f j
theorem fillN_0 {α : Type} (f : Nat → α) (v : α) : fillN f 0 v = f := funext (fun j => if_neg (Nat.not_lt_zero j))
theorem fillN_s (f : Nat → Int32) (n : Nat) (v : Int32) : upd (fillN f n v) n v = fillN f (n + 1) v := funext (fun j => by
  unfold fillN
  by_cases h : j = n
  · subst h
    rw [pk_us, if_pos (Nat.lt_succ_self j)]
  · rw [pk_un h]
    by_cases h2 : j < n
    · rw [if_pos h2, if_pos (by omega)]
    · rw [if_neg h2, if_neg (by omega)])
theorem fillN_l (f : Nat → Int64) (n : Nat) (v : Int64) : vp_updL (fillN f n v) n v = fillN f (n + 1) v := funext (fun j => by
  unfold fillN
  by_cases h : j = n
  · subst h
    rw [pk_uLs, if_pos (Nat.lt_succ_self j)]
  · rw [pk_uLn h]
    by_cases h2 : j < n
    · rw [if_pos h2, if_pos (by omega)]
    · rw [if_neg h2, if_neg (by omega)])
theorem pu_pu (S : gl_H) (p : Nat) (c c2 : gl_C) : gl_pu (gl_pu S p c) p c2 = gl_pu S p c2 := funext (fun q => by
  unfold gl_pu
  by_cases h : q = p
  · rw [if_pos h, if_pos h]
  · rw [if_neg h, if_neg h, if_neg h])
theorem pu_id {S : gl_H} {p : Nat} {c : gl_C} (h : S p = some c) : gl_pu S p c = S := funext (fun q => by
  unfold gl_pu
  by_cases e : q = p
  · rw [if_pos e, e, h]
  · rw [if_neg e])
theorem fl_i {S : gl_H} {p n : Nat} {f : Nat → Int32} {v : Int32} (hn : n < 2 ^ 30) (x : gl_X) : ∀ (m i : Nat), i + m = n → GG mJ7_fill_53178 x (gl_Z mJ7_fill_53178 x (fun r S1 => r = none ∧ S1 = gl_pu S p (.inl (0, n, .inl (fillN f n v))))) 5 [some (.ref p), some (.int v), some (.int (nI i)), some (.int (nI n))] [] (gl_pu S p (.inl (0, n, .inl (fillN f i v)))) (0, 0) := by
  intro m
  induction m using Nat.strongRecOn with
  | _ m ih =>
    intro i him
    refine gg_iload_n dJ7_fill_53178_5 rfl rfl ?_
    refine gg_iload_n dJ7_fill_53178_6 rfl rfl ?_
    refine gg_icmp_ge (tgt := 20) dJ7_fill_53178_7 (by decide) (fun c7 => ?_) (fun c7 => ?_)
    · have e : m = 0 := by have := n_le c7; omega
      subst e
      have e2 : i = n := by omega
      subst e2
      exact gg_return dJ7_fill_53178_20 rfl ⟨(Nat.le_of_ble_eq_true rfl), (Nat.le_of_ble_eq_true rfl)⟩ (⟨rfl, rfl⟩)
    · have hin : i < n := n_nle c7
      obtain ⟨m2, rfl⟩ : ∃ q, m = q + 1 := ⟨m - 1, by omega⟩
      refine gg_aload_n dJ7_fill_53178_10 rfl rfl ?_
      refine gg_iload_n dJ7_fill_53178_11 rfl rfl ?_
      refine gg_iload_n dJ7_fill_53178_12 rfl rfl ?_
      refine gg_ast_i (i) dJ7_fill_53178_13 (gl_pu_s S p _) rfl hin (by omega) ?_
      rw [pu_pu, fillN_s]
      refine gg_iinc (w := nI (i + 1)) dJ7_fill_53178_14 rfl (nI_1 i) (Nat.le_of_ble_eq_true rfl) rfl ?_
      refine gg_goto (tgt := 5) dJ7_fill_53178_17 (by decide) ?_
      exact ih m2 (by omega) (i + 1) (by omega)
theorem sp_J7_fill_53178 {S : gl_H} {p n : Nat} {f : Nat → Int32} (hn : n < 2 ^ 30) (hS : S p = some (.inl (0, n, .inl (f)))) (v : Int32) : Sp mJ7_fill_53178 yJ7_fill_53178 [.ref p, .int v] S (fun r S1 => r = none ∧ S1 = gl_pu S p (.inl (0, n, .inl (fillN f n v)))) := by
  refine gl_enter (j := 2) (by decide +kernel) rfl (fun h => absurd h (by decide)) (Nat.le_of_ble_eq_true rfl) rfl (fun x => ?_)
  refine gg_iconst (v := 0) dJ7_fill_53178_0 (by decide) ?_
  refine gg_istore_n dJ7_fill_53178_1 rfl (Nat.le_of_ble_eq_true rfl) rfl ?_
  refine gg_aload_n dJ7_fill_53178_2 rfl rfl ?_
  refine gg_alen (n := 0) (t := 0) (v := nI n) dJ7_fill_53178_3 (fun _ => rfl) hS rfl ?_
  refine gg_istore_n dJ7_fill_53178_4 rfl (Nat.le_of_ble_eq_true rfl) rfl ?_
  have h0 := fl_i (S := S) (p := p) (f := f) (v := v) hn x n 0 (by omega)
  rw [fillN_0, pu_id hS] at h0
  exact h0
theorem fl_l {S : gl_H} {p n : Nat} {f : Nat → Int64} {v : Int64} (hn : n < 2 ^ 30) (x : gl_X) : ∀ (m i : Nat), i + m = n → GG mJ7_fill_d0a16 x (gl_Z mJ7_fill_d0a16 x (fun r S1 => r = none ∧ S1 = gl_pu S p (.inl (1, n, .inr (.inl (fillN f n v)))))) 6 [some (.ref p), some (.long v), none, some (.int (nI i)), some (.int (nI n))] [] (gl_pu S p (.inl (1, n, .inr (.inl (fillN f i v))))) (0, 0) := by
  intro m
  induction m using Nat.strongRecOn with
  | _ m ih =>
    intro i him
    refine gg_iload_n dJ7_fill_d0a16_6 rfl rfl ?_
    refine gg_iload dJ7_fill_d0a16_7 rfl ?_
    refine gg_icmp_ge (tgt := 22) dJ7_fill_d0a16_9 (by decide) (fun c9 => ?_) (fun c9 => ?_)
    · have e : m = 0 := by have := n_le c9; omega
      subst e
      have e2 : i = n := by omega
      subst e2
      exact gg_return dJ7_fill_d0a16_22 rfl ⟨(Nat.le_of_ble_eq_true rfl), (Nat.le_of_ble_eq_true rfl)⟩ (⟨rfl, rfl⟩)
    · have hin : i < n := n_nle c9
      obtain ⟨m2, rfl⟩ : ∃ q, m = q + 1 := ⟨m - 1, by omega⟩
      refine gg_aload_n dJ7_fill_d0a16_12 rfl rfl ?_
      refine gg_iload_n dJ7_fill_d0a16_13 rfl rfl ?_
      refine gg_lload_n dJ7_fill_d0a16_14 rfl rfl ?_
      refine gg_ast_l (i) dJ7_fill_d0a16_15 (gl_pu_s S p _) rfl hin (by omega) ?_
      rw [pu_pu, fillN_l]
      refine gg_iinc (w := nI (i + 1)) dJ7_fill_d0a16_16 rfl (nI_1 i) (Nat.le_of_ble_eq_true rfl) rfl ?_
      refine gg_goto (tgt := 6) dJ7_fill_d0a16_19 (by decide) ?_
      exact ih m2 (by omega) (i + 1) (by omega)
theorem sp_J7_fill_d0a16 {S : gl_H} {p n : Nat} {f : Nat → Int64} (hn : n < 2 ^ 30) (hS : S p = some (.inl (1, n, .inr (.inl (f))))) (v : Int64) : Sp mJ7_fill_d0a16 yJ7_fill_d0a16 [.ref p, .long v] S (fun r S1 => r = none ∧ S1 = gl_pu S p (.inl (1, n, .inr (.inl (fillN f n v))))) := by
  refine gl_enter (j := 2) (by decide +kernel) rfl (fun h => absurd h (by decide)) (Nat.le_of_ble_eq_true rfl) rfl (fun x => ?_)
  refine gg_iconst (v := 0) dJ7_fill_d0a16_0 (by decide) ?_
  refine gg_istore_n dJ7_fill_d0a16_1 rfl (Nat.le_of_ble_eq_true rfl) rfl ?_
  refine gg_aload_n dJ7_fill_d0a16_2 rfl rfl ?_
  refine gg_alen (n := 0) (t := 1) (v := nI n) dJ7_fill_d0a16_3 (fun _ => rfl) hS rfl ?_
  refine gg_istore dJ7_fill_d0a16_4 (Nat.le_of_ble_eq_true rfl) rfl ?_
  have h0 := fl_l (S := S) (p := p) (f := f) (v := v) hn x n 0 (by omega)
  rw [fillN_0, pu_id hS] at h0
  exact h0
