/-! the constructors -/
set_option maxRecDepth 20000 in
theorem km_11 : Cond.classLink RX1 11 ("[" ++ (FieldType.array .long).toString) ∈ gl_T := (gl_T_in (by decide +kernel) (by decide +kernel))
def mnA (ad : Nat → Nat) (q : Nat) (r : Nat → Nat) : Nat → Nat := fun p => if p = 13 then q else if 20 ≤ p ∧ p < 30 then r (p - 20) else ad p
def mnS (S : gl_H) : gl_H := fun p => if p = 13 then some (.inl (6, 10, .inr (.inr (.inr (.inr (fun j => if j < 10 then some (20 + j) else none)))))) else if 20 ≤ p ∧ p < 30 then some (.inl (1, 13, .inr (.inl (fun _ => 0)))) else S p
theorem mnS_o (S : gl_H) : mnS S 13 = some (.inl (6, 10, .inr (.inr (.inr (.inr (fun j => if j < 10 then some (20 + j) else none)))))) := rfl
theorem mnS_r (S : gl_H) {g : Nat} (hg : g < 10) : mnS S (20 + g) = some (.inl (1, 13, .inr (.inl (fun _ => 0)))) := by
  unfold mnS
  rw [if_neg (by omega), if_pos (by omega)]
theorem mnS_n (S : gl_H) {p : Nat} (h1 : p ≠ 13) (h2 : ¬ (20 ≤ p ∧ p < 30)) : mnS S p = S p := by
  unfold mnS
  rw [if_neg h1, if_neg h2]
/-- what stands beyond an array's length doesn't matter -/
theorem gg_fx {M : gl_M} {x : gl_X} {Z : State → Prop} {pc : Nat} {ls : List (Option Value)} {st : List Value} {S : gl_H} {k : Nat × Nat} {p9 t n : Nat} {f : Nat → Int32} (f2 : Nat → Int32) (hS : S p9 = some (.inl (t, n, .inl f))) (hf : ∀ j, j < n → f2 j = f j) (K : GG M x Z pc ls st (gl_pu S p9 (.inl (t, n, .inl f2))) k) : GG M x Z pc ls st S k := by
  obtain ⟨p, l, e, R, s, m, args, below, meth, c, D, Kc, A, ad0, S0⟩ := x
  intro ok ad H locs LS hR hSS hAg hst hls hLS
  obtain ⟨L, j, h1, h2, h3, h4, h5, h6, h7, h8⟩ := gl_at hR hS
  have ecell : vp_cell (Kc t) (n, .inl f2) = vp_cell (Kc t) (n, .inl f) := by
    rw [vp_cell_i, vp_cell_i]
    unfold arrV
    congr 2
    funext i
    show Value.int (f2 i.val) = Value.int (f i.val)
    rw [hf i.val i.isLt]
  have q1 := h3.set h4 h8 (e := .inl (Kc t, n, .inl f2)) (H1 := H) (by show H[ad p9]? = some (vp_cell (Kc t) (n, .inl f2)); rw [ecell]; exact h3 j _ h8) (fun q _ => rfl)
  have q2 := h4.set (e := .inl (Kc t, n, .inl f2)) h8
  exact K ok ad H locs LS (gl_R.pu (c' := .inl (t, n, .inl f2)) h1 h2 h5 h6 h7 hS (fun r hr => hr.elim) q1 q2) hSS hAg.pu (gl_bds.pu hst) (gl_bdq.pu hls) hLS
section GMN
variable {M : gl_M} {x : gl_X} {Z : State → Prop} {pc : Nat} {ls : List (Option Value)} {st : List Value} {S : gl_H} {k : Nat × Nat}
theorem gg_mna (hM : M.2.1 = RX1) (hd : decode M.1 pc = .ok (.multianewarray 11 2, 4)) (h13 : S 13 = none) (h20 : ∀ g, g < 10 → S (20 + g) = none) (hk : k.1 + 11 ≤ M.2.2.2.2.2.2.1 ∧ k.2 + 140 ≤ M.2.2.2.2.2.2.2)
    (K : GG M x Z (pc + 4) ls (.ref 13 :: st) (mnS S) (k.1 + 11, k.2 + 140)) : GG M x Z pc ls (.int 13 :: .int 10 :: st) S k := by
  obtain ⟨p, l, e, R, s, m, args, below, meth, c, D, Kc, A, ad0, S0⟩ := x
  intro ok ad H locs LS hR hSS hAg hst hls hLS
  obtain ⟨L, h1, h2, h3, h4, h5, h6⟩ := hR
  have hts := ok.2.2.2.2.2.1
  have hcy : s.vm.findClass (FieldType.array .long).toString = some (Kc 1) := (ok.2.2.2.2.2.2.2.2.2.1.2 1 (Kc 1, .long) rfl).2
  have hns : ∀ p9, (p9 = 13 ∨ (20 ≤ p9 ∧ p9 < 30)) → S p9 = none := fun p9 h => by
    rcases h with h | h
    · rw [h]; exact h13
    · have := h20 (p9 - 20) (by omega)
      rw [show 20 + (p9 - 20) = p9 by omega] at this
      exact this
  have hout : ∀ p9, S p9 ≠ none → p9 ≠ 13 ∧ ¬ (20 ≤ p9 ∧ p9 < 30) := fun p9 h => ⟨fun z => h (hns p9 (Or.inl z)), fun z => h (hns p9 (Or.inr z))⟩
  have hmv : ∀ q r v, gl_bd S v → gl_mv (mnA ad q r) v = gl_mv ad v := fun q r v hb => by
    cases v with
    | ref z =>
      show Value.ref (mnA ad q r z) = Value.ref (ad z)
      have : z ≠ 13 ∧ ¬ (20 ≤ z ∧ z < 30) := by
        rcases hb z rfl with h | h
        · exact hout z h
        · exact ⟨Nat.ne_of_gt (Nat.lt_of_lt_of_le (by decide) h), fun y => absurd y.2 (Nat.not_lt.mpr (Nat.le_trans (by decide) h))⟩
      unfold mnA
      rw [if_neg this.1, if_neg this.2]
    | _ => rfl
  refine va_mna (X := gl_wl Kc ad S L) (L := []) (f := fun _ => .inr (0, [])) (ty := .long) (cy := Kc 1) (N' := 10) (K' := 13) (z := (13, .inr (.inl (fun _ => 0)))) ok.1 ok.2.1 ok.2.2.2.2.1 (by rw [hM]; exact hts _ km_11) ok.2.2.2.2.2.2.2.2.2.2.2.2.2.2.2.1.2.2 (hts _ ka_long) hcy ok.2.2.2.2.2.2.2.2.2.1 (by rw [show va_pl [] _ = [] from rfl, List.append_nil]; exact h3) (by rw [show va_pl [] _ = [] from rfl, List.append_nil]; exact h4) hSS ok.2.2.2.2.2.2.2.2.2.2.1 (by decide) (by decide) (by decide) (by decide) (by decide) (by decide) (by decide) rfl rfl (by rw [ok.2.2.2.2.2.2.2.2.1.2.2.1]; exact hk.1) (by rw [ok.2.2.2.2.2.2.2.2.1.2.2.2]; exact hk.2) (fun c => by rw [vp_cell_l, ← arrV_new]; rfl) hd (fun q r cA H1 hinj _ q0 q1 q2 q3 => ?_)
  have e1 := (q0.2 7 (cA, .array .long) rfl).2
  have e2 := (ok.2.2.2.2.2.2.2.2.2.1.2 6 (Kc 6, .array .long) rfl).2
  have e3 : cA = Kc 6 := Option.some.inj ((show s.vm.findClass _ = some cA from e1).symm.trans e2)
  rw [e3] at q1 q2
  have hw : ((gl_wl Kc ad S L ++ [(q, .inl (Kc 6, 10, .inr (.inr (.inr (.inr (fun i => if i < 10 then some (r i) else none))))))]) ++ va_pl ([] ++ (List.range 10).map r) (vr_up (fun _ => .inr (0, [])) ((List.range 10).map r) (.inl (Kc 1, 13, .inr (.inl (fun _ => 0)))))) = gl_wl Kc (mnA ad q r) (mnS S) ((L ++ [13]) ++ (List.range 10).map (20 + ·)) := by
    unfold gl_wl
    rw [List.map_append, List.map_append]
    congr 1
    · congr 1
      · apply List.map_congr_left
        intro p9 hp9
        have hp := hout p9 ((h1 p9).mpr hp9)
        rw [mnS_n S hp.1 hp.2]
        cases hc : S p9 with
        | none => exact absurd hc ((h1 p9).mpr hp9)
        | some d =>
          show (ad p9, gl_mE Kc ad d) = (mnA ad q r p9, gl_mE Kc (mnA ad q r) d)
          rw [show mnA ad q r p9 = ad p9 by unfold mnA; rw [if_neg hp.1, if_neg hp.2], show gl_mE Kc (mnA ad q r) d = gl_mE Kc ad d from gl_mE_cong (fun z hz => by
            have := hout z (h5 p9 d hc z hz)
            unfold mnA
            rw [if_neg this.1, if_neg this.2])]
      · show [(q, _)] = [(mnA ad q r 13, gl_mE Kc (mnA ad q r) _)]
        have ef : (fun i => if i < 10 then some (r i) else none) = fun j => (if j < 10 then some (20 + j) else none : Option Nat).map (mnA ad q r) := funext (fun j => by
          by_cases h : j < 10
          · rw [if_pos h, if_pos h]
            show some (r j) = some (mnA ad q r (20 + j))
            unfold mnA
            rw [if_neg (by omega), if_pos (by omega), show 20 + j - 20 = j by omega]
          · rw [if_neg h, if_neg h]; rfl)
        rw [ef]
        rfl
    · unfold va_pl
      rw [List.nil_append, List.map_map, List.map_map]
      apply List.map_congr_left
      intro i hi
      have hi9 : i < 10 := List.mem_range.mp hi
      show (r i, vr_up _ _ _ (r i)) = (mnA ad q r (20 + i), gl_mE Kc (mnA ad q r) ((mnS S (20 + i)).getD _))
      rw [vr_up_in (List.mem_map.mpr ⟨i, hi, rfl⟩), mnS_r S hi9]
      rw [show mnA ad q r (20 + i) = r i by unfold mnA; rw [if_neg (by omega), if_pos (by omega), show 20 + i - 20 = i by omega]]
      rfl
  rw [hw] at q1 q2
  have hdom : ∀ p9, mnS S p9 ≠ none ↔ (S p9 ≠ none ∨ p9 = 13 ∨ (20 ≤ p9 ∧ p9 < 30)) := fun p9 => by
    by_cases c1 : p9 = 13
    · rw [c1, mnS_o]; exact ⟨fun _ => Or.inr (Or.inl rfl), fun _ z => by cases z⟩
    · by_cases c2 : 20 ≤ p9 ∧ p9 < 30
      · have := mnS_r S (g := p9 - 20) (by omega)
        rw [show 20 + (p9 - 20) = p9 by omega] at this
        rw [this]
        exact ⟨fun _ => Or.inr (Or.inr c2), fun _ z => by cases z⟩
      · rw [mnS_n S c1 c2]
        exact ⟨Or.inl, fun h => h.elim id (fun z => absurd z (fun y => y.elim c1 c2))⟩
  have hR2 : gl_R D Kc A (mnA ad q r) (mnS S) H1 := by
    refine ⟨(L ++ [13]) ++ (List.range 10).map (20 + ·), fun p9 => (hdom p9).trans ?_, ?_, q1, q2, fun p9 d hd9 z hz => ?_, fun p9 hp9 => ?_⟩
    · rw [List.mem_append, List.mem_append, List.mem_singleton, h1 p9, or_assoc]
      refine or_congr Iff.rfl (or_congr Iff.rfl ⟨fun h => List.mem_map.mpr ⟨p9 - 20, List.mem_range.mpr (by omega), by show 20 + (p9 - 20) = p9; omega⟩, fun h => ?_⟩)
      obtain ⟨i, hi, rfl⟩ := List.mem_map.mp h
      have := List.mem_range.mp hi
      show 20 ≤ 20 + i ∧ 20 + i < 30
      omega
    · refine List.nodup_append.mpr ⟨List.nodup_append.mpr ⟨h2, by simp, fun a ha b hb z => ?_⟩, ?_, fun a ha b hb z => ?_⟩
      · rw [List.mem_singleton] at hb
        rw [z, hb] at ha
        exact (h1 13).mpr ha h13
      · decide
      · obtain ⟨i, hi, rfl⟩ := List.mem_map.mp hb
        have hi9 := List.mem_range.mp hi
        rcases List.mem_append.mp ha with h | h
        · have := hout a ((h1 a).mpr h)
          have z2 : a = 20 + i := z
          omega
        · rw [List.mem_singleton] at h
          have z2 : a = 20 + i := z
          omega
    · by_cases c1 : p9 = 13
      · rw [c1, mnS_o] at hd9
        cases hd9
        obtain ⟨j, hj⟩ := hz
        have hj : (if j < 10 then some (20 + j) else none : Option Nat) = some z := hj
        by_cases hj9 : j < 10
        · rw [if_pos hj9] at hj
          cases hj
          exact (hdom _).mpr (Or.inr (Or.inr (by omega)))
        · rw [if_neg hj9] at hj; cases hj
      · by_cases c2 : 20 ≤ p9 ∧ p9 < 30
        · have := mnS_r S (g := p9 - 20) (by omega)
          rw [show 20 + (p9 - 20) = p9 by omega] at this
          rw [this] at hd9
          cases hd9
          exact hz.elim
        · rw [mnS_n S c1 c2] at hd9
          exact (hdom z).mpr (Or.inl (h5 p9 d hd9 z hz))
    · rcases (hdom p9).mp hp9 with h | h | h
      · exact h6 p9 h
      · unfold gl_xt; omega
      · unfold gl_xt; omega
  have hbdS : ∀ v, gl_bd S v → gl_bd (mnS S) v := fun v hb z ez => (hb z ez).elim (fun y => Or.inl ((hdom z).mpr (Or.inl y))) Or.inr
  have hAg2 : gl_Ag S0 ad0 (mnS S) (mnA ad q r) := fun p9 => ⟨fun h => (hdom p9).mpr (Or.inl ((hAg p9).1 h)), fun h => by
    have : p9 ≠ 13 ∧ ¬ (20 ≤ p9 ∧ p9 < 30) := by
      rcases h with h | h
      · exact hout p9 ((hAg p9).1 h)
      · unfold gl_xt at h; omega
    unfold mnA
    rw [if_neg this.1, if_neg this.2]
    exact (hAg p9).2 h⟩
  have hm : gl_ma (mnA ad q r) (gl_as 0 ls) = gl_ma ad (gl_as 0 ls) := List.map_congr_left (fun z hz => by rw [hmv q r _ (hls z hz)])
  have hst2 : ∀ v ∈ st, gl_bd S v := gl_bd_t (gl_bd_t hst)
  have hmr : st.map (gl_mv (mnA ad q r)) = st.map (gl_mv ad) := List.map_congr_left (fun v hv => hmv q r v (hst2 v hv))
  have hb13 : gl_bd (mnS S) (.ref 13) := fun z ez => by cases ez; exact Or.inl ((hdom 13).mpr (Or.inr (Or.inl rfl)))
  have hwk := K ok (mnA ad q r) H1 locs LS hR2 q3 hAg2 (gl_bd_c hb13 (fun v hv => hbdS v (hst2 v hv))) (fun z hz => hbdS _ (hls z hz)) (by rw [hm]; exact hLS)
  have ee : (Value.ref 13 :: st).map (gl_mv (mnA ad q r)) = Value.ref q :: st.map (gl_mv ad) := by
    rw [List.map_cons, hmr]
    rfl
  rw [ee] at hwk
  exact hwk
end GMN
theorem lt0_ok : ∀ i h, (fun i => if i < 10 then some 0 else none : Nat → Option Nat) i = some h → i < 10 ∧ h < 10 := fun i h e => by
  dsimp only at e
  by_cases c : i < 10
  · rw [if_pos c] at e; cases e; exact ⟨c, by decide⟩
  · rw [if_neg c] at e; cases e
def lt0 : Nat → Int32 := fun i => oI (if i < 10 then some 0 else none)
theorem sp_X1_init {S : gl_H} (hS : S 12 = some (.inr (1, [.null, .null, .int 0, .null, .int 0, .null, .null]))) (hN : ∀ q, 13 ≤ q → q < 30 → S q = none) : Sp mX1_init yX1_init [.ref 12] S (fun r S1 => r = none ∧ PM S1 0 0 (fun _ _ => 0) (fun _ => 0) (fun _ => 0) (fun _ => 0) lt0 ∧ Fr 12 30 S S1) := by
  refine gl_enter (j := 0) (by decide +kernel) rfl (fun _ => rfl) (Nat.le_of_ble_eq_true rfl) rfl (fun x => ?_)
  have hf : Fr 12 30 S S := Fr.rf
  refine gg_aload_n dX1_init_0 rfl rfl ?_
  refine gg_objInit dX1_init_1 kw_X1_5 (Nat.le_of_ble_eq_true rfl) (Nat.le_of_ble_eq_true rfl) ?_
  refine gg_aload_n dX1_init_4 rfl rfl ?_
  refine gg_bipush (v := 10) dX1_init_5 (by decide) ?_
  refine gg_bipush (v := 13) dX1_init_7 (by decide) ?_
  refine gg_mna rfl dX1_init_9 (hN 13 (by decide) (by decide)) (fun g hg => hN (20 + g) (by omega) (by omega)) ⟨(Nat.le_of_ble_eq_true rfl), (Nat.le_of_ble_eq_true rfl)⟩ ?_
  refine gg_k (k2 := (11, 140)) rfl ?_
  refine gg_ab (P := fun S1 => S1 12 = some (.inr (1, [.null, .null, .int 0, .null, .int 0, .null, .null])) ∧ S1 13 = some (.inl (6, 10, .inr (.inr (.inr (.inr (fun j => if j < 10 then some (20 + j) else none)))))) ∧ (∀ g, g < 10 → S1 (20 + g) = some (.inl (1, 13, .inr (.inl (fun _ => 0))))) ∧ (∀ q, 14 ≤ q → q < 20 → S1 q = none) ∧ Fr 12 30 S S1) ⟨(mnS_n S (by decide) (by decide)).trans hS, mnS_o S, fun g hg => mnS_r S hg, fun q q1 q2 => (mnS_n S (by omega) (by omega)).trans (hN q (by omega) (by omega)), fun z hz => (mnS_n S (by omega) (by omega)).trans (hf z hz)⟩ (fun S1 hh => ?_)
  obtain ⟨hS, h13, hr, hN, hf⟩ := hh
  refine pf_X1_13 rfl rfl dX1_init_13 hS (Nat.le_of_ble_eq_true rfl) (gl_some h13) ?_
  refine gg_ob (fun S1 hS hO => ?_)
  have h13 := (hO 13 (by decide)).trans h13
  have hr : ∀ g, g < 10 → S1 (20 + g) = _ := fun g hg => (hO (20 + g) (by omega)).trans (hr g hg)
  have hN : ∀ q, 14 ≤ q → q < 20 → S1 q = none := fun q q1 q2 => (hO q (by omega)).trans (hN q (by omega) (by omega))
  have hf : Fr 12 30 S S1 := fun z hz => (hO z (by omega)).trans (hf z hz)
  clear hO
  refine gg_aload_n dX1_init_16 rfl rfl ?_
  refine gg_bipush (v := 10) dX1_init_17 (by decide) ?_
  refine gg_new_int 10 14 dX1_init_19 (by decide) (by decide) (by decide) (hN 14 (by decide) (by decide)) (by decide) ⟨(Nat.le_of_ble_eq_true rfl), (Nat.le_of_ble_eq_true rfl)⟩ ?_
  refine gg_k (k2 := (12, 150)) rfl ?_
  refine gg_ob (fun S1 h14 hO => ?_)
  have hS := (hO 12 (by decide)).trans hS
  have h13 := (hO 13 (by decide)).trans h13
  have hr : ∀ g, g < 10 → S1 (20 + g) = _ := fun g hg => (hO (20 + g) (by omega)).trans (hr g hg)
  have hN : ∀ q, 15 ≤ q → q < 20 → S1 q = none := fun q q1 q2 => (hO q (by omega)).trans (hN q (by omega) (by omega))
  have hf : Fr 12 30 S S1 := fun z hz => (hO z (by omega)).trans (hf z hz)
  clear hO
  refine pf_X1_16 rfl rfl dX1_init_21 hS (Nat.le_of_ble_eq_true rfl) (gl_some h14) ?_
  refine gg_ob (fun S1 hS hO => ?_)
  have h13 := (hO 13 (by decide)).trans h13
  have h14 := (hO 14 (by decide)).trans h14
  have hr : ∀ g, g < 10 → S1 (20 + g) = _ := fun g hg => (hO (20 + g) (by omega)).trans (hr g hg)
  have hN : ∀ q, 15 ≤ q → q < 20 → S1 q = none := fun q q1 q2 => (hO q (by omega)).trans (hN q (by omega) (by omega))
  have hf : Fr 12 30 S S1 := fun z hz => (hO z (by omega)).trans (hf z hz)
  clear hO
  refine gg_aload_n dX1_init_24 rfl rfl ?_
  refine gg_bipush (v := 10) dX1_init_25 (by decide) ?_
  refine gg_new_int 10 15 dX1_init_27 (by decide) (by decide) (by decide) (hN 15 (by decide) (by decide)) (by decide) ⟨(Nat.le_of_ble_eq_true rfl), (Nat.le_of_ble_eq_true rfl)⟩ ?_
  refine gg_k (k2 := (13, 160)) rfl ?_
  refine gg_ob (fun S1 h15 hO => ?_)
  have hS := (hO 12 (by decide)).trans hS
  have h13 := (hO 13 (by decide)).trans h13
  have h14 := (hO 14 (by decide)).trans h14
  have hr : ∀ g, g < 10 → S1 (20 + g) = _ := fun g hg => (hO (20 + g) (by omega)).trans (hr g hg)
  have hN : ∀ q, 16 ≤ q → q < 20 → S1 q = none := fun q q1 q2 => (hO q (by omega)).trans (hN q (by omega) (by omega))
  have hf : Fr 12 30 S S1 := fun z hz => (hO z (by omega)).trans (hf z hz)
  clear hO
  refine pf_X1_20 rfl rfl dX1_init_29 hS (Nat.le_of_ble_eq_true rfl) (gl_some h15) ?_
  refine gg_ob (fun S1 hS hO => ?_)
  have h13 := (hO 13 (by decide)).trans h13
  have h14 := (hO 14 (by decide)).trans h14
  have h15 := (hO 15 (by decide)).trans h15
  have hr : ∀ g, g < 10 → S1 (20 + g) = _ := fun g hg => (hO (20 + g) (by omega)).trans (hr g hg)
  have hN : ∀ q, 16 ≤ q → q < 20 → S1 q = none := fun q q1 q2 => (hO q (by omega)).trans (hN q (by omega) (by omega))
  have hf : Fr 12 30 S S1 := fun z hz => (hO z (by omega)).trans (hf z hz)
  clear hO
  refine gg_aload_n dX1_init_32 rfl rfl ?_
  refine gg_bipush (v := 10) dX1_init_33 (by decide) ?_
  refine gg_new_long 10 16 dX1_init_35 (by decide) (by decide) (by decide) (hN 16 (by decide) (by decide)) (by decide) ⟨(Nat.le_of_ble_eq_true rfl), (Nat.le_of_ble_eq_true rfl)⟩ ?_
  refine gg_k (k2 := (14, 170)) rfl ?_
  refine gg_ob (fun S1 h16 hO => ?_)
  have hS := (hO 12 (by decide)).trans hS
  have h13 := (hO 13 (by decide)).trans h13
  have h14 := (hO 14 (by decide)).trans h14
  have h15 := (hO 15 (by decide)).trans h15
  have hr : ∀ g, g < 10 → S1 (20 + g) = _ := fun g hg => (hO (20 + g) (by omega)).trans (hr g hg)
  have hN : ∀ q, 17 ≤ q → q < 20 → S1 q = none := fun q q1 q2 => (hO q (by omega)).trans (hN q (by omega) (by omega))
  have hf : Fr 12 30 S S1 := fun z hz => (hO z (by omega)).trans (hf z hz)
  clear hO
  refine pf_X1_23 rfl rfl dX1_init_37 hS (Nat.le_of_ble_eq_true rfl) (gl_some h16) ?_
  refine gg_ob (fun S1 hS hO => ?_)
  have h13 := (hO 13 (by decide)).trans h13
  have h14 := (hO 14 (by decide)).trans h14
  have h15 := (hO 15 (by decide)).trans h15
  have h16 := (hO 16 (by decide)).trans h16
  have hr : ∀ g, g < 10 → S1 (20 + g) = _ := fun g hg => (hO (20 + g) (by omega)).trans (hr g hg)
  have hN : ∀ q, 17 ≤ q → q < 20 → S1 q = none := fun q q1 q2 => (hO q (by omega)).trans (hN q (by omega) (by omega))
  have hf : Fr 12 30 S S1 := fun z hz => (hO z (by omega)).trans (hf z hz)
  clear hO
  refine gg_aload_n dX1_init_40 rfl rfl ?_
  refine gg_bipush (v := 10) dX1_init_41 (by decide) ?_
  refine gg_new_int 10 17 dX1_init_43 (by decide) (by decide) (by decide) (hN 17 (by decide) (by decide)) (by decide) ⟨(Nat.le_of_ble_eq_true rfl), (Nat.le_of_ble_eq_true rfl)⟩ ?_
  refine gg_k (k2 := (15, 180)) rfl ?_
  refine gg_ob (fun S1 h17 hO => ?_)
  have hS := (hO 12 (by decide)).trans hS
  have h13 := (hO 13 (by decide)).trans h13
  have h14 := (hO 14 (by decide)).trans h14
  have h15 := (hO 15 (by decide)).trans h15
  have h16 := (hO 16 (by decide)).trans h16
  have hr : ∀ g, g < 10 → S1 (20 + g) = _ := fun g hg => (hO (20 + g) (by omega)).trans (hr g hg)
  have hN : ∀ q, 18 ≤ q → q < 20 → S1 q = none := fun q q1 q2 => (hO q (by omega)).trans (hN q (by omega) (by omega))
  have hf : Fr 12 30 S S1 := fun z hz => (hO z (by omega)).trans (hf z hz)
  clear hO
  refine pf_X1_27 rfl rfl dX1_init_45 hS (Nat.le_of_ble_eq_true rfl) (gl_some h17) ?_
  refine gg_ob (fun S1 hS hO => ?_)
  have h13 := (hO 13 (by decide)).trans h13
  have h14 := (hO 14 (by decide)).trans h14
  have h15 := (hO 15 (by decide)).trans h15
  have h16 := (hO 16 (by decide)).trans h16
  have h17 := (hO 17 (by decide)).trans h17
  have hr : ∀ g, g < 10 → S1 (20 + g) = _ := fun g hg => (hO (20 + g) (by omega)).trans (hr g hg)
  have hN : ∀ q, 18 ≤ q → q < 20 → S1 q = none := fun q q1 q2 => (hO q (by omega)).trans (hN q (by omega) (by omega))
  have hf : Fr 12 30 S S1 := fun z hz => (hO z (by omega)).trans (hf z hz)
  clear hO
  refine gg_fx lt0 h17 (fun j hj => by unfold lt0; rw [if_pos hj]; rfl) ?_
  refine gg_ob (fun S1 h17 hO => ?_)
  have hS := (hO 12 (by decide)).trans hS
  have h13 := (hO 13 (by decide)).trans h13
  have h14 := (hO 14 (by decide)).trans h14
  have h15 := (hO 15 (by decide)).trans h15
  have h16 := (hO 16 (by decide)).trans h16
  have hr : ∀ g, g < 10 → S1 (20 + g) = _ := fun g hg => (hO (20 + g) (by omega)).trans (hr g hg)
  have hf : Fr 12 30 S S1 := fun z hz => (hO z (by omega)).trans (hf z hz)
  exact gg_return dX1_init_48 rfl ⟨(Nat.le_of_ble_eq_true rfl), (Nat.le_of_ble_eq_true rfl)⟩ (⟨rfl, ⟨hS, h13, hr, h14, h15, h16, h17⟩, hf⟩)
theorem sp_X3_init {S : gl_H} (hS : S 3 = some (.inr (3, [.null, .int 0]))) (hN : S 4 = none) : Sp mX3_init yX3_init [.ref 3] S (fun r S1 => r = none ∧ PT S1 (fun _ => 0) 0 ∧ Fr 3 5 S S1) := by
  refine gl_enter (j := 0) (by decide +kernel) rfl (fun _ => rfl) (Nat.le_of_ble_eq_true rfl) rfl (fun x => ?_)
  have hf : Fr 3 5 S S := Fr.rf
  refine gg_aload_n dX3_init_0 rfl rfl ?_
  refine gg_objInit dX3_init_1 kw_X3_3 (Nat.le_of_ble_eq_true rfl) (Nat.le_of_ble_eq_true rfl) ?_
  refine gg_aload_n dX3_init_4 rfl rfl ?_
  refine gg_bipush (v := 60) dX3_init_5 (by decide) ?_
  refine gg_new_byte 60 4 dX3_init_7 (by decide) (by decide) (by decide) hN (by decide) ⟨(Nat.le_of_ble_eq_true rfl), (Nat.le_of_ble_eq_true rfl)⟩ ?_
  refine gg_k (k2 := (1, 60)) rfl ?_
  refine gg_ob (fun S1 h4 hO => ?_)
  have hS := (hO 3 (by decide)).trans hS
  have hf : Fr 3 5 S S1 := fun z hz => (hO z (by omega)).trans (hf z hz)
  clear hO
  refine pf_X3_11 rfl rfl dX3_init_9 hS (Nat.le_of_ble_eq_true rfl) (gl_some h4) ?_
  refine gg_ob (fun S1 hS hO => ?_)
  have h4 := (hO 4 (by decide)).trans h4
  have hf : Fr 3 5 S S1 := fun z hz => (hO z (by omega)).trans (hf z hz)
  exact gg_return dX3_init_12 rfl ⟨(Nat.le_of_ble_eq_true rfl), (Nat.le_of_ble_eq_true rfl)⟩ (⟨rfl, ⟨hS, h4⟩, hf⟩)
theorem sp_X2_init {S : gl_H} (hS : S 5 = some (.inr (2, [.null, .null, .int 0]))) (hN6 : S 6 = none) (hN7 : S 7 = none) : Sp mX2_init yX2_init [.ref 5] S (fun r S1 => r = none ∧ PB S1 (va_cpy gl_AT (fun _ => 0) 0 0 7) (fun _ => 0) 0 ∧ Fr 5 8 S S1) := by
  refine gl_enter (j := 0) (by decide +kernel) rfl (fun _ => rfl) (Nat.le_of_ble_eq_true rfl) rfl (fun x => ?_)
  have hf : Fr 5 8 S S := Fr.rf
  refine gg_aload_n dX2_init_0 rfl rfl ?_
  refine gg_objInit dX2_init_1 kw_X2_3 (Nat.le_of_ble_eq_true rfl) (Nat.le_of_ble_eq_true rfl) ?_
  refine gg_aload_n dX2_init_4 rfl rfl ?_
  refine gg_bipush (v := 7) dX2_init_5 (by decide) ?_
  refine gg_new_int 7 6 dX2_init_7 (by decide) (by decide) (by decide) hN6 (by decide) ⟨(Nat.le_of_ble_eq_true rfl), (Nat.le_of_ble_eq_true rfl)⟩ ?_
  refine gg_k (k2 := (1, 7)) rfl ?_
  refine gg_ob (fun S1 h6 hO => ?_)
  have hS := (hO 5 (by decide)).trans hS
  have hN7 := (hO 7 (by decide)).trans hN7
  have hf : Fr 5 8 S S1 := fun z hz => (hO z (by omega)).trans (hf z hz)
  clear hO
  refine pf_X2_11 rfl rfl dX2_init_9 hS (Nat.le_of_ble_eq_true rfl) (gl_some h6) ?_
  refine gg_ob (fun S1 hS hO => ?_)
  have h6 := (hO 6 (by decide)).trans h6
  have hN7 := (hO 7 (by decide)).trans hN7
  have hf : Fr 5 8 S S1 := fun z hz => (hO z (by omega)).trans (hf z hz)
  clear hO
  refine gg_aload_n dX2_init_12 rfl rfl ?_
  refine gg_bipush (v := 7) dX2_init_13 (by decide) ?_
  refine gg_new_int 7 7 dX2_init_15 (by decide) (by decide) (by decide) hN7 (by decide) ⟨(Nat.le_of_ble_eq_true rfl), (Nat.le_of_ble_eq_true rfl)⟩ ?_
  refine gg_k (k2 := (2, 14)) rfl ?_
  refine gg_ob (fun S1 h7 hO => ?_)
  have hS := (hO 5 (by decide)).trans hS
  have h6 := (hO 6 (by decide)).trans h6
  have hf : Fr 5 8 S S1 := fun z hz => (hO z (by omega)).trans (hf z hz)
  clear hO
  refine pf_X2_15 rfl rfl dX2_init_17 hS (Nat.le_of_ble_eq_true rfl) (gl_some h7) ?_
  refine gg_ob (fun S1 hS hO => ?_)
  have h6 := (hO 6 (by decide)).trans h6
  have h7 := (hO 7 (by decide)).trans h7
  have hf : Fr 5 8 S S1 := fun z hz => (hO z (by omega)).trans (hf z hz)
  clear hO
  refine gg_getst 1000000 dX2_init_20 lks_18 (by decide) (fun _ _ _ _ h => h.1.1) ?_
  refine gg_iconst (v := 0) dX2_init_23 (by decide) ?_
  refine gg_aload_n dX2_init_24 rfl rfl ?_
  refine gf_X2_11 rfl dX2_init_25 hS rfl ?_
  refine gg_iconst (v := 0) dX2_init_28 (by decide) ?_
  refine gg_bipush (v := 7) dX2_init_29 (by decide) ?_
  refine gg_copyx 1000000 (by decide) (fun _ _ _ _ h => h.1.2) dX2_init_31 kw_X2_21 h6 (by decide) (Nat.le_of_ble_eq_true rfl) (Nat.le_of_ble_eq_true rfl) ?_
  refine gg_ob (fun S1 h6 hO => ?_)
  have hS := (hO 5 (by decide)).trans hS
  have h7 := (hO 7 (by decide)).trans h7
  have hf : Fr 5 8 S S1 := fun z hz => (hO z (by omega)).trans (hf z hz)
  clear hO
  exact gg_return dX2_init_34 rfl ⟨(Nat.le_of_ble_eq_true rfl), (Nat.le_of_ble_eq_true rfl)⟩ (⟨rfl, ⟨hS, h6, h7⟩, hf⟩)
theorem sp_X5_init {S : gl_H} (hS : S 8 = some (.inr (5, [.null, .null, .null, .int 0, .int 0]))) (hN : ∀ q, 9 ≤ q → q < 12 → S q = none) : Sp mX5_init yX5_init [.ref 8] S (fun r S1 => r = none ∧ PV S1 (fun _ => 0) (fun _ => 0) (fun _ => 0) 0 0 ∧ Fr 8 12 S S1) := by
  refine gl_enter (j := 0) (by decide +kernel) rfl (fun _ => rfl) (Nat.le_of_ble_eq_true rfl) rfl (fun x => ?_)
  have hf : Fr 8 12 S S := Fr.rf
  refine gg_aload_n dX5_init_0 rfl rfl ?_
  refine gg_objInit dX5_init_1 kw_X5_3 (Nat.le_of_ble_eq_true rfl) (Nat.le_of_ble_eq_true rfl) ?_
  refine gg_aload_n dX5_init_4 rfl rfl ?_
  refine gg_sipush (v := 400) dX5_init_5 (by decide) ?_
  refine gg_new_byte 400 9 dX5_init_8 (by decide) (by decide) (by decide) (hN 9 (by decide) (by decide)) (by decide) ⟨(Nat.le_of_ble_eq_true rfl), (Nat.le_of_ble_eq_true rfl)⟩ ?_
  refine gg_k (k2 := (1, 400)) rfl ?_
  refine gg_ob (fun S1 h9 hO => ?_)
  have hS := (hO 8 (by decide)).trans hS
  have hN : ∀ q, 10 ≤ q → q < 12 → S1 q = none := fun q q1 q2 => (hO q (by omega)).trans (hN q (by omega) (by omega))
  have hf : Fr 8 12 S S1 := fun z hz => (hO z (by omega)).trans (hf z hz)
  clear hO
  refine pf_X5_11 rfl rfl dX5_init_10 hS (Nat.le_of_ble_eq_true rfl) (gl_some h9) ?_
  refine gg_ob (fun S1 hS hO => ?_)
  have h9 := (hO 9 (by decide)).trans h9
  have hN : ∀ q, 10 ≤ q → q < 12 → S1 q = none := fun q q1 q2 => (hO q (by omega)).trans (hN q (by omega) (by omega))
  have hf : Fr 8 12 S S1 := fun z hz => (hO z (by omega)).trans (hf z hz)
  clear hO
  refine gg_aload_n dX5_init_13 rfl rfl ?_
  refine gg_sipush (v := 400) dX5_init_14 (by decide) ?_
  refine gg_new_byte 400 10 dX5_init_17 (by decide) (by decide) (by decide) (hN 10 (by decide) (by decide)) (by decide) ⟨(Nat.le_of_ble_eq_true rfl), (Nat.le_of_ble_eq_true rfl)⟩ ?_
  refine gg_k (k2 := (2, 800)) rfl ?_
  refine gg_ob (fun S1 h10 hO => ?_)
  have hS := (hO 8 (by decide)).trans hS
  have h9 := (hO 9 (by decide)).trans h9
  have hN : ∀ q, 11 ≤ q → q < 12 → S1 q = none := fun q q1 q2 => (hO q (by omega)).trans (hN q (by omega) (by omega))
  have hf : Fr 8 12 S S1 := fun z hz => (hO z (by omega)).trans (hf z hz)
  clear hO
  refine pf_X5_15 rfl rfl dX5_init_19 hS (Nat.le_of_ble_eq_true rfl) (gl_some h10) ?_
  refine gg_ob (fun S1 hS hO => ?_)
  have h9 := (hO 9 (by decide)).trans h9
  have h10 := (hO 10 (by decide)).trans h10
  have hN : ∀ q, 11 ≤ q → q < 12 → S1 q = none := fun q q1 q2 => (hO q (by omega)).trans (hN q (by omega) (by omega))
  have hf : Fr 8 12 S S1 := fun z hz => (hO z (by omega)).trans (hf z hz)
  clear hO
  refine gg_aload_n dX5_init_22 rfl rfl ?_
  refine gg_sipush (v := 400) dX5_init_23 (by decide) ?_
  refine gg_new_short 400 11 dX5_init_26 (by decide) (by decide) (by decide) (hN 11 (by decide) (by decide)) (by decide) ⟨(Nat.le_of_ble_eq_true rfl), (Nat.le_of_ble_eq_true rfl)⟩ ?_
  refine gg_k (k2 := (3, 1200)) rfl ?_
  refine gg_ob (fun S1 h11 hO => ?_)
  have hS := (hO 8 (by decide)).trans hS
  have h9 := (hO 9 (by decide)).trans h9
  have h10 := (hO 10 (by decide)).trans h10
  have hN : ∀ q, 12 ≤ q → q < 12 → S1 q = none := fun q q1 q2 => (hO q (by omega)).trans (hN q (by omega) (by omega))
  have hf : Fr 8 12 S S1 := fun z hz => (hO z (by omega)).trans (hf z hz)
  clear hO
  refine pf_X5_18 rfl rfl dX5_init_28 hS (Nat.le_of_ble_eq_true rfl) (gl_some h11) ?_
  refine gg_ob (fun S1 hS hO => ?_)
  have h9 := (hO 9 (by decide)).trans h9
  have h10 := (hO 10 (by decide)).trans h10
  have h11 := (hO 11 (by decide)).trans h11
  have hN : ∀ q, 12 ≤ q → q < 12 → S1 q = none := fun q q1 q2 => (hO q (by omega)).trans (hN q (by omega) (by omega))
  have hf : Fr 8 12 S S1 := fun z hz => (hO z (by omega)).trans (hf z hz)
  clear hO
  exact gg_return dX5_init_31 rfl ⟨(Nat.le_of_ble_eq_true rfl), (Nat.le_of_ble_eq_true rfl)⟩ (⟨rfl, ⟨hS, h9, h10, h11⟩, hf⟩)
def s00 : DS := ((0, 0, 0, 0), (fun _ _ => 0), (fun _ _ => 0), (fun _ => 0), (fun _ _ => 0), gl_AT, ((fun _ => 0), 0), ((fun _ => 0), (fun _ => 0), (fun _ => 0), 0))
theorem sp_X6_init {S : gl_H} (hS : S 0 = some (.inr (6, [.null, .null, .null, .null, .null, .null, .int 0, .int 0, .int 0]))) (hN : ∀ q, 1 ≤ q → (q < 70 ∨ 1000 ≤ q) → S q = none) : Sp mX6_init yX6_init [.ref 0] S (fun r S1 => r = none ∧ DP S1 s00 ∧ FrD S S1) := by
  refine gl_enter (j := 0) (by decide +kernel) rfl (fun _ => rfl) (Nat.le_of_ble_eq_true rfl) rfl (fun x => ?_)
  have hf : FrD S S := FrD.rf
  refine gg_aload_n dX6_init_0 rfl rfl ?_
  refine gg_objInit dX6_init_1 kw_X6_1 (Nat.le_of_ble_eq_true rfl) (Nat.le_of_ble_eq_true rfl) ?_
  refine gg_aload_n dX6_init_4 rfl rfl ?_
  refine gg_new (ci := 3) (fs := [.null, .int 0]) (ty := tyX3) (3) dX6_init_5 igX3 tyX3_ok nw_X6_7 rfl (by decide +kernel) (fun v hv r e => by subst e; simp at hv) (hN 3 (by omega) (by omega)) (by decide) ⟨(Nat.le_of_ble_eq_true rfl), (Nat.le_of_ble_eq_true rfl)⟩ ?_
  refine gg_k (k2 := (1, 2)) rfl ?_
  refine gg_ob (fun S1 hx hO => ?_)
  have hS := (hO 0 (by decide)).trans hS
  have hN : ∀ q, 1 ≤ q → q ≠ 3 → (q < 70 ∨ 1000 ≤ q) → S1 q = none := fun q q0 u3 q9 => (hO q (by omega)).trans (hN q (by omega) (by omega))
  have hf : FrD S S1 := fun z z1 z2 => (hO z (by omega)).trans (hf z z1 z2)
  clear hO
  refine gg_dup dX6_init_8 rfl ?_
  refine gg_callIN (host := RX6) (sp_X3_init hx (hN 4 (by omega) (by omega) (by omega))) dX6_init_9 (fun _ _ _ _ h => h.2.2.2.2.2.1) kw_X6_9 rfl rfl rfl rfl (Nat.le_of_ble_eq_true rfl) (Nat.le_of_ble_eq_true rfl) (Nat.le_of_ble_eq_true rfl) ⟨(Nat.le_of_ble_eq_true rfl), (Nat.le_of_ble_eq_true rfl)⟩ (fun r S1 hq => ?_)
  refine gg_k (k2 := (2, 62)) rfl ?_
  obtain ⟨rfl, hy, hF⟩ := hq
  have hS := (hF 0 (by omega)).trans hS
  have hN : ∀ q, 1 ≤ q → q ≠ 3 → q ≠ 4 → (q < 70 ∨ 1000 ≤ q) → S1 q = none := fun q q0 u3 u4 q9 => (hF q (by omega)).trans (hN q (by omega) (by omega) (by omega))
  have hf : FrD S S1 := fun z z1 z2 => (hF z (by omega)).trans (hf z z1 z2)
  clear hF
  have hT := hy
  refine pf_X6_10 rfl rfl dX6_init_12 hS (Nat.le_of_ble_eq_true rfl) (gl_some hT.1) ?_
  refine gg_ob (fun S1 hS hO => ?_)
  have hT : PT S1 (fun _ => 0) 0 := ⟨(hO 3 (by omega)).trans hT.1, (hO 4 (by omega)).trans hT.2⟩
  have hN : ∀ q, 1 ≤ q → q ≠ 3 → q ≠ 4 → (q < 70 ∨ 1000 ≤ q) → S1 q = none := fun q q0 u3 u4 q9 => (hO q (by omega)).trans (hN q (by omega) (by omega) (by omega) (by omega))
  have hf : FrD S S1 := fun z z1 z2 => (hO z (by omega)).trans (hf z z1 z2)
  clear hO
  refine gg_aload_n dX6_init_15 rfl rfl ?_
  refine gg_new (ci := 2) (fs := [.null, .null, .int 0]) (ty := tyX2) (5) dX6_init_16 igX2 tyX2_ok nw_X6_16 rfl (by decide +kernel) (fun v hv r e => by subst e; simp at hv) (hN 5 (by omega) (by omega) (by omega) (by omega)) (by decide) ⟨(Nat.le_of_ble_eq_true rfl), (Nat.le_of_ble_eq_true rfl)⟩ ?_
  refine gg_k (k2 := (3, 65)) rfl ?_
  refine gg_ob (fun S1 hx hO => ?_)
  have hS := (hO 0 (by decide)).trans hS
  have hT : PT S1 (fun _ => 0) 0 := ⟨(hO 3 (by omega)).trans hT.1, (hO 4 (by omega)).trans hT.2⟩
  have hN : ∀ q, 1 ≤ q → q ≠ 3 → q ≠ 4 → q ≠ 5 → (q < 70 ∨ 1000 ≤ q) → S1 q = none := fun q q0 u3 u4 u5 q9 => (hO q (by omega)).trans (hN q (by omega) (by omega) (by omega) (by omega))
  have hf : FrD S S1 := fun z z1 z2 => (hO z (by omega)).trans (hf z z1 z2)
  clear hO
  refine gg_dup dX6_init_19 rfl ?_
  refine gg_callI (sp_X2_init hx (hN 6 (by omega) (by omega) (by omega) (by omega) (by omega)) (hN 7 (by omega) (by omega) (by omega) (by omega) (by omega))) dX6_init_20 kw_X6_18 rfl rfl rfl rfl (Nat.le_of_ble_eq_true rfl) (Nat.le_of_ble_eq_true rfl) (Nat.le_of_ble_eq_true rfl) ⟨(Nat.le_of_ble_eq_true rfl), (Nat.le_of_ble_eq_true rfl)⟩ (fun r S1 hq => ?_)
  refine gg_k (k2 := (5, 79)) rfl ?_
  obtain ⟨rfl, hy, hF⟩ := hq
  have hS := (hF 0 (by omega)).trans hS
  have hT : PT S1 (fun _ => 0) 0 := ⟨(hF 3 (by omega)).trans hT.1, (hF 4 (by omega)).trans hT.2⟩
  have hN : ∀ q, 1 ≤ q → q ≠ 3 → q ≠ 4 → q ≠ 5 → q ≠ 6 → q ≠ 7 → (q < 70 ∨ 1000 ≤ q) → S1 q = none := fun q q0 u3 u4 u5 u6 u7 q9 => (hF q (by omega)).trans (hN q (by omega) (by omega) (by omega) (by omega) (by omega))
  have hf : FrD S S1 := fun z z1 z2 => (hF z (by omega)).trans (hf z z1 z2)
  clear hF
  have hB := hy
  refine pf_X6_19 rfl rfl dX6_init_23 hS (Nat.le_of_ble_eq_true rfl) (gl_some hB.1) ?_
  refine gg_ob (fun S1 hS hO => ?_)
  have hT : PT S1 (fun _ => 0) 0 := ⟨(hO 3 (by omega)).trans hT.1, (hO 4 (by omega)).trans hT.2⟩
  have hB : PB S1 (va_cpy gl_AT (fun _ => 0) 0 0 7) (fun _ => 0) 0 := ⟨(hO 5 (by omega)).trans hB.1, (hO 6 (by omega)).trans hB.2.1, (hO 7 (by omega)).trans hB.2.2⟩
  have hN : ∀ q, 1 ≤ q → q ≠ 3 → q ≠ 4 → q ≠ 5 → q ≠ 6 → q ≠ 7 → (q < 70 ∨ 1000 ≤ q) → S1 q = none := fun q q0 u3 u4 u5 u6 u7 q9 => (hO q (by omega)).trans (hN q (by omega) (by omega) (by omega) (by omega) (by omega) (by omega) (by omega))
  have hf : FrD S S1 := fun z z1 z2 => (hO z (by omega)).trans (hf z z1 z2)
  clear hO
  refine gg_aload_n dX6_init_26 rfl rfl ?_
  refine gg_bipush (v := 12) dX6_init_27 (by decide) ?_
  refine gg_newq (C := RX4) (n' := 12) 1 4 dX6_init_29 (fun _ => rfl) (fun _ _ _ _ h => h.2.2.2.2.1.1) nw_X6_23.1 (by decide) (by decide) (by decide) (hN 1 (by omega) (by omega) (by omega) (by omega) (by omega) (by omega) (by omega)) (by decide) ⟨(Nat.le_of_ble_eq_true rfl), (Nat.le_of_ble_eq_true rfl)⟩ ?_
  refine gg_k (k2 := (6, 91)) rfl ?_
  refine gg_ob (fun S1 h1 hO => ?_)
  have hS := (hO 0 (by decide)).trans hS
  have hT : PT S1 (fun _ => 0) 0 := ⟨(hO 3 (by omega)).trans hT.1, (hO 4 (by omega)).trans hT.2⟩
  have hB : PB S1 (va_cpy gl_AT (fun _ => 0) 0 0 7) (fun _ => 0) 0 := ⟨(hO 5 (by omega)).trans hB.1, (hO 6 (by omega)).trans hB.2.1, (hO 7 (by omega)).trans hB.2.2⟩
  have hN : ∀ q, 1 ≤ q → q ≠ 3 → q ≠ 4 → q ≠ 5 → q ≠ 6 → q ≠ 7 → q ≠ 1 → (q < 70 ∨ 1000 ≤ q) → S1 q = none := fun q q0 u3 u4 u5 u6 u7 u1 q9 => (hO q (by omega)).trans (hN q (by omega) (by omega) (by omega) (by omega) (by omega) (by omega) (by omega))
  have hf : FrD S S1 := fun z z1 z2 => (hO z (by omega)).trans (hf z z1 z2)
  clear hO
  refine pf_X6_25 rfl rfl dX6_init_32 hS (Nat.le_of_ble_eq_true rfl) (gl_some h1) ?_
  refine gg_ob (fun S1 hS hO => ?_)
  have hT : PT S1 (fun _ => 0) 0 := ⟨(hO 3 (by omega)).trans hT.1, (hO 4 (by omega)).trans hT.2⟩
  have hB : PB S1 (va_cpy gl_AT (fun _ => 0) 0 0 7) (fun _ => 0) 0 := ⟨(hO 5 (by omega)).trans hB.1, (hO 6 (by omega)).trans hB.2.1, (hO 7 (by omega)).trans hB.2.2⟩
  have h1 := (hO 1 (by omega)).trans h1
  have hN : ∀ q, 1 ≤ q → q ≠ 3 → q ≠ 4 → q ≠ 5 → q ≠ 6 → q ≠ 7 → q ≠ 1 → (q < 70 ∨ 1000 ≤ q) → S1 q = none := fun q q0 u3 u4 u5 u6 u7 u1 q9 => (hO q (by omega)).trans (hN q (by omega) (by omega) (by omega) (by omega) (by omega) (by omega) (by omega) (by omega))
  have hf : FrD S S1 := fun z z1 z2 => (hO z (by omega)).trans (hf z z1 z2)
  clear hO
  refine gg_aload_n dX6_init_35 rfl rfl ?_
  refine gg_bipush (v := 10) dX6_init_36 (by decide) ?_
  refine gg_newq (C := RX0) (n' := 10) 2 5 dX6_init_38 (fun _ => rfl) (fun _ _ _ _ h => h.2.2.2.2.1.2.1) nw_X6_29.1 (by decide) (by decide) (by decide) (hN 2 (by omega) (by omega) (by omega) (by omega) (by omega) (by omega) (by omega) (by omega)) (by decide) ⟨(Nat.le_of_ble_eq_true rfl), (Nat.le_of_ble_eq_true rfl)⟩ ?_
  refine gg_k (k2 := (7, 101)) rfl ?_
  refine gg_ob (fun S1 h2 hO => ?_)
  have hS := (hO 0 (by decide)).trans hS
  have hT : PT S1 (fun _ => 0) 0 := ⟨(hO 3 (by omega)).trans hT.1, (hO 4 (by omega)).trans hT.2⟩
  have hB : PB S1 (va_cpy gl_AT (fun _ => 0) 0 0 7) (fun _ => 0) 0 := ⟨(hO 5 (by omega)).trans hB.1, (hO 6 (by omega)).trans hB.2.1, (hO 7 (by omega)).trans hB.2.2⟩
  have h1 := (hO 1 (by omega)).trans h1
  have hN : ∀ q, 1 ≤ q → q ≠ 3 → q ≠ 4 → q ≠ 5 → q ≠ 6 → q ≠ 7 → q ≠ 1 → q ≠ 2 → (q < 70 ∨ 1000 ≤ q) → S1 q = none := fun q q0 u3 u4 u5 u6 u7 u1 u2 q9 => (hO q (by omega)).trans (hN q (by omega) (by omega) (by omega) (by omega) (by omega) (by omega) (by omega) (by omega))
  have hf : FrD S S1 := fun z z1 z2 => (hO z (by omega)).trans (hf z z1 z2)
  clear hO
  refine pf_X6_31 rfl rfl dX6_init_41 hS (Nat.le_of_ble_eq_true rfl) (gl_some h2) ?_
  refine gg_ob (fun S1 hS hO => ?_)
  have hT : PT S1 (fun _ => 0) 0 := ⟨(hO 3 (by omega)).trans hT.1, (hO 4 (by omega)).trans hT.2⟩
  have hB : PB S1 (va_cpy gl_AT (fun _ => 0) 0 0 7) (fun _ => 0) 0 := ⟨(hO 5 (by omega)).trans hB.1, (hO 6 (by omega)).trans hB.2.1, (hO 7 (by omega)).trans hB.2.2⟩
  have h1 := (hO 1 (by omega)).trans h1
  have h2 := (hO 2 (by omega)).trans h2
  have hN : ∀ q, 1 ≤ q → q ≠ 3 → q ≠ 4 → q ≠ 5 → q ≠ 6 → q ≠ 7 → q ≠ 1 → q ≠ 2 → (q < 70 ∨ 1000 ≤ q) → S1 q = none := fun q q0 u3 u4 u5 u6 u7 u1 u2 q9 => (hO q (by omega)).trans (hN q (by omega) (by omega) (by omega) (by omega) (by omega) (by omega) (by omega) (by omega) (by omega))
  have hf : FrD S S1 := fun z z1 z2 => (hO z (by omega)).trans (hf z z1 z2)
  clear hO
  refine gg_aload_n dX6_init_44 rfl rfl ?_
  refine gg_new (ci := 5) (fs := [.null, .null, .null, .int 0, .int 0]) (ty := tyX5) (8) dX6_init_45 igX5 tyX5_ok nw_X6_35 rfl (by decide +kernel) (fun v hv r e => by subst e; simp at hv) (hN 8 (by omega) (by omega) (by omega) (by omega) (by omega) (by omega) (by omega) (by omega) (by omega)) (by decide) ⟨(Nat.le_of_ble_eq_true rfl), (Nat.le_of_ble_eq_true rfl)⟩ ?_
  refine gg_k (k2 := (8, 106)) rfl ?_
  refine gg_ob (fun S1 hx hO => ?_)
  have hS := (hO 0 (by decide)).trans hS
  have hT : PT S1 (fun _ => 0) 0 := ⟨(hO 3 (by omega)).trans hT.1, (hO 4 (by omega)).trans hT.2⟩
  have hB : PB S1 (va_cpy gl_AT (fun _ => 0) 0 0 7) (fun _ => 0) 0 := ⟨(hO 5 (by omega)).trans hB.1, (hO 6 (by omega)).trans hB.2.1, (hO 7 (by omega)).trans hB.2.2⟩
  have h1 := (hO 1 (by omega)).trans h1
  have h2 := (hO 2 (by omega)).trans h2
  have hN : ∀ q, 1 ≤ q → q ≠ 3 → q ≠ 4 → q ≠ 5 → q ≠ 6 → q ≠ 7 → q ≠ 1 → q ≠ 2 → q ≠ 8 → (q < 70 ∨ 1000 ≤ q) → S1 q = none := fun q q0 u3 u4 u5 u6 u7 u1 u2 u8 q9 => (hO q (by omega)).trans (hN q (by omega) (by omega) (by omega) (by omega) (by omega) (by omega) (by omega) (by omega) (by omega))
  have hf : FrD S S1 := fun z z1 z2 => (hO z (by omega)).trans (hf z z1 z2)
  clear hO
  refine gg_dup dX6_init_48 rfl ?_
  refine gg_callIN (host := RX6) (sp_X5_init hx (fun q q1 q2 => hN q (by omega) (by omega) (by omega) (by omega) (by omega) (by omega) (by omega) (by omega) (by omega) (by omega))) dX6_init_49 (fun _ _ _ _ h => h.2.2.2.2.2.2.1) kw_X6_37 rfl rfl rfl rfl (Nat.le_of_ble_eq_true rfl) (Nat.le_of_ble_eq_true rfl) (Nat.le_of_ble_eq_true rfl) ⟨(Nat.le_of_ble_eq_true rfl), (Nat.le_of_ble_eq_true rfl)⟩ (fun r S1 hq => ?_)
  refine gg_k (k2 := (11, 1306)) rfl ?_
  obtain ⟨rfl, hy, hF⟩ := hq
  have hS := (hF 0 (by omega)).trans hS
  have hT : PT S1 (fun _ => 0) 0 := ⟨(hF 3 (by omega)).trans hT.1, (hF 4 (by omega)).trans hT.2⟩
  have hB : PB S1 (va_cpy gl_AT (fun _ => 0) 0 0 7) (fun _ => 0) 0 := ⟨(hF 5 (by omega)).trans hB.1, (hF 6 (by omega)).trans hB.2.1, (hF 7 (by omega)).trans hB.2.2⟩
  have h1 := (hF 1 (by omega)).trans h1
  have h2 := (hF 2 (by omega)).trans h2
  have hN : ∀ q, 1 ≤ q → q ≠ 3 → q ≠ 4 → q ≠ 5 → q ≠ 6 → q ≠ 7 → q ≠ 1 → q ≠ 2 → q ≠ 8 → q ≠ 9 → q ≠ 10 → q ≠ 11 → (q < 70 ∨ 1000 ≤ q) → S1 q = none := fun q q0 u3 u4 u5 u6 u7 u1 u2 u8 u9 u10 u11 q9 => (hF q (by omega)).trans (hN q (by omega) (by omega) (by omega) (by omega) (by omega) (by omega) (by omega) (by omega) (by omega) (by omega))
  have hf : FrD S S1 := fun z z1 z2 => (hF z (by omega)).trans (hf z z1 z2)
  clear hF
  have hV := hy
  refine pf_X6_38 rfl rfl dX6_init_52 hS (Nat.le_of_ble_eq_true rfl) (gl_some hV.1) ?_
  refine gg_ob (fun S1 hS hO => ?_)
  have hT : PT S1 (fun _ => 0) 0 := ⟨(hO 3 (by omega)).trans hT.1, (hO 4 (by omega)).trans hT.2⟩
  have hB : PB S1 (va_cpy gl_AT (fun _ => 0) 0 0 7) (fun _ => 0) 0 := ⟨(hO 5 (by omega)).trans hB.1, (hO 6 (by omega)).trans hB.2.1, (hO 7 (by omega)).trans hB.2.2⟩
  have h1 := (hO 1 (by omega)).trans h1
  have h2 := (hO 2 (by omega)).trans h2
  have hV : PV S1 (fun _ => 0) (fun _ => 0) (fun _ => 0) 0 0 := ⟨(hO 8 (by omega)).trans hV.1, (hO 9 (by omega)).trans hV.2.1, (hO 10 (by omega)).trans hV.2.2.1, (hO 11 (by omega)).trans hV.2.2.2⟩
  have hN : ∀ q, 1 ≤ q → q ≠ 3 → q ≠ 4 → q ≠ 5 → q ≠ 6 → q ≠ 7 → q ≠ 1 → q ≠ 2 → q ≠ 8 → q ≠ 9 → q ≠ 10 → q ≠ 11 → (q < 70 ∨ 1000 ≤ q) → S1 q = none := fun q q0 u3 u4 u5 u6 u7 u1 u2 u8 u9 u10 u11 q9 => (hO q (by omega)).trans (hN q (by omega) (by omega) (by omega) (by omega) (by omega) (by omega) (by omega) (by omega) (by omega) (by omega) (by omega) (by omega) (by omega))
  have hf : FrD S S1 := fun z z1 z2 => (hO z (by omega)).trans (hf z z1 z2)
  clear hO
  refine gg_aload_n dX6_init_55 rfl rfl ?_
  refine gg_new (ci := 1) (fs := [.null, .null, .int 0, .null, .int 0, .null, .null]) (ty := tyX1) (12) dX6_init_56 igX1 tyX1_ok nw_X6_42 rfl (by decide +kernel) (fun v hv r e => by subst e; simp at hv) (hN 12 (by omega) (by omega) (by omega) (by omega) (by omega) (by omega) (by omega) (by omega) (by omega) (by omega) (by omega) (by omega) (by omega)) (by decide) ⟨(Nat.le_of_ble_eq_true rfl), (Nat.le_of_ble_eq_true rfl)⟩ ?_
  refine gg_k (k2 := (12, 1313)) rfl ?_
  refine gg_ob (fun S1 hx hO => ?_)
  have hS := (hO 0 (by decide)).trans hS
  have hT : PT S1 (fun _ => 0) 0 := ⟨(hO 3 (by omega)).trans hT.1, (hO 4 (by omega)).trans hT.2⟩
  have hB : PB S1 (va_cpy gl_AT (fun _ => 0) 0 0 7) (fun _ => 0) 0 := ⟨(hO 5 (by omega)).trans hB.1, (hO 6 (by omega)).trans hB.2.1, (hO 7 (by omega)).trans hB.2.2⟩
  have h1 := (hO 1 (by omega)).trans h1
  have h2 := (hO 2 (by omega)).trans h2
  have hV : PV S1 (fun _ => 0) (fun _ => 0) (fun _ => 0) 0 0 := ⟨(hO 8 (by omega)).trans hV.1, (hO 9 (by omega)).trans hV.2.1, (hO 10 (by omega)).trans hV.2.2.1, (hO 11 (by omega)).trans hV.2.2.2⟩
  have hN : ∀ q, 1 ≤ q → q ≠ 3 → q ≠ 4 → q ≠ 5 → q ≠ 6 → q ≠ 7 → q ≠ 1 → q ≠ 2 → q ≠ 8 → q ≠ 9 → q ≠ 10 → q ≠ 11 → q ≠ 12 → (q < 70 ∨ 1000 ≤ q) → S1 q = none := fun q q0 u3 u4 u5 u6 u7 u1 u2 u8 u9 u10 u11 u12 q9 => (hO q (by omega)).trans (hN q (by omega) (by omega) (by omega) (by omega) (by omega) (by omega) (by omega) (by omega) (by omega) (by omega) (by omega) (by omega) (by omega))
  have hf : FrD S S1 := fun z z1 z2 => (hO z (by omega)).trans (hf z z1 z2)
  clear hO
  refine gg_dup dX6_init_59 rfl ?_
  refine gg_callIN (host := RX6) (sp_X1_init hx (fun q q1 q2 => hN q (by omega) (by omega) (by omega) (by omega) (by omega) (by omega) (by omega) (by omega) (by omega) (by omega) (by omega) (by omega) (by omega) (by omega))) dX6_init_60 (fun _ _ _ _ h => h.2.2.2.2.2.2.2.1) kw_X6_44 rfl rfl rfl rfl (Nat.le_of_ble_eq_true rfl) (Nat.le_of_ble_eq_true rfl) (Nat.le_of_ble_eq_true rfl) ⟨(Nat.le_of_ble_eq_true rfl), (Nat.le_of_ble_eq_true rfl)⟩ (fun r S1 hq => ?_)
  refine gg_k (k2 := (27, 1493)) rfl ?_
  obtain ⟨rfl, hy, hF⟩ := hq
  have hS := (hF 0 (by omega)).trans hS
  have hT : PT S1 (fun _ => 0) 0 := ⟨(hF 3 (by omega)).trans hT.1, (hF 4 (by omega)).trans hT.2⟩
  have hB : PB S1 (va_cpy gl_AT (fun _ => 0) 0 0 7) (fun _ => 0) 0 := ⟨(hF 5 (by omega)).trans hB.1, (hF 6 (by omega)).trans hB.2.1, (hF 7 (by omega)).trans hB.2.2⟩
  have h1 := (hF 1 (by omega)).trans h1
  have h2 := (hF 2 (by omega)).trans h2
  have hV : PV S1 (fun _ => 0) (fun _ => 0) (fun _ => 0) 0 0 := ⟨(hF 8 (by omega)).trans hV.1, (hF 9 (by omega)).trans hV.2.1, (hF 10 (by omega)).trans hV.2.2.1, (hF 11 (by omega)).trans hV.2.2.2⟩
  have hN : ∀ q, 1 ≤ q → q ≠ 3 → q ≠ 4 → q ≠ 5 → q ≠ 6 → q ≠ 7 → q ≠ 1 → q ≠ 2 → q ≠ 8 → q ≠ 9 → q ≠ 10 → q ≠ 11 → q ≠ 12 → q ≠ 13 → q ≠ 14 → q ≠ 15 → q ≠ 16 → q ≠ 17 → q ≠ 18 → q ≠ 19 → q ≠ 20 → q ≠ 21 → q ≠ 22 → q ≠ 23 → q ≠ 24 → q ≠ 25 → q ≠ 26 → q ≠ 27 → q ≠ 28 → q ≠ 29 → (q < 70 ∨ 1000 ≤ q) → S1 q = none := fun q q0 u3 u4 u5 u6 u7 u1 u2 u8 u9 u10 u11 u12 u13 u14 u15 u16 u17 u18 u19 u20 u21 u22 u23 u24 u25 u26 u27 u28 u29 q9 => (hF q (by omega)).trans (hN q (by omega) (by omega) (by omega) (by omega) (by omega) (by omega) (by omega) (by omega) (by omega) (by omega) (by omega) (by omega) (by omega) (by omega))
  have hf : FrD S S1 := fun z z1 z2 => (hF z (by omega)).trans (hf z z1 z2)
  clear hF
  have hp := hy
  refine pf_X6_45 rfl rfl dX6_init_63 hS (Nat.le_of_ble_eq_true rfl) (gl_some hp.1) ?_
  refine gg_ob (fun S1 hS hO => ?_)
  have hT : PT S1 (fun _ => 0) 0 := ⟨(hO 3 (by omega)).trans hT.1, (hO 4 (by omega)).trans hT.2⟩
  have hB : PB S1 (va_cpy gl_AT (fun _ => 0) 0 0 7) (fun _ => 0) 0 := ⟨(hO 5 (by omega)).trans hB.1, (hO 6 (by omega)).trans hB.2.1, (hO 7 (by omega)).trans hB.2.2⟩
  have h1 := (hO 1 (by omega)).trans h1
  have h2 := (hO 2 (by omega)).trans h2
  have hV : PV S1 (fun _ => 0) (fun _ => 0) (fun _ => 0) 0 0 := ⟨(hO 8 (by omega)).trans hV.1, (hO 9 (by omega)).trans hV.2.1, (hO 10 (by omega)).trans hV.2.2.1, (hO 11 (by omega)).trans hV.2.2.2⟩
  have hp : PM S1 0 0 (fun _ _ => 0) (fun _ => 0) (fun _ => 0) (fun _ => 0) lt0 := hp.keep (fun q q1 q2 => hO q (by omega))
  have hN : ∀ q, 1 ≤ q → q ≠ 3 → q ≠ 4 → q ≠ 5 → q ≠ 6 → q ≠ 7 → q ≠ 1 → q ≠ 2 → q ≠ 8 → q ≠ 9 → q ≠ 10 → q ≠ 11 → q ≠ 12 → q ≠ 13 → q ≠ 14 → q ≠ 15 → q ≠ 16 → q ≠ 17 → q ≠ 18 → q ≠ 19 → q ≠ 20 → q ≠ 21 → q ≠ 22 → q ≠ 23 → q ≠ 24 → q ≠ 25 → q ≠ 26 → q ≠ 27 → q ≠ 28 → q ≠ 29 → (q < 70 ∨ 1000 ≤ q) → S1 q = none := fun q q0 u3 u4 u5 u6 u7 u1 u2 u8 u9 u10 u11 u12 u13 u14 u15 u16 u17 u18 u19 u20 u21 u22 u23 u24 u25 u26 u27 u28 u29 q9 => (hO q (by omega)).trans (hN q (by omega) (by omega) (by omega) (by omega) (by omega) (by omega) (by omega) (by omega) (by omega) (by omega) (by omega) (by omega) (by omega) (by omega) (by omega) (by omega) (by omega) (by omega) (by omega) (by omega) (by omega) (by omega) (by omega) (by omega) (by omega) (by omega) (by omega) (by omega) (by omega) (by omega) (by omega))
  have hf : FrD S S1 := fun z z1 z2 => (hO z (by omega)).trans (hf z z1 z2)
  clear hO
  exact gg_return dX6_init_66 rfl ⟨(Nat.le_of_ble_eq_true rfl), (Nat.le_of_ble_eq_true rfl)⟩ (⟨rfl, ⟨⟨fun _ => none, hS, h1, h2, fun t ht => absurd ht (Nat.not_lt_zero t), fun g hg => absurd hg (Nat.not_lt_zero g), fun t t1 t2 => ⟨(hN (40 + 2 * t) (by omega) (by omega) (by omega) (by omega) (by omega) (by omega) (by omega) (by omega) (by omega) (by omega) (by omega) (by omega) (by omega) (by omega) (by omega) (by omega) (by omega) (by omega) (by omega) (by omega) (by omega) (by omega) (by omega) (by omega) (by omega) (by omega) (by omega) (by omega) (by omega) (by omega) (by omega)), (hN (40 + 2 * t + 1) (by omega) (by omega) (by omega) (by omega) (by omega) (by omega) (by omega) (by omega) (by omega) (by omega) (by omega) (by omega) (by omega) (by omega) (by omega) (by omega) (by omega) (by omega) (by omega) (by omega) (by omega) (by omega) (by omega) (by omega) (by omega) (by omega) (by omega) (by omega) (by omega) (by omega) (by omega))⟩, fun q q1 => (hN (q) (by omega) (by omega) (by omega) (by omega) (by omega) (by omega) (by omega) (by omega) (by omega) (by omega) (by omega) (by omega) (by omega) (by omega) (by omega) (by omega) (by omega) (by omega) (by omega) (by omega) (by omega) (by omega) (by omega) (by omega) (by omega) (by omega) (by omega) (by omega) (by omega) (by omega) (by omega))⟩, hT, ⟨_, _, _, fun j hj => by rw [pk_cpy_in (Nat.zero_le j) (by omega)]; show gl_AT _ = gl_AT j; congr 1; omega, hB⟩, ⟨0, by decide, rfl, hV⟩, ⟨0, 0, _, _, (fun _ => 0), _, (fun i => if i < 10 then some 0 else none), hp, fun i => Nat.zero_le 12, lt0_ok⟩⟩, hf⟩)
