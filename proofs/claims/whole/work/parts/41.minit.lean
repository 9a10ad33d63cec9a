/-! THE MODEL: its constructor -/
set_option maxRecDepth 20000 in
theorem km_78 : Cond.constant RX7 78 45056 ∈ gl_T := (gl_T_in (by decide +kernel) (by decide +kernel))
def iniC (i : Nat) : gl_C := if i = 0 then .inl (2, 60, .inl (fun _ => 0)) else if i = 13 then .inl (1, 12, .inr (.inl (fun _ => 0))) else .inl (0, mLen i, .inl (fun _ => 0))
theorem ini_s {S S1 : gl_H} {k : Nat} (hI : ∀ i, i < k → S (71 + i) = some (iniC i)) (hO : ∀ q, q ≠ 71 + k → S1 q = S q) (hx : S1 (71 + k) = some (iniC k)) : ∀ i, i < k + 1 → S1 (71 + i) = some (iniC i) := fun i hi => by
  by_cases c : i = k
  · subst c; exact hx
  · exact (hO (71 + i) (by omega)).trans (hI i (by omega))
def iniA : Nat → Nat → Int32 := fun i => if i = 1 then atF (fun _ => 0) else fun _ => 0
theorem ini_MP {S : gl_H} (hS : S 70 = some (.inr (7, [.ref 71, .int (0), .int (0), .int (0), .int (0), .int (0), .ref 72, .ref 73, .ref 74, .ref 75, .ref 76, .ref 77, .ref 78, .ref 79, .ref 80, .ref 81, .ref 82, .ref 83, .ref 84, .ref 85, .ref 86, .ref 87, .ref 88, .ref 89, .ref 90, .ref 91, .ref 92, .int (0), .ref 93, .ref 94, .int (0), .int (0)]))) (hI : ∀ i, i < 24 → i ≠ 1 → S (71 + i) = some (iniC i)) (h1 : S 72 = some (.inl (0, 7, .inl (atF (fun _ => 0))))) : MP S s00 := by
  refine ⟨iniA, fun _ => 0, 0, 0, 0, ⟨hS, hI 0 (by decide) (by decide), hI 13 (by decide) (by decide), fun i h0 h2 h3 => ?_⟩, ⟨rfl, fun j hj => atF_j _ j hj, fun t ht => absurd ht (Nat.not_lt_zero t), fun t ht => absurd ht (Nat.not_lt_zero t), fun t ht => absurd ht (Nat.not_lt_zero t), fun t _ _ => ⟨rfl, fun k hk h3 _ => ?_⟩, fun g hg => absurd hg (Nat.not_lt_zero g), rfl, rfl, rfl⟩, Or.inl rfl⟩
  · by_cases c : i = 1
    · subst c; exact h1
    · have h9 := hI i h0 c
      unfold iniC at h9
      rw [if_neg h2, if_neg h3] at h9
      rw [h9]
      unfold iniA
      rw [if_neg c]
  · have := tA_rng k hk
    unfold iniA
    rw [if_neg (by omega)]
theorem sp_X7_init {S : gl_H} (hS : S 70 = some (.inr (7, [.null, .int 0, .int 0, .int 0, .int 0, .int 0, .null, .null, .null, .null, .null, .null, .null, .null, .null, .null, .null, .null, .null, .null, .null, .null, .null, .null, .null, .null, .null, .int 0, .null, .null, .int 0, .int 0]))) (hN : ∀ q, 71 ≤ q → q < 95 → S q = none) : Sp mX7_init yX7_init [.ref 70] S (fun r S1 => r = none ∧ MP S1 s00 ∧ Fr 70 95 S S1) := by
  refine gl_enter (j := 0) (by decide +kernel) rfl (fun _ => rfl) (Nat.le_of_ble_eq_true rfl) rfl (fun x => ?_)
  have hf : Fr 70 95 S S := Fr.rf
  have hI : ∀ i, i < 0 → S (71 + i) = some (iniC i) := fun i hi => absurd hi (Nat.not_lt_zero i)
  refine gg_aload_n dX7_init_0 rfl rfl ?_
  refine gg_objInit dX7_init_1 kw_X7_1 (Nat.le_of_ble_eq_true rfl) (Nat.le_of_ble_eq_true rfl) ?_
  refine gg_aload_n dX7_init_4 rfl rfl ?_
  refine gg_bipush (v := 60) dX7_init_5 (by decide) ?_
  refine gg_new_byte 60 71 dX7_init_7 (by decide) (by decide) (by decide) (hN 71 (by decide) (by decide)) (by decide) ⟨(Nat.le_of_ble_eq_true rfl), (Nat.le_of_ble_eq_true rfl)⟩ ?_
  refine gg_k (k2 := (1, 60)) rfl ?_
  refine gg_ob (fun S1 hx hO => ?_)
  have hS := (hO 70 (by decide)).trans hS
  have hI : ∀ i, i < 1 → S1 (71 + i) = some (iniC i) := ini_s (k := 0) hI hO hx
  have hN : ∀ q, 72 ≤ q → q < 95 → S1 q = none := fun q q1 q2 => (hO q (by omega)).trans (hN q (by omega) q2)
  have hf : Fr 70 95 S S1 := fun z hz => (hO z (by omega)).trans (hf z hz)
  clear hO
  refine pf_X7_7 rfl rfl dX7_init_9 hS (Nat.le_of_ble_eq_true rfl) (gl_some hx) ?_
  refine gg_ob (fun S1 hS hO => ?_)
  have hI : ∀ i, i < 1 → S1 (71 + i) = some (iniC i) := fun i hi => (hO (71 + i) (by omega)).trans (hI i hi)
  have hN : ∀ q, 72 ≤ q → q < 95 → S1 q = none := fun q q1 q2 => (hO q (by omega)).trans (hN q q1 q2)
  have hf : Fr 70 95 S S1 := fun z hz => (hO z (by omega)).trans (hf z hz)
  clear hO hx
  refine gg_aload_n dX7_init_12 rfl rfl ?_
  refine gg_bipush (v := 7) dX7_init_13 (by decide) ?_
  refine gg_new_int 7 72 dX7_init_15 (by decide) (by decide) (by decide) (hN 72 (by decide) (by decide)) (by decide) ⟨(Nat.le_of_ble_eq_true rfl), (Nat.le_of_ble_eq_true rfl)⟩ ?_
  refine gg_k (k2 := (2, 67)) rfl ?_
  refine gg_ob (fun S1 hx hO => ?_)
  have hS := (hO 70 (by decide)).trans hS
  have hI : ∀ i, i < 2 → S1 (71 + i) = some (iniC i) := ini_s (k := 1) hI hO hx
  have hN : ∀ q, 73 ≤ q → q < 95 → S1 q = none := fun q q1 q2 => (hO q (by omega)).trans (hN q (by omega) q2)
  have hf : Fr 70 95 S S1 := fun z hz => (hO z (by omega)).trans (hf z hz)
  clear hO
  refine pf_X7_13 rfl rfl dX7_init_17 hS (Nat.le_of_ble_eq_true rfl) (gl_some hx) ?_
  refine gg_ob (fun S1 hS hO => ?_)
  have hI : ∀ i, i < 2 → S1 (71 + i) = some (iniC i) := fun i hi => (hO (71 + i) (by omega)).trans (hI i hi)
  have hN : ∀ q, 73 ≤ q → q < 95 → S1 q = none := fun q q1 q2 => (hO q (by omega)).trans (hN q q1 q2)
  have hf : Fr 70 95 S S1 := fun z hz => (hO z (by omega)).trans (hf z hz)
  clear hO hx
  refine gg_aload_n dX7_init_20 rfl rfl ?_
  refine gg_bipush (v := 7) dX7_init_21 (by decide) ?_
  refine gg_new_int 7 73 dX7_init_23 (by decide) (by decide) (by decide) (hN 73 (by decide) (by decide)) (by decide) ⟨(Nat.le_of_ble_eq_true rfl), (Nat.le_of_ble_eq_true rfl)⟩ ?_
  refine gg_k (k2 := (3, 74)) rfl ?_
  refine gg_ob (fun S1 hx hO => ?_)
  have hS := (hO 70 (by decide)).trans hS
  have hI : ∀ i, i < 3 → S1 (71 + i) = some (iniC i) := ini_s (k := 2) hI hO hx
  have hN : ∀ q, 74 ≤ q → q < 95 → S1 q = none := fun q q1 q2 => (hO q (by omega)).trans (hN q (by omega) q2)
  have hf : Fr 70 95 S S1 := fun z hz => (hO z (by omega)).trans (hf z hz)
  clear hO
  refine pf_X7_17 rfl rfl dX7_init_25 hS (Nat.le_of_ble_eq_true rfl) (gl_some hx) ?_
  refine gg_ob (fun S1 hS hO => ?_)
  have hI : ∀ i, i < 3 → S1 (71 + i) = some (iniC i) := fun i hi => (hO (71 + i) (by omega)).trans (hI i hi)
  have hN : ∀ q, 74 ≤ q → q < 95 → S1 q = none := fun q q1 q2 => (hO q (by omega)).trans (hN q q1 q2)
  have hf : Fr 70 95 S S1 := fun z hz => (hO z (by omega)).trans (hf z hz)
  clear hO hx
  refine gg_aload_n dX7_init_28 rfl rfl ?_
  refine gg_bipush (v := 12) dX7_init_29 (by decide) ?_
  refine gg_new_int 12 74 dX7_init_31 (by decide) (by decide) (by decide) (hN 74 (by decide) (by decide)) (by decide) ⟨(Nat.le_of_ble_eq_true rfl), (Nat.le_of_ble_eq_true rfl)⟩ ?_
  refine gg_k (k2 := (4, 86)) rfl ?_
  refine gg_ob (fun S1 hx hO => ?_)
  have hS := (hO 70 (by decide)).trans hS
  have hI : ∀ i, i < 4 → S1 (71 + i) = some (iniC i) := ini_s (k := 3) hI hO hx
  have hN : ∀ q, 75 ≤ q → q < 95 → S1 q = none := fun q q1 q2 => (hO q (by omega)).trans (hN q (by omega) q2)
  have hf : Fr 70 95 S S1 := fun z hz => (hO z (by omega)).trans (hf z hz)
  clear hO
  refine pf_X7_20 rfl rfl dX7_init_33 hS (Nat.le_of_ble_eq_true rfl) (gl_some hx) ?_
  refine gg_ob (fun S1 hS hO => ?_)
  have hI : ∀ i, i < 4 → S1 (71 + i) = some (iniC i) := fun i hi => (hO (71 + i) (by omega)).trans (hI i hi)
  have hN : ∀ q, 75 ≤ q → q < 95 → S1 q = none := fun q q1 q2 => (hO q (by omega)).trans (hN q q1 q2)
  have hf : Fr 70 95 S S1 := fun z hz => (hO z (by omega)).trans (hf z hz)
  clear hO hx
  refine gg_aload_n dX7_init_36 rfl rfl ?_
  refine gg_bipush (v := 12) dX7_init_37 (by decide) ?_
  refine gg_new_int 12 75 dX7_init_39 (by decide) (by decide) (by decide) (hN 75 (by decide) (by decide)) (by decide) ⟨(Nat.le_of_ble_eq_true rfl), (Nat.le_of_ble_eq_true rfl)⟩ ?_
  refine gg_k (k2 := (5, 98)) rfl ?_
  refine gg_ob (fun S1 hx hO => ?_)
  have hS := (hO 70 (by decide)).trans hS
  have hI : ∀ i, i < 5 → S1 (71 + i) = some (iniC i) := ini_s (k := 4) hI hO hx
  have hN : ∀ q, 76 ≤ q → q < 95 → S1 q = none := fun q q1 q2 => (hO q (by omega)).trans (hN q (by omega) q2)
  have hf : Fr 70 95 S S1 := fun z hz => (hO z (by omega)).trans (hf z hz)
  clear hO
  refine pf_X7_23 rfl rfl dX7_init_41 hS (Nat.le_of_ble_eq_true rfl) (gl_some hx) ?_
  refine gg_ob (fun S1 hS hO => ?_)
  have hI : ∀ i, i < 5 → S1 (71 + i) = some (iniC i) := fun i hi => (hO (71 + i) (by omega)).trans (hI i hi)
  have hN : ∀ q, 76 ≤ q → q < 95 → S1 q = none := fun q q1 q2 => (hO q (by omega)).trans (hN q q1 q2)
  have hf : Fr 70 95 S S1 := fun z hz => (hO z (by omega)).trans (hf z hz)
  clear hO hx
  refine gg_aload_n dX7_init_44 rfl rfl ?_
  refine gg_bipush (v := 12) dX7_init_45 (by decide) ?_
  refine gg_new_int 12 76 dX7_init_47 (by decide) (by decide) (by decide) (hN 76 (by decide) (by decide)) (by decide) ⟨(Nat.le_of_ble_eq_true rfl), (Nat.le_of_ble_eq_true rfl)⟩ ?_
  refine gg_k (k2 := (6, 110)) rfl ?_
  refine gg_ob (fun S1 hx hO => ?_)
  have hS := (hO 70 (by decide)).trans hS
  have hI : ∀ i, i < 6 → S1 (71 + i) = some (iniC i) := ini_s (k := 5) hI hO hx
  have hN : ∀ q, 77 ≤ q → q < 95 → S1 q = none := fun q q1 q2 => (hO q (by omega)).trans (hN q (by omega) q2)
  have hf : Fr 70 95 S S1 := fun z hz => (hO z (by omega)).trans (hf z hz)
  clear hO
  refine pf_X7_26 rfl rfl dX7_init_49 hS (Nat.le_of_ble_eq_true rfl) (gl_some hx) ?_
  refine gg_ob (fun S1 hS hO => ?_)
  have hI : ∀ i, i < 6 → S1 (71 + i) = some (iniC i) := fun i hi => (hO (71 + i) (by omega)).trans (hI i hi)
  have hN : ∀ q, 77 ≤ q → q < 95 → S1 q = none := fun q q1 q2 => (hO q (by omega)).trans (hN q q1 q2)
  have hf : Fr 70 95 S S1 := fun z hz => (hO z (by omega)).trans (hf z hz)
  clear hO hx
  refine gg_aload_n dX7_init_52 rfl rfl ?_
  refine gg_bipush (v := 72) dX7_init_53 (by decide) ?_
  refine gg_new_int 72 77 dX7_init_55 (by decide) (by decide) (by decide) (hN 77 (by decide) (by decide)) (by decide) ⟨(Nat.le_of_ble_eq_true rfl), (Nat.le_of_ble_eq_true rfl)⟩ ?_
  refine gg_k (k2 := (7, 182)) rfl ?_
  refine gg_ob (fun S1 hx hO => ?_)
  have hS := (hO 70 (by decide)).trans hS
  have hI : ∀ i, i < 7 → S1 (71 + i) = some (iniC i) := ini_s (k := 6) hI hO hx
  have hN : ∀ q, 78 ≤ q → q < 95 → S1 q = none := fun q q1 q2 => (hO q (by omega)).trans (hN q (by omega) q2)
  have hf : Fr 70 95 S S1 := fun z hz => (hO z (by omega)).trans (hf z hz)
  clear hO
  refine pf_X7_29 rfl rfl dX7_init_57 hS (Nat.le_of_ble_eq_true rfl) (gl_some hx) ?_
  refine gg_ob (fun S1 hS hO => ?_)
  have hI : ∀ i, i < 7 → S1 (71 + i) = some (iniC i) := fun i hi => (hO (71 + i) (by omega)).trans (hI i hi)
  have hN : ∀ q, 78 ≤ q → q < 95 → S1 q = none := fun q q1 q2 => (hO q (by omega)).trans (hN q q1 q2)
  have hf : Fr 70 95 S S1 := fun z hz => (hO z (by omega)).trans (hf z hz)
  clear hO hx
  refine gg_aload_n dX7_init_60 rfl rfl ?_
  refine gg_bipush (v := 12) dX7_init_61 (by decide) ?_
  refine gg_new_int 12 78 dX7_init_63 (by decide) (by decide) (by decide) (hN 78 (by decide) (by decide)) (by decide) ⟨(Nat.le_of_ble_eq_true rfl), (Nat.le_of_ble_eq_true rfl)⟩ ?_
  refine gg_k (k2 := (8, 194)) rfl ?_
  refine gg_ob (fun S1 hx hO => ?_)
  have hS := (hO 70 (by decide)).trans hS
  have hI : ∀ i, i < 8 → S1 (71 + i) = some (iniC i) := ini_s (k := 7) hI hO hx
  have hN : ∀ q, 79 ≤ q → q < 95 → S1 q = none := fun q q1 q2 => (hO q (by omega)).trans (hN q (by omega) q2)
  have hf : Fr 70 95 S S1 := fun z hz => (hO z (by omega)).trans (hf z hz)
  clear hO
  refine pf_X7_32 rfl rfl dX7_init_65 hS (Nat.le_of_ble_eq_true rfl) (gl_some hx) ?_
  refine gg_ob (fun S1 hS hO => ?_)
  have hI : ∀ i, i < 8 → S1 (71 + i) = some (iniC i) := fun i hi => (hO (71 + i) (by omega)).trans (hI i hi)
  have hN : ∀ q, 79 ≤ q → q < 95 → S1 q = none := fun q q1 q2 => (hO q (by omega)).trans (hN q q1 q2)
  have hf : Fr 70 95 S S1 := fun z hz => (hO z (by omega)).trans (hf z hz)
  clear hO hx
  refine gg_aload_n dX7_init_68 rfl rfl ?_
  refine gg_bipush (v := 12) dX7_init_69 (by decide) ?_
  refine gg_new_int 12 79 dX7_init_71 (by decide) (by decide) (by decide) (hN 79 (by decide) (by decide)) (by decide) ⟨(Nat.le_of_ble_eq_true rfl), (Nat.le_of_ble_eq_true rfl)⟩ ?_
  refine gg_k (k2 := (9, 206)) rfl ?_
  refine gg_ob (fun S1 hx hO => ?_)
  have hS := (hO 70 (by decide)).trans hS
  have hI : ∀ i, i < 9 → S1 (71 + i) = some (iniC i) := ini_s (k := 8) hI hO hx
  have hN : ∀ q, 80 ≤ q → q < 95 → S1 q = none := fun q q1 q2 => (hO q (by omega)).trans (hN q (by omega) q2)
  have hf : Fr 70 95 S S1 := fun z hz => (hO z (by omega)).trans (hf z hz)
  clear hO
  refine pf_X7_35 rfl rfl dX7_init_73 hS (Nat.le_of_ble_eq_true rfl) (gl_some hx) ?_
  refine gg_ob (fun S1 hS hO => ?_)
  have hI : ∀ i, i < 9 → S1 (71 + i) = some (iniC i) := fun i hi => (hO (71 + i) (by omega)).trans (hI i hi)
  have hN : ∀ q, 80 ≤ q → q < 95 → S1 q = none := fun q q1 q2 => (hO q (by omega)).trans (hN q q1 q2)
  have hf : Fr 70 95 S S1 := fun z hz => (hO z (by omega)).trans (hf z hz)
  clear hO hx
  refine gg_aload_n dX7_init_76 rfl rfl ?_
  refine gg_bipush (v := 12) dX7_init_77 (by decide) ?_
  refine gg_new_int 12 80 dX7_init_79 (by decide) (by decide) (by decide) (hN 80 (by decide) (by decide)) (by decide) ⟨(Nat.le_of_ble_eq_true rfl), (Nat.le_of_ble_eq_true rfl)⟩ ?_
  refine gg_k (k2 := (10, 218)) rfl ?_
  refine gg_ob (fun S1 hx hO => ?_)
  have hS := (hO 70 (by decide)).trans hS
  have hI : ∀ i, i < 10 → S1 (71 + i) = some (iniC i) := ini_s (k := 9) hI hO hx
  have hN : ∀ q, 81 ≤ q → q < 95 → S1 q = none := fun q q1 q2 => (hO q (by omega)).trans (hN q (by omega) q2)
  have hf : Fr 70 95 S S1 := fun z hz => (hO z (by omega)).trans (hf z hz)
  clear hO
  refine pf_X7_38 rfl rfl dX7_init_81 hS (Nat.le_of_ble_eq_true rfl) (gl_some hx) ?_
  refine gg_ob (fun S1 hS hO => ?_)
  have hI : ∀ i, i < 10 → S1 (71 + i) = some (iniC i) := fun i hi => (hO (71 + i) (by omega)).trans (hI i hi)
  have hN : ∀ q, 81 ≤ q → q < 95 → S1 q = none := fun q q1 q2 => (hO q (by omega)).trans (hN q q1 q2)
  have hf : Fr 70 95 S S1 := fun z hz => (hO z (by omega)).trans (hf z hz)
  clear hO hx
  refine gg_aload_n dX7_init_84 rfl rfl ?_
  refine gg_bipush (v := 12) dX7_init_85 (by decide) ?_
  refine gg_new_int 12 81 dX7_init_87 (by decide) (by decide) (by decide) (hN 81 (by decide) (by decide)) (by decide) ⟨(Nat.le_of_ble_eq_true rfl), (Nat.le_of_ble_eq_true rfl)⟩ ?_
  refine gg_k (k2 := (11, 230)) rfl ?_
  refine gg_ob (fun S1 hx hO => ?_)
  have hS := (hO 70 (by decide)).trans hS
  have hI : ∀ i, i < 11 → S1 (71 + i) = some (iniC i) := ini_s (k := 10) hI hO hx
  have hN : ∀ q, 82 ≤ q → q < 95 → S1 q = none := fun q q1 q2 => (hO q (by omega)).trans (hN q (by omega) q2)
  have hf : Fr 70 95 S S1 := fun z hz => (hO z (by omega)).trans (hf z hz)
  clear hO
  refine pf_X7_41 rfl rfl dX7_init_89 hS (Nat.le_of_ble_eq_true rfl) (gl_some hx) ?_
  refine gg_ob (fun S1 hS hO => ?_)
  have hI : ∀ i, i < 11 → S1 (71 + i) = some (iniC i) := fun i hi => (hO (71 + i) (by omega)).trans (hI i hi)
  have hN : ∀ q, 82 ≤ q → q < 95 → S1 q = none := fun q q1 q2 => (hO q (by omega)).trans (hN q q1 q2)
  have hf : Fr 70 95 S S1 := fun z hz => (hO z (by omega)).trans (hf z hz)
  clear hO hx
  refine gg_aload_n dX7_init_92 rfl rfl ?_
  refine gg_bipush (v := 12) dX7_init_93 (by decide) ?_
  refine gg_new_int 12 82 dX7_init_95 (by decide) (by decide) (by decide) (hN 82 (by decide) (by decide)) (by decide) ⟨(Nat.le_of_ble_eq_true rfl), (Nat.le_of_ble_eq_true rfl)⟩ ?_
  refine gg_k (k2 := (12, 242)) rfl ?_
  refine gg_ob (fun S1 hx hO => ?_)
  have hS := (hO 70 (by decide)).trans hS
  have hI : ∀ i, i < 12 → S1 (71 + i) = some (iniC i) := ini_s (k := 11) hI hO hx
  have hN : ∀ q, 83 ≤ q → q < 95 → S1 q = none := fun q q1 q2 => (hO q (by omega)).trans (hN q (by omega) q2)
  have hf : Fr 70 95 S S1 := fun z hz => (hO z (by omega)).trans (hf z hz)
  clear hO
  refine pf_X7_44 rfl rfl dX7_init_97 hS (Nat.le_of_ble_eq_true rfl) (gl_some hx) ?_
  refine gg_ob (fun S1 hS hO => ?_)
  have hI : ∀ i, i < 12 → S1 (71 + i) = some (iniC i) := fun i hi => (hO (71 + i) (by omega)).trans (hI i hi)
  have hN : ∀ q, 83 ≤ q → q < 95 → S1 q = none := fun q q1 q2 => (hO q (by omega)).trans (hN q q1 q2)
  have hf : Fr 70 95 S S1 := fun z hz => (hO z (by omega)).trans (hf z hz)
  clear hO hx
  refine gg_aload_n dX7_init_100 rfl rfl ?_
  refine gg_bipush (v := 12) dX7_init_101 (by decide) ?_
  refine gg_new_int 12 83 dX7_init_103 (by decide) (by decide) (by decide) (hN 83 (by decide) (by decide)) (by decide) ⟨(Nat.le_of_ble_eq_true rfl), (Nat.le_of_ble_eq_true rfl)⟩ ?_
  refine gg_k (k2 := (13, 254)) rfl ?_
  refine gg_ob (fun S1 hx hO => ?_)
  have hS := (hO 70 (by decide)).trans hS
  have hI : ∀ i, i < 13 → S1 (71 + i) = some (iniC i) := ini_s (k := 12) hI hO hx
  have hN : ∀ q, 84 ≤ q → q < 95 → S1 q = none := fun q q1 q2 => (hO q (by omega)).trans (hN q (by omega) q2)
  have hf : Fr 70 95 S S1 := fun z hz => (hO z (by omega)).trans (hf z hz)
  clear hO
  refine pf_X7_47 rfl rfl dX7_init_105 hS (Nat.le_of_ble_eq_true rfl) (gl_some hx) ?_
  refine gg_ob (fun S1 hS hO => ?_)
  have hI : ∀ i, i < 13 → S1 (71 + i) = some (iniC i) := fun i hi => (hO (71 + i) (by omega)).trans (hI i hi)
  have hN : ∀ q, 84 ≤ q → q < 95 → S1 q = none := fun q q1 q2 => (hO q (by omega)).trans (hN q q1 q2)
  have hf : Fr 70 95 S S1 := fun z hz => (hO z (by omega)).trans (hf z hz)
  clear hO hx
  refine gg_aload_n dX7_init_108 rfl rfl ?_
  refine gg_bipush (v := 12) dX7_init_109 (by decide) ?_
  refine gg_new_long 12 84 dX7_init_111 (by decide) (by decide) (by decide) (hN 84 (by decide) (by decide)) (by decide) ⟨(Nat.le_of_ble_eq_true rfl), (Nat.le_of_ble_eq_true rfl)⟩ ?_
  refine gg_k (k2 := (14, 266)) rfl ?_
  refine gg_ob (fun S1 hx hO => ?_)
  have hS := (hO 70 (by decide)).trans hS
  have hI : ∀ i, i < 14 → S1 (71 + i) = some (iniC i) := ini_s (k := 13) hI hO hx
  have hN : ∀ q, 85 ≤ q → q < 95 → S1 q = none := fun q q1 q2 => (hO q (by omega)).trans (hN q (by omega) q2)
  have hf : Fr 70 95 S S1 := fun z hz => (hO z (by omega)).trans (hf z hz)
  clear hO
  refine pf_X7_50 rfl rfl dX7_init_113 hS (Nat.le_of_ble_eq_true rfl) (gl_some hx) ?_
  refine gg_ob (fun S1 hS hO => ?_)
  have hI : ∀ i, i < 14 → S1 (71 + i) = some (iniC i) := fun i hi => (hO (71 + i) (by omega)).trans (hI i hi)
  have hN : ∀ q, 85 ≤ q → q < 95 → S1 q = none := fun q q1 q2 => (hO q (by omega)).trans (hN q q1 q2)
  have hf : Fr 70 95 S S1 := fun z hz => (hO z (by omega)).trans (hf z hz)
  clear hO hx
  refine gg_aload_n dX7_init_116 rfl rfl ?_
  refine gg_bipush (v := 10) dX7_init_117 (by decide) ?_
  refine gg_new_int 10 85 dX7_init_119 (by decide) (by decide) (by decide) (hN 85 (by decide) (by decide)) (by decide) ⟨(Nat.le_of_ble_eq_true rfl), (Nat.le_of_ble_eq_true rfl)⟩ ?_
  refine gg_k (k2 := (15, 276)) rfl ?_
  refine gg_ob (fun S1 hx hO => ?_)
  have hS := (hO 70 (by decide)).trans hS
  have hI : ∀ i, i < 15 → S1 (71 + i) = some (iniC i) := ini_s (k := 14) hI hO hx
  have hN : ∀ q, 86 ≤ q → q < 95 → S1 q = none := fun q q1 q2 => (hO q (by omega)).trans (hN q (by omega) q2)
  have hf : Fr 70 95 S S1 := fun z hz => (hO z (by omega)).trans (hf z hz)
  clear hO
  refine pf_X7_54 rfl rfl dX7_init_121 hS (Nat.le_of_ble_eq_true rfl) (gl_some hx) ?_
  refine gg_ob (fun S1 hS hO => ?_)
  have hI : ∀ i, i < 15 → S1 (71 + i) = some (iniC i) := fun i hi => (hO (71 + i) (by omega)).trans (hI i hi)
  have hN : ∀ q, 86 ≤ q → q < 95 → S1 q = none := fun q q1 q2 => (hO q (by omega)).trans (hN q q1 q2)
  have hf : Fr 70 95 S S1 := fun z hz => (hO z (by omega)).trans (hf z hz)
  clear hO hx
  refine gg_aload_n dX7_init_124 rfl rfl ?_
  refine gg_bipush (v := 10) dX7_init_125 (by decide) ?_
  refine gg_new_int 10 86 dX7_init_127 (by decide) (by decide) (by decide) (hN 86 (by decide) (by decide)) (by decide) ⟨(Nat.le_of_ble_eq_true rfl), (Nat.le_of_ble_eq_true rfl)⟩ ?_
  refine gg_k (k2 := (16, 286)) rfl ?_
  refine gg_ob (fun S1 hx hO => ?_)
  have hS := (hO 70 (by decide)).trans hS
  have hI : ∀ i, i < 16 → S1 (71 + i) = some (iniC i) := ini_s (k := 15) hI hO hx
  have hN : ∀ q, 87 ≤ q → q < 95 → S1 q = none := fun q q1 q2 => (hO q (by omega)).trans (hN q (by omega) q2)
  have hf : Fr 70 95 S S1 := fun z hz => (hO z (by omega)).trans (hf z hz)
  clear hO
  refine pf_X7_57 rfl rfl dX7_init_129 hS (Nat.le_of_ble_eq_true rfl) (gl_some hx) ?_
  refine gg_ob (fun S1 hS hO => ?_)
  have hI : ∀ i, i < 16 → S1 (71 + i) = some (iniC i) := fun i hi => (hO (71 + i) (by omega)).trans (hI i hi)
  have hN : ∀ q, 87 ≤ q → q < 95 → S1 q = none := fun q q1 q2 => (hO q (by omega)).trans (hN q q1 q2)
  have hf : Fr 70 95 S S1 := fun z hz => (hO z (by omega)).trans (hf z hz)
  clear hO hx
  refine gg_aload_n dX7_init_132 rfl rfl ?_
  refine gg_bipush (v := 10) dX7_init_133 (by decide) ?_
  refine gg_new_int 10 87 dX7_init_135 (by decide) (by decide) (by decide) (hN 87 (by decide) (by decide)) (by decide) ⟨(Nat.le_of_ble_eq_true rfl), (Nat.le_of_ble_eq_true rfl)⟩ ?_
  refine gg_k (k2 := (17, 296)) rfl ?_
  refine gg_ob (fun S1 hx hO => ?_)
  have hS := (hO 70 (by decide)).trans hS
  have hI : ∀ i, i < 17 → S1 (71 + i) = some (iniC i) := ini_s (k := 16) hI hO hx
  have hN : ∀ q, 88 ≤ q → q < 95 → S1 q = none := fun q q1 q2 => (hO q (by omega)).trans (hN q (by omega) q2)
  have hf : Fr 70 95 S S1 := fun z hz => (hO z (by omega)).trans (hf z hz)
  clear hO
  refine pf_X7_60 rfl rfl dX7_init_137 hS (Nat.le_of_ble_eq_true rfl) (gl_some hx) ?_
  refine gg_ob (fun S1 hS hO => ?_)
  have hI : ∀ i, i < 17 → S1 (71 + i) = some (iniC i) := fun i hi => (hO (71 + i) (by omega)).trans (hI i hi)
  have hN : ∀ q, 88 ≤ q → q < 95 → S1 q = none := fun q q1 q2 => (hO q (by omega)).trans (hN q q1 q2)
  have hf : Fr 70 95 S S1 := fun z hz => (hO z (by omega)).trans (hf z hz)
  clear hO hx
  refine gg_aload_n dX7_init_140 rfl rfl ?_
  refine gg_bipush (v := 10) dX7_init_141 (by decide) ?_
  refine gg_new_int 10 88 dX7_init_143 (by decide) (by decide) (by decide) (hN 88 (by decide) (by decide)) (by decide) ⟨(Nat.le_of_ble_eq_true rfl), (Nat.le_of_ble_eq_true rfl)⟩ ?_
  refine gg_k (k2 := (18, 306)) rfl ?_
  refine gg_ob (fun S1 hx hO => ?_)
  have hS := (hO 70 (by decide)).trans hS
  have hI : ∀ i, i < 18 → S1 (71 + i) = some (iniC i) := ini_s (k := 17) hI hO hx
  have hN : ∀ q, 89 ≤ q → q < 95 → S1 q = none := fun q q1 q2 => (hO q (by omega)).trans (hN q (by omega) q2)
  have hf : Fr 70 95 S S1 := fun z hz => (hO z (by omega)).trans (hf z hz)
  clear hO
  refine pf_X7_63 rfl rfl dX7_init_145 hS (Nat.le_of_ble_eq_true rfl) (gl_some hx) ?_
  refine gg_ob (fun S1 hS hO => ?_)
  have hI : ∀ i, i < 18 → S1 (71 + i) = some (iniC i) := fun i hi => (hO (71 + i) (by omega)).trans (hI i hi)
  have hN : ∀ q, 89 ≤ q → q < 95 → S1 q = none := fun q q1 q2 => (hO q (by omega)).trans (hN q q1 q2)
  have hf : Fr 70 95 S S1 := fun z hz => (hO z (by omega)).trans (hf z hz)
  clear hO hx
  refine gg_aload_n dX7_init_148 rfl rfl ?_
  refine gg_bipush (v := 10) dX7_init_149 (by decide) ?_
  refine gg_new_int 10 89 dX7_init_151 (by decide) (by decide) (by decide) (hN 89 (by decide) (by decide)) (by decide) ⟨(Nat.le_of_ble_eq_true rfl), (Nat.le_of_ble_eq_true rfl)⟩ ?_
  refine gg_k (k2 := (19, 316)) rfl ?_
  refine gg_ob (fun S1 hx hO => ?_)
  have hS := (hO 70 (by decide)).trans hS
  have hI : ∀ i, i < 19 → S1 (71 + i) = some (iniC i) := ini_s (k := 18) hI hO hx
  have hN : ∀ q, 90 ≤ q → q < 95 → S1 q = none := fun q q1 q2 => (hO q (by omega)).trans (hN q (by omega) q2)
  have hf : Fr 70 95 S S1 := fun z hz => (hO z (by omega)).trans (hf z hz)
  clear hO
  refine pf_X7_66 rfl rfl dX7_init_153 hS (Nat.le_of_ble_eq_true rfl) (gl_some hx) ?_
  refine gg_ob (fun S1 hS hO => ?_)
  have hI : ∀ i, i < 19 → S1 (71 + i) = some (iniC i) := fun i hi => (hO (71 + i) (by omega)).trans (hI i hi)
  have hN : ∀ q, 90 ≤ q → q < 95 → S1 q = none := fun q q1 q2 => (hO q (by omega)).trans (hN q q1 q2)
  have hf : Fr 70 95 S S1 := fun z hz => (hO z (by omega)).trans (hf z hz)
  clear hO hx
  refine gg_aload_n dX7_init_156 rfl rfl ?_
  refine gg_sipush (v := 400) dX7_init_157 (by decide) ?_
  refine gg_new_int 400 90 dX7_init_160 (by decide) (by decide) (by decide) (hN 90 (by decide) (by decide)) (by decide) ⟨(Nat.le_of_ble_eq_true rfl), (Nat.le_of_ble_eq_true rfl)⟩ ?_
  refine gg_k (k2 := (20, 716)) rfl ?_
  refine gg_ob (fun S1 hx hO => ?_)
  have hS := (hO 70 (by decide)).trans hS
  have hI : ∀ i, i < 20 → S1 (71 + i) = some (iniC i) := ini_s (k := 19) hI hO hx
  have hN : ∀ q, 91 ≤ q → q < 95 → S1 q = none := fun q q1 q2 => (hO q (by omega)).trans (hN q (by omega) q2)
  have hf : Fr 70 95 S S1 := fun z hz => (hO z (by omega)).trans (hf z hz)
  clear hO
  refine pf_X7_69 rfl rfl dX7_init_162 hS (Nat.le_of_ble_eq_true rfl) (gl_some hx) ?_
  refine gg_ob (fun S1 hS hO => ?_)
  have hI : ∀ i, i < 20 → S1 (71 + i) = some (iniC i) := fun i hi => (hO (71 + i) (by omega)).trans (hI i hi)
  have hN : ∀ q, 91 ≤ q → q < 95 → S1 q = none := fun q q1 q2 => (hO q (by omega)).trans (hN q q1 q2)
  have hf : Fr 70 95 S S1 := fun z hz => (hO z (by omega)).trans (hf z hz)
  clear hO hx
  refine gg_aload_n dX7_init_165 rfl rfl ?_
  refine gg_sipush (v := 400) dX7_init_166 (by decide) ?_
  refine gg_new_int 400 91 dX7_init_169 (by decide) (by decide) (by decide) (hN 91 (by decide) (by decide)) (by decide) ⟨(Nat.le_of_ble_eq_true rfl), (Nat.le_of_ble_eq_true rfl)⟩ ?_
  refine gg_k (k2 := (21, 1116)) rfl ?_
  refine gg_ob (fun S1 hx hO => ?_)
  have hS := (hO 70 (by decide)).trans hS
  have hI : ∀ i, i < 21 → S1 (71 + i) = some (iniC i) := ini_s (k := 20) hI hO hx
  have hN : ∀ q, 92 ≤ q → q < 95 → S1 q = none := fun q q1 q2 => (hO q (by omega)).trans (hN q (by omega) q2)
  have hf : Fr 70 95 S S1 := fun z hz => (hO z (by omega)).trans (hf z hz)
  clear hO
  refine pf_X7_72 rfl rfl dX7_init_171 hS (Nat.le_of_ble_eq_true rfl) (gl_some hx) ?_
  refine gg_ob (fun S1 hS hO => ?_)
  have hI : ∀ i, i < 21 → S1 (71 + i) = some (iniC i) := fun i hi => (hO (71 + i) (by omega)).trans (hI i hi)
  have hN : ∀ q, 92 ≤ q → q < 95 → S1 q = none := fun q q1 q2 => (hO q (by omega)).trans (hN q q1 q2)
  have hf : Fr 70 95 S S1 := fun z hz => (hO z (by omega)).trans (hf z hz)
  clear hO hx
  refine gg_aload_n dX7_init_174 rfl rfl ?_
  refine gg_sipush (v := 400) dX7_init_175 (by decide) ?_
  refine gg_new_int 400 92 dX7_init_178 (by decide) (by decide) (by decide) (hN 92 (by decide) (by decide)) (by decide) ⟨(Nat.le_of_ble_eq_true rfl), (Nat.le_of_ble_eq_true rfl)⟩ ?_
  refine gg_k (k2 := (22, 1516)) rfl ?_
  refine gg_ob (fun S1 hx hO => ?_)
  have hS := (hO 70 (by decide)).trans hS
  have hI : ∀ i, i < 22 → S1 (71 + i) = some (iniC i) := ini_s (k := 21) hI hO hx
  have hN : ∀ q, 93 ≤ q → q < 95 → S1 q = none := fun q q1 q2 => (hO q (by omega)).trans (hN q (by omega) q2)
  have hf : Fr 70 95 S S1 := fun z hz => (hO z (by omega)).trans (hf z hz)
  clear hO
  refine pf_X7_75 rfl rfl dX7_init_180 hS (Nat.le_of_ble_eq_true rfl) (gl_some hx) ?_
  refine gg_ob (fun S1 hS hO => ?_)
  have hI : ∀ i, i < 22 → S1 (71 + i) = some (iniC i) := fun i hi => (hO (71 + i) (by omega)).trans (hI i hi)
  have hN : ∀ q, 93 ≤ q → q < 95 → S1 q = none := fun q q1 q2 => (hO q (by omega)).trans (hN q q1 q2)
  have hf : Fr 70 95 S S1 := fun z hz => (hO z (by omega)).trans (hf z hz)
  clear hO hx
  refine gg_aload_n dX7_init_183 rfl rfl ?_
  refine gg_ldc (v := 45056) dX7_init_184 km_78 ?_
  refine gg_new_int 45056 93 dX7_init_186 (by decide) (by decide) (by decide) (hN 93 (by decide) (by decide)) (by decide) ⟨(Nat.le_of_ble_eq_true rfl), (Nat.le_of_ble_eq_true rfl)⟩ ?_
  refine gg_k (k2 := (23, 46572)) rfl ?_
  refine gg_ob (fun S1 hx hO => ?_)
  have hS := (hO 70 (by decide)).trans hS
  have hI : ∀ i, i < 23 → S1 (71 + i) = some (iniC i) := ini_s (k := 22) hI hO hx
  have hN : ∀ q, 94 ≤ q → q < 95 → S1 q = none := fun q q1 q2 => (hO q (by omega)).trans (hN q (by omega) q2)
  have hf : Fr 70 95 S S1 := fun z hz => (hO z (by omega)).trans (hf z hz)
  clear hO
  refine pf_X7_79 rfl rfl dX7_init_188 hS (Nat.le_of_ble_eq_true rfl) (gl_some hx) ?_
  refine gg_ob (fun S1 hS hO => ?_)
  have hI : ∀ i, i < 23 → S1 (71 + i) = some (iniC i) := fun i hi => (hO (71 + i) (by omega)).trans (hI i hi)
  have hN : ∀ q, 94 ≤ q → q < 95 → S1 q = none := fun q q1 q2 => (hO q (by omega)).trans (hN q q1 q2)
  have hf : Fr 70 95 S S1 := fun z hz => (hO z (by omega)).trans (hf z hz)
  clear hO hx
  refine gg_aload_n dX7_init_191 rfl rfl ?_
  refine gg_bipush (v := 10) dX7_init_192 (by decide) ?_
  refine gg_new_int 10 94 dX7_init_194 (by decide) (by decide) (by decide) (hN 94 (by decide) (by decide)) (by decide) ⟨(Nat.le_of_ble_eq_true rfl), (Nat.le_of_ble_eq_true rfl)⟩ ?_
  refine gg_k (k2 := (24, 46582)) rfl ?_
  refine gg_ob (fun S1 hx hO => ?_)
  have hS := (hO 70 (by decide)).trans hS
  have hI : ∀ i, i < 24 → S1 (71 + i) = some (iniC i) := ini_s (k := 23) hI hO hx
  have hN : ∀ q, 95 ≤ q → q < 95 → S1 q = none := fun q q1 q2 => (hO q (by omega)).trans (hN q (by omega) q2)
  have hf : Fr 70 95 S S1 := fun z hz => (hO z (by omega)).trans (hf z hz)
  clear hO
  refine pf_X7_82 rfl rfl dX7_init_196 hS (Nat.le_of_ble_eq_true rfl) (gl_some hx) ?_
  refine gg_ob (fun S1 hS hO => ?_)
  have hI : ∀ i, i < 24 → S1 (71 + i) = some (iniC i) := fun i hi => (hO (71 + i) (by omega)).trans (hI i hi)
  have hN : ∀ q, 95 ≤ q → q < 95 → S1 q = none := fun q q1 q2 => (hO q (by omega)).trans (hN q q1 q2)
  have hf : Fr 70 95 S S1 := fun z hz => (hO z (by omega)).trans (hf z hz)
  clear hO hx
  refine gg_aload_n dX7_init_199 rfl rfl ?_
  refine gf_X7_13 rfl dX7_init_200 hS rfl ?_
  refine gg_callS (sp_X7_asAtFirst (p := 72) (hI 1 (by decide))) dX7_init_203 kw_X7_85 rfl rfl (Nat.le_of_ble_eq_true rfl) (Nat.le_of_ble_eq_true rfl) (Nat.le_of_ble_eq_true rfl) ⟨(Nat.le_of_ble_eq_true rfl), (Nat.le_of_ble_eq_true rfl)⟩ (fun r S2 hq => ?_)
  refine gg_k (k2 := (24, 46582)) rfl ?_
  obtain ⟨rfl, rfl⟩ := hq
  refine gg_ob (fun S1 h72 hO => ?_)
  have hS := (hO 70 (by decide)).trans hS
  have hf : Fr 70 95 S S1 := fun z hz => (hO z (by omega)).trans (hf z hz)
  exact gg_return dX7_init_206 rfl ⟨(Nat.le_of_ble_eq_true rfl), (Nat.le_of_ble_eq_true rfl)⟩ (⟨rfl, ini_MP hS (fun i h1 h2 => (hO (71 + i) (by omega)).trans (hI i h1)) h72, hf⟩)
