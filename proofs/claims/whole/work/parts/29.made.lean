/-! what is made -/
set_option maxRecDepth 20000 in
theorem ka_int : Cond.arrayClass .int ∈ gl_T := (gl_T_in (by decide +kernel) (by decide +kernel))
set_option maxRecDepth 20000 in
theorem ka_long : Cond.arrayClass .long ∈ gl_T := (gl_T_in (by decide +kernel) (by decide +kernel))
set_option maxRecDepth 20000 in
theorem ka_byte : Cond.arrayClass .byte ∈ gl_T := (gl_T_in (by decide +kernel) (by decide +kernel))
set_option maxRecDepth 20000 in
theorem ka_short : Cond.arrayClass .short ∈ gl_T := (gl_T_in (by decide +kernel) (by decide +kernel))
section GNA
variable {M : gl_M} {x : gl_X} {Z : State → Prop} {pc idx : Nat} {ls : List (Option Value)} {st : List Value} {S : gl_H} {k : Nat × Nat}
theorem gg_new_int {n : Int32} (n' pl : Nat) (hd : decode M.1 pc = .ok (.newarray .int, 2)) (hn : ¬ n < 0) (hN : n.toNatClampNeg = n') (hby : n' * componentBytes .int ≤ 536870912) (hp : S pl = none) (hx : pl < 1000000) (hk : k.1 + 1 ≤ M.2.2.2.2.2.2.1 ∧ k.2 + n' ≤ M.2.2.2.2.2.2.2) (K : GG M x Z (pc + 2) ls (.ref pl :: st) (gl_pu S pl (.inl (0, n', .inl (fun _ => 0)))) (k.1 + 1, k.2 + n')) : GG M x Z pc ls (.int n :: st) S k := gg_newa (a0 := (n', .inl (fun _ => 0))) pl 0 hd rfl (fun _ => rfl) (fun U c c9 h1 h2 => Option.some.inj ((show U.vm.findClass _ = some c from h1).symm.trans h2)) ka_int (fun _ => rfl) (fun _ => rfl) (fun _ h => h) hn hN hby hp hx hk K
theorem gg_new_long {n : Int32} (n' pl : Nat) (hd : decode M.1 pc = .ok (.newarray .long, 2)) (hn : ¬ n < 0) (hN : n.toNatClampNeg = n') (hby : n' * componentBytes .long ≤ 536870912) (hp : S pl = none) (hx : pl < 1000000) (hk : k.1 + 1 ≤ M.2.2.2.2.2.2.1 ∧ k.2 + n' ≤ M.2.2.2.2.2.2.2) (K : GG M x Z (pc + 2) ls (.ref pl :: st) (gl_pu S pl (.inl (1, n', .inr (.inl (fun _ => 0))))) (k.1 + 1, k.2 + n')) : GG M x Z pc ls (.int n :: st) S k := gg_newa (a0 := (n', .inr (.inl (fun _ => 0)))) pl 1 hd rfl (fun _ => rfl) (fun U c c9 h1 h2 => Option.some.inj ((show U.vm.findClass _ = some c from h1).symm.trans h2)) ka_long (fun _ => rfl) (fun _ => rfl) (fun _ h => h) hn hN hby hp hx hk K
theorem gg_new_byte {n : Int32} (n' pl : Nat) (hd : decode M.1 pc = .ok (.newarray .byte, 2)) (hn : ¬ n < 0) (hN : n.toNatClampNeg = n') (hby : n' * componentBytes .byte ≤ 536870912) (hp : S pl = none) (hx : pl < 1000000) (hk : k.1 + 1 ≤ M.2.2.2.2.2.2.1 ∧ k.2 + n' ≤ M.2.2.2.2.2.2.2) (K : GG M x Z (pc + 2) ls (.ref pl :: st) (gl_pu S pl (.inl (2, n', .inl (fun _ => 0)))) (k.1 + 1, k.2 + n')) : GG M x Z pc ls (.int n :: st) S k := gg_newa (a0 := (n', .inl (fun _ => 0))) pl 2 hd rfl (fun _ => rfl) (fun U c c9 h1 h2 => Option.some.inj ((show U.vm.findClass _ = some c from h1).symm.trans h2)) ka_byte (fun _ => rfl) (fun _ => rfl) (fun _ h => h) hn hN hby hp hx hk K
theorem gg_new_short {n : Int32} (n' pl : Nat) (hd : decode M.1 pc = .ok (.newarray .short, 2)) (hn : ¬ n < 0) (hN : n.toNatClampNeg = n') (hby : n' * componentBytes .short ≤ 536870912) (hp : S pl = none) (hx : pl < 1000000) (hk : k.1 + 1 ≤ M.2.2.2.2.2.2.1 ∧ k.2 + n' ≤ M.2.2.2.2.2.2.2) (K : GG M x Z (pc + 2) ls (.ref pl :: st) (gl_pu S pl (.inl (3, n', .inl (fun _ => 0)))) (k.1 + 1, k.2 + n')) : GG M x Z pc ls (.int n :: st) S k := gg_newa (a0 := (n', .inl (fun _ => 0))) pl 3 hd rfl (fun _ => rfl) (fun U c c9 h1 h2 => Option.some.inj ((show U.vm.findClass _ = some c from h1).symm.trans h2)) ka_short (fun _ => rfl) (fun _ => rfl) (fun _ h => h) hn hN hby hp hx hk K
theorem gg_ob {p : Nat} {c : gl_C} (K : ∀ S1, S1 p = some c → (∀ q, q ≠ p → S1 q = S q) → GG M x Z pc ls st S1 k) : GG M x Z pc ls st (gl_pu S p c) k := K _ (gl_pu_s S p c) (fun q h => gl_pu_n S c h)
end GNA
theorem sp_X0_init {S : gl_H} {q : Nat} (hS : S q = some (.inr (0, [.int 0, .int 0, .int 0, .int 0, .int 0]))) (a b c d e : Int32) : Sp mX0_init yX0_init [.ref q, .int a, .int b, .int c, .int d, .int e] S (fun r S1 => r = none ∧ S1 q = some (.inr (0, [.int a, .int b, .int c, .int d, .int e])) ∧ ∀ p, p ≠ q → S1 p = S p) := by
  refine gl_enter (j := 0) (by decide +kernel) rfl (fun _ => rfl) (Nat.le_of_ble_eq_true rfl) rfl (fun x => ?_)
  have hO : ∀ p, p ≠ q → S p = S p := fun _ _ => rfl
  refine gg_aload_n dX0_init_0 rfl rfl ?_
  refine gg_objInit dX0_init_1 kw_X0_1 (Nat.le_of_ble_eq_true rfl) (Nat.le_of_ble_eq_true rfl) ?_
  refine gg_aload_n dX0_init_4 rfl rfl ?_
  refine gg_iload_n dX0_init_5 rfl rfl ?_
  refine pf_X0_7 rfl rfl dX0_init_6 hS (Nat.le_of_ble_eq_true rfl) ?_
  refine gg_ob (fun S1 hS hO1 => ?_)
  have hO := fun p h => (hO1 p h).trans (hO p h)
  clear hO1
  refine gg_aload_n dX0_init_9 rfl rfl ?_
  refine gg_iload_n dX0_init_10 rfl rfl ?_
  refine pf_X0_13 rfl rfl dX0_init_11 hS (Nat.le_of_ble_eq_true rfl) ?_
  refine gg_ob (fun S1 hS hO1 => ?_)
  have hO := fun p h => (hO1 p h).trans (hO p h)
  clear hO1
  refine gg_aload_n dX0_init_14 rfl rfl ?_
  refine gg_iload_n dX0_init_15 rfl rfl ?_
  refine pf_X0_16 rfl rfl dX0_init_16 hS (Nat.le_of_ble_eq_true rfl) ?_
  refine gg_ob (fun S1 hS hO1 => ?_)
  have hO := fun p h => (hO1 p h).trans (hO p h)
  clear hO1
  refine gg_aload_n dX0_init_19 rfl rfl ?_
  refine gg_iload dX0_init_20 rfl ?_
  refine pf_X0_19 rfl rfl dX0_init_22 hS (Nat.le_of_ble_eq_true rfl) ?_
  refine gg_ob (fun S1 hS hO1 => ?_)
  have hO := fun p h => (hO1 p h).trans (hO p h)
  clear hO1
  refine gg_aload_n dX0_init_25 rfl rfl ?_
  refine gg_iload dX0_init_26 rfl ?_
  refine pf_X0_22 rfl rfl dX0_init_28 hS (Nat.le_of_ble_eq_true rfl) ?_
  refine gg_ob (fun S1 hS hO1 => ?_)
  have hO := fun p h => (hO1 p h).trans (hO p h)
  clear hO1
  exact gg_return dX0_init_31 rfl ⟨(Nat.le_of_ble_eq_true rfl), (Nat.le_of_ble_eq_true rfl)⟩ (⟨rfl, hS, hO⟩)
def nw0 (a b c : Int32) : Nat → Int32 := fun k => if k = 0 then a else if k = 1 then b else if k = 2 then c else 0
def nwF (a b c : Int32) : Nat → Int32 := sdF (nw0 a b c)
def mn30 : Nat → Int32 := fillN (fun _ => 0) 6 30
theorem sp_X4_init {S : gl_H} {P : Nat} (hS : S P = some (.inr (4, [.int 0, .int 0, .int 0, .null, .int 0, .int 0, .int 0, .int 0, .int 0, .int 0, .long 0]))) (hN : S (P + 1) = none) (hP : P + 1 < 1000000) (a b c : Int32) : Sp mX4_init yX4_init [.ref P, .int a, .int b, .int c] S (fun r S1 => r = none ∧ PE S1 P (nwF a b c) mn30 0 ∧ Fr P (P + 2) S S1) := by
  refine gl_enter (j := 0) (by decide +kernel) rfl (fun _ => rfl) (Nat.le_of_ble_eq_true rfl) rfl (fun x => ?_)
  have hf : Fr P (P + 2) S S := Fr.rf
  refine gg_aload_n dX4_init_0 rfl rfl ?_
  refine gg_objInit dX4_init_1 kw_X4_3 (Nat.le_of_ble_eq_true rfl) (Nat.le_of_ble_eq_true rfl) ?_
  refine gg_aload_n dX4_init_4 rfl rfl ?_
  refine gg_bipush (v := 6) dX4_init_5 (by decide) ?_
  refine gg_new_int 6 (P + 1) dX4_init_7 (by decide) (by decide) (by decide) hN hP ⟨(Nat.le_of_ble_eq_true rfl), (Nat.le_of_ble_eq_true rfl)⟩ ?_
  refine gg_k (k2 := (1, 6)) rfl ?_
  refine gg_ob (fun S1 hM hO => ?_)
  have hS := (hO P (by omega)).trans hS
  have hf : Fr P (P + 2) S S1 := fun z hz => (hO z (by omega)).trans (hf z hz)
  clear hO
  refine pf_X4_9 rfl rfl dX4_init_9 hS (Nat.le_of_ble_eq_true rfl) (gl_some hM) ?_
  refine gg_ob (fun S1 hS hO => ?_)
  have hM := (hO (P + 1) (by omega)).trans hM
  have hf : Fr P (P + 2) S S1 := fun z hz => (hO z (by omega)).trans (hf z hz)
  clear hO
  refine gg_aload_n dX4_init_12 rfl rfl ?_
  refine gg_iload_n dX4_init_13 rfl rfl ?_
  refine pf_X4_15 rfl rfl dX4_init_14 hS (Nat.le_of_ble_eq_true rfl) ?_
  refine gg_ob (fun S1 hS hO => ?_)
  have hM := (hO (P + 1) (by omega)).trans hM
  have hf : Fr P (P + 2) S S1 := fun z hz => (hO z (by omega)).trans (hf z hz)
  clear hO
  refine gg_aload_n dX4_init_17 rfl rfl ?_
  refine gg_iload_n dX4_init_18 rfl rfl ?_
  refine pf_X4_19 rfl rfl dX4_init_19 hS (Nat.le_of_ble_eq_true rfl) ?_
  refine gg_ob (fun S1 hS hO => ?_)
  have hM := (hO (P + 1) (by omega)).trans hM
  have hf : Fr P (P + 2) S S1 := fun z hz => (hO z (by omega)).trans (hf z hz)
  clear hO
  refine gg_aload_n dX4_init_22 rfl rfl ?_
  refine gg_iload_n dX4_init_23 rfl rfl ?_
  refine pf_X4_22 rfl rfl dX4_init_24 hS (Nat.le_of_ble_eq_true rfl) ?_
  refine gg_ob (fun S1 hS hO => ?_)
  have hM := (hO (P + 1) (by omega)).trans hM
  have hf : Fr P (P + 2) S S1 := fun z hz => (hO z (by omega)).trans (hf z hz)
  clear hO
  refine gg_aload_n dX4_init_27 rfl rfl ?_
  refine gf_X4_9 rfl dX4_init_28 hS rfl ?_
  refine gg_bipush (v := 30) dX4_init_31 (by decide) ?_
  refine gg_callS (sp_J7_fill_53178 (by decide) hM 30) dX4_init_33 kw_X4_25 rfl rfl (Nat.le_of_ble_eq_true rfl) (Nat.le_of_ble_eq_true rfl) (Nat.le_of_ble_eq_true rfl) ⟨(Nat.le_of_ble_eq_true rfl), (Nat.le_of_ble_eq_true rfl)⟩ (fun r S2 hq => ?_)
  refine gg_k (k2 := (1, 6)) rfl ?_
  obtain ⟨rfl, e9⟩ := hq
  rw [e9]
  clear e9 S2
  refine gg_ob (fun S1 hM hO => ?_)
  have hS := (hO P (by omega)).trans hS
  have hf : Fr P (P + 2) S S1 := fun z hz => (hO z (by omega)).trans (hf z hz)
  clear hO
  have hE : PE S1 P (nw0 a b c) mn30 0 := ⟨hS, hM⟩
  refine gg_aload_n dX4_init_36 rfl rfl ?_
  refine gg_callV (sp_X4_startDay hE) dX4_init_37 kw_X4_31 rfl hE.1 rfl rfl (Nat.le_of_ble_eq_true rfl) (Nat.le_of_ble_eq_true rfl) (Nat.le_of_ble_eq_true rfl) ⟨(Nat.le_of_ble_eq_true rfl), (Nat.le_of_ble_eq_true rfl)⟩ (fun r S2 hq => ?_)
  refine gg_k (k2 := (1, 6)) rfl ?_
  obtain ⟨rfl, hE, hf2⟩ := hq
  exact gg_return dX4_init_40 rfl ⟨(Nat.le_of_ble_eq_true rfl), (Nat.le_of_ble_eq_true rfl)⟩ (⟨rfl, hE, hf.tr hf2⟩)
set_option maxRecDepth 20000 in
theorem nw_X6_23 : Cond.classLink RX6 23 RX4 ∈ gl_T ∧ Cond.instantiable RX4 11 ∈ gl_T ∧ Cond.initialized RX4 ∈ gl_T := ⟨(gl_T_in (by decide +kernel) (by decide +kernel)), (gl_T_in (by decide +kernel) (by decide +kernel)), (gl_T_in (by decide +kernel) (by decide +kernel))⟩
set_option maxRecDepth 20000 in
theorem nw_X6_29 : Cond.classLink RX6 29 RX0 ∈ gl_T ∧ Cond.instantiable RX0 5 ∈ gl_T ∧ Cond.initialized RX0 ∈ gl_T := ⟨(gl_T_in (by decide +kernel) (by decide +kernel)), (gl_T_in (by decide +kernel) (by decide +kernel)), (gl_T_in (by decide +kernel) (by decide +kernel))⟩
set_option maxRecDepth 20000 in
theorem nw_X6_7 : Cond.classLink RX6 7 RX3 ∈ gl_T ∧ Cond.instantiable RX3 2 ∈ gl_T ∧ Cond.initialized RX3 ∈ gl_T := ⟨(gl_T_in (by decide +kernel) (by decide +kernel)), (gl_T_in (by decide +kernel) (by decide +kernel)), (gl_T_in (by decide +kernel) (by decide +kernel))⟩
set_option maxRecDepth 20000 in
theorem nw_X6_16 : Cond.classLink RX6 16 RX2 ∈ gl_T ∧ Cond.instantiable RX2 3 ∈ gl_T ∧ Cond.initialized RX2 ∈ gl_T := ⟨(gl_T_in (by decide +kernel) (by decide +kernel)), (gl_T_in (by decide +kernel) (by decide +kernel)), (gl_T_in (by decide +kernel) (by decide +kernel))⟩
set_option maxRecDepth 20000 in
theorem nw_X6_35 : Cond.classLink RX6 35 RX5 ∈ gl_T ∧ Cond.instantiable RX5 5 ∈ gl_T ∧ Cond.initialized RX5 ∈ gl_T := ⟨(gl_T_in (by decide +kernel) (by decide +kernel)), (gl_T_in (by decide +kernel) (by decide +kernel)), (gl_T_in (by decide +kernel) (by decide +kernel))⟩
set_option maxRecDepth 20000 in
theorem nw_X6_42 : Cond.classLink RX6 42 RX1 ∈ gl_T ∧ Cond.instantiable RX1 7 ∈ gl_T ∧ Cond.initialized RX1 ∈ gl_T := ⟨(gl_T_in (by decide +kernel) (by decide +kernel)), (gl_T_in (by decide +kernel) (by decide +kernel)), (gl_T_in (by decide +kernel) (by decide +kernel))⟩
def teN (s : DS) (a b c : Int32) : Option DS := if zT s < 12 ∧ (0 ≤ a ∧ a ≤ 255) ∧ (0 ≤ b ∧ b ≤ 15) ∧ (0 ≤ c ∧ c ≤ 3000) then some (setTG (setTe s (up2 (zf s) (zT s) (nwF a b c)) (up2 (zm s) (zT s) mn30) (up2 (zp s) (zT s) 0)) (zT s + 1) (zG s) (zD s) (zN s)) else none
def teA (s : DS) (o : Option DS) : Int32 := match o with
  | none => -1
  | some _ => nI (zT s)
theorem te_row (tc : Nat) : va_up (fun t => if t < tc then some (40 + 2 * t) else none) tc (some (40 + 2 * tc)) = fun t => if t < tc + 1 then some (40 + 2 * t) else none := funext (fun t => by
  unfold va_up
  by_cases h : t = tc
  · subst h; rw [if_pos rfl, if_pos (Nat.lt_succ_self t)]
  · rw [if_neg h]
    dsimp only
    by_cases h2 : t < tc
    · rw [if_pos h2, if_pos (by omega)]
    · rw [if_neg h2, if_neg (by omega)])
theorem sp_X6_teacher {S : gl_H} {s : DS} (h : DP S s) (hW : DW s) (a b c : Int32) : Sp mX6_teacher yX6_teacher [.ref 0, .int a, .int b, .int c] S (fun r S1 => r = some (.int (teA s (teN s a b c))) ∧ DP S1 ((teN s a b c).getD s) ∧ FrD S S1) := by
  refine gl_enter (j := 0) (by decide +kernel) rfl (fun h => absurd h (by decide)) (Nat.le_of_ble_eq_true rfl) rfl (fun x => ?_)
  have h0 := h
  obtain ⟨⟨gp, hD⟩, hT, hBx, hVx, hMx⟩ := h
  have htc := hW.1
  by_cases ct : zT s < 12
  · by_cases ca : 0 ≤ a ∧ a ≤ 255
    · by_cases cb : 0 ≤ b ∧ b ≤ 15
      · by_cases cc : 0 ≤ c ∧ c ≤ 3000
        · have en : teN s a b c = _ := if_pos ⟨ct, ca, cb, cc⟩
          refine gg_aload_n dX6_teacher_0 rfl rfl ?_
          refine gf_X6_69 rfl dX6_teacher_1 hD.1 rfl ?_
          refine gg_bipush (v := 12) dX6_teacher_4 (by decide) ?_
          refine gg_icmp_ge (tgt := 41) dX6_teacher_6 (by decide) (fun c6 => ?_) (fun c6 => ?_)
          · exact absurd (n_le (a := 12) c6) (by omega)
          · refine gg_iload_n dX6_teacher_9 rfl rfl ?_
            refine gg_iconst (v := 0) dX6_teacher_10 (by decide) ?_
            refine gg_sipush (v := 255) dX6_teacher_11 (by decide) ?_
            refine gg_callS (sp_X6_within S a 0 255) dX6_teacher_14 kw_X6_61 rfl rfl (Nat.le_of_ble_eq_true rfl) (Nat.le_of_ble_eq_true rfl) (Nat.le_of_ble_eq_true rfl) ⟨(Nat.le_of_ble_eq_true rfl), (Nat.le_of_ble_eq_true rfl)⟩ (fun r S1 hq => ?_)
            refine gg_k (k2 := (0, 0)) rfl ?_
            obtain ⟨e9, rfl⟩ := hq
            rw [e9, if_pos ca]
            clear e9 S1
            refine gg_if_eq (tgt := 41) dX6_teacher_17 (by decide) (fun c17 => ?_) (fun c17 => ?_)
            · exact absurd c17 (by decide)
            · refine gg_iload_n dX6_teacher_20 rfl rfl ?_
              refine gg_iconst (v := 0) dX6_teacher_21 (by decide) ?_
              refine gg_bipush (v := 15) dX6_teacher_22 (by decide) ?_
              refine gg_callS (sp_X6_within S b 0 15) dX6_teacher_24 kw_X6_61 rfl rfl (Nat.le_of_ble_eq_true rfl) (Nat.le_of_ble_eq_true rfl) (Nat.le_of_ble_eq_true rfl) ⟨(Nat.le_of_ble_eq_true rfl), (Nat.le_of_ble_eq_true rfl)⟩ (fun r S1 hq => ?_)
              refine gg_k (k2 := (0, 0)) rfl ?_
              obtain ⟨e9, rfl⟩ := hq
              rw [e9, if_pos cb]
              clear e9 S1
              refine gg_if_eq (tgt := 41) dX6_teacher_27 (by decide) (fun c27 => ?_) (fun c27 => ?_)
              · exact absurd c27 (by decide)
              · refine gg_iload_n dX6_teacher_30 rfl rfl ?_
                refine gg_iconst (v := 0) dX6_teacher_31 (by decide) ?_
                refine gg_sipush (v := 3000) dX6_teacher_32 (by decide) ?_
                refine gg_callS (sp_X6_within S c 0 3000) dX6_teacher_35 kw_X6_61 rfl rfl (Nat.le_of_ble_eq_true rfl) (Nat.le_of_ble_eq_true rfl) (Nat.le_of_ble_eq_true rfl) ⟨(Nat.le_of_ble_eq_true rfl), (Nat.le_of_ble_eq_true rfl)⟩ (fun r S1 hq => ?_)
                refine gg_k (k2 := (0, 0)) rfl ?_
                obtain ⟨e9, rfl⟩ := hq
                rw [e9, if_pos cc]
                clear e9 S1
                refine gg_if_ne (tgt := 43) dX6_teacher_38 (by decide) (fun c38 => ?_) (fun c38 => ?_)
                · refine gg_aload_n dX6_teacher_43 rfl rfl ?_
                  refine gf_X6_25 rfl dX6_teacher_44 hD.1 rfl ?_
                  refine gg_aload_n dX6_teacher_47 rfl rfl ?_
                  refine gf_X6_69 rfl dX6_teacher_48 hD.1 rfl ?_
                  refine gg_new (ci := 4) (fs := [.int 0, .int 0, .int 0, .null, .int 0, .int 0, .int 0, .int 0, .int 0, .int 0, .long 0]) (ty := tyX4) (40 + 2 * zT s) dX6_teacher_51 igX4 tyX4_ok nw_X6_23 rfl (by decide +kernel) (fun v hv r e => by subst e; simp at hv) (hD.2.2.2.2.2.1 _ (Nat.le_refl _) ct).1 (by omega) ⟨(Nat.le_of_ble_eq_true rfl), (Nat.le_of_ble_eq_true rfl)⟩ ?_
                  refine gg_k (k2 := (1, 11)) rfl ?_
                  refine gg_ob (fun S1 hP hO => ?_)
                  refine gg_dup dX6_teacher_54 rfl ?_
                  refine gg_iload_n dX6_teacher_55 rfl rfl ?_
                  refine gg_iload_n dX6_teacher_56 rfl rfl ?_
                  refine gg_iload_n dX6_teacher_57 rfl rfl ?_
                  refine gg_callI (sp_X4_init hP ((hO _ (by omega)).trans (hD.2.2.2.2.2.1 _ (Nat.le_refl _) ct).2) (by omega) a b c) dX6_teacher_58 kw_X6_72 rfl rfl rfl rfl (Nat.le_of_ble_eq_true rfl) (Nat.le_of_ble_eq_true rfl) (Nat.le_of_ble_eq_true rfl) ⟨(Nat.le_of_ble_eq_true rfl), (Nat.le_of_ble_eq_true rfl)⟩ (fun r S2 hq => ?_)
                  refine gg_k (k2 := (2, 17)) rfl ?_
                  obtain ⟨rfl, hE, hf⟩ := hq
                  have h01 : S2 0 = _ := ((hf 0 (by omega)).trans (hO 0 (by omega))).trans hD.1
                  have h11 : S2 1 = _ := ((hf 1 (by omega)).trans (hO 1 (by omega))).trans hD.2.1
                  refine gg_ast_q 4 (q0 := (RX4, TX4, 11)) (fun _ => rfl) rfl (zT s) dX6_teacher_61 h11 hE.1 rfl ct (by decide) ?_
                  rw [te_row]
                  refine gg_ob (fun S3 h13 hO3 => ?_)
                  have h03 : S3 0 = _ := (hO3 0 (by decide)).trans h01
                  refine gg_aload_n dX6_teacher_62 rfl rfl ?_
                  refine gg_dup dX6_teacher_63 rfl ?_
                  refine gf_X6_69 rfl dX6_teacher_64 h03 rfl ?_
                  refine gg_iconst (v := 1) dX6_teacher_67 (by decide) ?_
                  refine gg_iadd dX6_teacher_68 ?_
                  refine pf_X6_69 rfl dX6_teacher_69 h03 (Nat.le_of_ble_eq_true rfl) ?_
                  rw [nI_1]
                  refine gg_ob (fun S4 h04 hO4 => ?_)
                  refine gg_aload_n dX6_teacher_72 rfl rfl ?_
                  refine gf_X6_69 rfl dX6_teacher_73 h04 rfl ?_
                  refine gg_iconst (v := 1) dX6_teacher_76 (by decide) ?_
                  refine gg_isub dX6_teacher_77 ?_
                  have hA : ∀ z, z ≠ 0 → z ≠ 1 → ¬ (40 + 2 * zT s ≤ z ∧ z < 40 + 2 * zT s + 2) → S4 z = S z := fun z z0 z1 z2 => (((hO4 z z0).trans (hO3 z z1)).trans (hf z z2)).trans (hO z (by omega))
                  have hB4 : ∀ lo hi, 3 ≤ lo → hi ≤ 40 → ∀ z, lo ≤ z → z < hi → S4 z = S z := fun lo hi l1 l2 z z1 z2 => hA z (by omega) (by omega) (by omega)
                  refine gg_ireturn dX6_teacher_78 rfl rfl ⟨(Nat.le_of_ble_eq_true rfl), (Nat.le_of_ble_eq_true rfl)⟩ ?_
                  refine ⟨by rw [en, nI_pred]; rfl, ?_, fun z z1 z2 => hA z (by omega) (by omega) (by omega)⟩
                  rw [en]
                  refine ⟨⟨gp, h04, (hO4 1 (by decide)).trans h13, (hA 2 (by decide) (by decide) (by omega)).trans hD.2.2.1, fun t ht => ?_, fun g hg => ?_, fun t t1 t2 => ?_, fun z z1 => (hA z (by omega) (by omega) (by omega)).trans (hD.2.2.2.2.2.2 z z1)⟩, ⟨(hA 3 (by decide) (by decide) (by omega)).trans hT.1, (hA 4 (by decide) (by decide) (by omega)).trans hT.2⟩, ?_, ?_, ?_⟩
                  · show PE S4 (40 + 2 * t) (up2 (zf s) (zT s) (nwF a b c) t) (up2 (zm s) (zT s) mn30 t) (up2 (zp s) (zT s) 0 t)
                    by_cases e : t = zT s
                    · subst e
                      rw [up2_s, up2_s, up2_s]
                      exact hE.keep ((hO4 _ (by omega)).trans (hO3 _ (by omega))) ((hO4 _ (by omega)).trans (hO3 _ (by omega)))
                    · have ht : t < zT s + 1 := ht
                      rw [up2_n (zf s) _ e, up2_n (zm s) _ e, up2_n (zp s) _ e]
                      exact (hD.2.2.2.1 t (by omega)).keep (hA _ (by omega) (by omega) (by omega)) (hA _ (by omega) (by omega) (by omega))
                  · obtain ⟨q, h1, h2, h3, h4⟩ := hD.2.2.2.2.1 g hg
                    exact ⟨q, h1, h2, h3, (hA q (by omega) (by omega) (by omega)).trans h4⟩
                  · have t1 : zT s + 1 ≤ t := t1
                    exact ⟨(hA _ (by omega) (by omega) (by omega)).trans (hD.2.2.2.2.2.1 t (by omega) t2).1, (hA _ (by omega) (by omega) (by omega)).trans (hD.2.2.2.2.2.1 t (by omega) t2).2⟩
                  · obtain ⟨num, dr, pl, g0, g1⟩ := hBx
                    exact ⟨num, dr, pl, g0, (hA 5 (by decide) (by decide) (by omega)).trans g1.1, (hA 6 (by decide) (by decide) (by omega)).trans g1.2.1, (hA 7 (by decide) (by decide) (by omega)).trans g1.2.2⟩
                  · obtain ⟨nx, g0, g1, g2⟩ := hVx
                    exact ⟨nx, g0, g1, (hA 8 (by decide) (by decide) (by omega)).trans g2.1, (hA 9 (by decide) (by decide) (by omega)).trans g2.2.1, (hA 10 (by decide) (by decide) (by omega)).trans g2.2.2.1, (hA 11 (by decide) (by decide) (by omega)).trans g2.2.2.2⟩
                  · obtain ⟨og, tk, w, tks, a9, tl, par, g1, g2⟩ := hMx
                    exact ⟨og, tk, w, tks, a9, tl, par, g1.keep (fun z z1 z2 => hA z (by omega) (by omega) (by omega)), g2⟩
                · exact absurd c38 (by decide)
        · have en : teN s a b c = none := if_neg (fun z => cc z.2.2.2)
          refine gg_aload_n dX6_teacher_0 rfl rfl ?_
          refine gf_X6_69 rfl dX6_teacher_1 hD.1 rfl ?_
          refine gg_bipush (v := 12) dX6_teacher_4 (by decide) ?_
          refine gg_icmp_ge (tgt := 41) dX6_teacher_6 (by decide) (fun c6 => ?_) (fun c6 => ?_)
          · exact absurd (n_le (a := 12) c6) (by omega)
          · refine gg_iload_n dX6_teacher_9 rfl rfl ?_
            refine gg_iconst (v := 0) dX6_teacher_10 (by decide) ?_
            refine gg_sipush (v := 255) dX6_teacher_11 (by decide) ?_
            refine gg_callS (sp_X6_within S a 0 255) dX6_teacher_14 kw_X6_61 rfl rfl (Nat.le_of_ble_eq_true rfl) (Nat.le_of_ble_eq_true rfl) (Nat.le_of_ble_eq_true rfl) ⟨(Nat.le_of_ble_eq_true rfl), (Nat.le_of_ble_eq_true rfl)⟩ (fun r S1 hq => ?_)
            refine gg_k (k2 := (0, 0)) rfl ?_
            obtain ⟨e9, rfl⟩ := hq
            rw [e9, if_pos ca]
            clear e9 S1
            refine gg_if_eq (tgt := 41) dX6_teacher_17 (by decide) (fun c17 => ?_) (fun c17 => ?_)
            · exact absurd c17 (by decide)
            · refine gg_iload_n dX6_teacher_20 rfl rfl ?_
              refine gg_iconst (v := 0) dX6_teacher_21 (by decide) ?_
              refine gg_bipush (v := 15) dX6_teacher_22 (by decide) ?_
              refine gg_callS (sp_X6_within S b 0 15) dX6_teacher_24 kw_X6_61 rfl rfl (Nat.le_of_ble_eq_true rfl) (Nat.le_of_ble_eq_true rfl) (Nat.le_of_ble_eq_true rfl) ⟨(Nat.le_of_ble_eq_true rfl), (Nat.le_of_ble_eq_true rfl)⟩ (fun r S1 hq => ?_)
              refine gg_k (k2 := (0, 0)) rfl ?_
              obtain ⟨e9, rfl⟩ := hq
              rw [e9, if_pos cb]
              clear e9 S1
              refine gg_if_eq (tgt := 41) dX6_teacher_27 (by decide) (fun c27 => ?_) (fun c27 => ?_)
              · exact absurd c27 (by decide)
              · refine gg_iload_n dX6_teacher_30 rfl rfl ?_
                refine gg_iconst (v := 0) dX6_teacher_31 (by decide) ?_
                refine gg_sipush (v := 3000) dX6_teacher_32 (by decide) ?_
                refine gg_callS (sp_X6_within S c 0 3000) dX6_teacher_35 kw_X6_61 rfl rfl (Nat.le_of_ble_eq_true rfl) (Nat.le_of_ble_eq_true rfl) (Nat.le_of_ble_eq_true rfl) ⟨(Nat.le_of_ble_eq_true rfl), (Nat.le_of_ble_eq_true rfl)⟩ (fun r S1 hq => ?_)
                refine gg_k (k2 := (0, 0)) rfl ?_
                obtain ⟨e9, rfl⟩ := hq
                rw [e9, if_neg cc]
                clear e9 S1
                refine gg_if_ne (tgt := 43) dX6_teacher_38 (by decide) (fun c38 => ?_) (fun c38 => ?_)
                · exact absurd rfl c38
                · refine gg_iconst (v := -1) dX6_teacher_41 (by decide) ?_
                  exact gg_ireturn dX6_teacher_42 rfl rfl ⟨(Nat.le_of_ble_eq_true rfl), (Nat.le_of_ble_eq_true rfl)⟩ (⟨by rw [en]; rfl, by rw [en]; exact h0, FrD.rf⟩)
      · have en : teN s a b c = none := if_neg (fun z => cb z.2.2.1)
        refine gg_aload_n dX6_teacher_0 rfl rfl ?_
        refine gf_X6_69 rfl dX6_teacher_1 hD.1 rfl ?_
        refine gg_bipush (v := 12) dX6_teacher_4 (by decide) ?_
        refine gg_icmp_ge (tgt := 41) dX6_teacher_6 (by decide) (fun c6 => ?_) (fun c6 => ?_)
        · exact absurd (n_le (a := 12) c6) (by omega)
        · refine gg_iload_n dX6_teacher_9 rfl rfl ?_
          refine gg_iconst (v := 0) dX6_teacher_10 (by decide) ?_
          refine gg_sipush (v := 255) dX6_teacher_11 (by decide) ?_
          refine gg_callS (sp_X6_within S a 0 255) dX6_teacher_14 kw_X6_61 rfl rfl (Nat.le_of_ble_eq_true rfl) (Nat.le_of_ble_eq_true rfl) (Nat.le_of_ble_eq_true rfl) ⟨(Nat.le_of_ble_eq_true rfl), (Nat.le_of_ble_eq_true rfl)⟩ (fun r S1 hq => ?_)
          refine gg_k (k2 := (0, 0)) rfl ?_
          obtain ⟨e9, rfl⟩ := hq
          rw [e9, if_pos ca]
          clear e9 S1
          refine gg_if_eq (tgt := 41) dX6_teacher_17 (by decide) (fun c17 => ?_) (fun c17 => ?_)
          · exact absurd c17 (by decide)
          · refine gg_iload_n dX6_teacher_20 rfl rfl ?_
            refine gg_iconst (v := 0) dX6_teacher_21 (by decide) ?_
            refine gg_bipush (v := 15) dX6_teacher_22 (by decide) ?_
            refine gg_callS (sp_X6_within S b 0 15) dX6_teacher_24 kw_X6_61 rfl rfl (Nat.le_of_ble_eq_true rfl) (Nat.le_of_ble_eq_true rfl) (Nat.le_of_ble_eq_true rfl) ⟨(Nat.le_of_ble_eq_true rfl), (Nat.le_of_ble_eq_true rfl)⟩ (fun r S1 hq => ?_)
            refine gg_k (k2 := (0, 0)) rfl ?_
            obtain ⟨e9, rfl⟩ := hq
            rw [e9, if_neg cb]
            clear e9 S1
            refine gg_if_eq (tgt := 41) dX6_teacher_27 (by decide) (fun c27 => ?_) (fun c27 => ?_)
            · refine gg_iconst (v := -1) dX6_teacher_41 (by decide) ?_
              exact gg_ireturn dX6_teacher_42 rfl rfl ⟨(Nat.le_of_ble_eq_true rfl), (Nat.le_of_ble_eq_true rfl)⟩ (⟨by rw [en]; rfl, by rw [en]; exact h0, FrD.rf⟩)
            · exact absurd rfl c27
    · have en : teN s a b c = none := if_neg (fun z => ca z.2.1)
      refine gg_aload_n dX6_teacher_0 rfl rfl ?_
      refine gf_X6_69 rfl dX6_teacher_1 hD.1 rfl ?_
      refine gg_bipush (v := 12) dX6_teacher_4 (by decide) ?_
      refine gg_icmp_ge (tgt := 41) dX6_teacher_6 (by decide) (fun c6 => ?_) (fun c6 => ?_)
      · exact absurd (n_le (a := 12) c6) (by omega)
      · refine gg_iload_n dX6_teacher_9 rfl rfl ?_
        refine gg_iconst (v := 0) dX6_teacher_10 (by decide) ?_
        refine gg_sipush (v := 255) dX6_teacher_11 (by decide) ?_
        refine gg_callS (sp_X6_within S a 0 255) dX6_teacher_14 kw_X6_61 rfl rfl (Nat.le_of_ble_eq_true rfl) (Nat.le_of_ble_eq_true rfl) (Nat.le_of_ble_eq_true rfl) ⟨(Nat.le_of_ble_eq_true rfl), (Nat.le_of_ble_eq_true rfl)⟩ (fun r S1 hq => ?_)
        refine gg_k (k2 := (0, 0)) rfl ?_
        obtain ⟨e9, rfl⟩ := hq
        rw [e9, if_neg ca]
        clear e9 S1
        refine gg_if_eq (tgt := 41) dX6_teacher_17 (by decide) (fun c17 => ?_) (fun c17 => ?_)
        · refine gg_iconst (v := -1) dX6_teacher_41 (by decide) ?_
          exact gg_ireturn dX6_teacher_42 rfl rfl ⟨(Nat.le_of_ble_eq_true rfl), (Nat.le_of_ble_eq_true rfl)⟩ (⟨by rw [en]; rfl, by rw [en]; exact h0, FrD.rf⟩)
        · exact absurd rfl c17
  · have en : teN s a b c = none := if_neg (fun z => ct z.1)
    refine gg_aload_n dX6_teacher_0 rfl rfl ?_
    refine gf_X6_69 rfl dX6_teacher_1 hD.1 rfl ?_
    refine gg_bipush (v := 12) dX6_teacher_4 (by decide) ?_
    refine gg_icmp_ge (tgt := 41) dX6_teacher_6 (by decide) (fun c6 => ?_) (fun c6 => ?_)
    · refine gg_iconst (v := -1) dX6_teacher_41 (by decide) ?_
      exact gg_ireturn dX6_teacher_42 rfl rfl ⟨(Nat.le_of_ble_eq_true rfl), (Nat.le_of_ble_eq_true rfl)⟩ (⟨by rw [en]; rfl, by rw [en]; exact h0, FrD.rf⟩)
    · exact absurd (nI_le (a := 12) (by omega) (by omega)) c6
def hix (h : Int32) : Option Nat := if 1 ≤ h ∧ h ≤ 8 then some h.toNatClampNeg else none
theorem hix_cases (t : Int32) : (hix t = none ∧ ¬ (1 ≤ t ∧ t ≤ 8)) ∨ ∃ j, 1 ≤ j ∧ j ≤ 8 ∧ t = nI j ∧ hix t = some j ∧ (1 ≤ t ∧ t ≤ 8) := by
  by_cases c : 1 ≤ t ∧ t ≤ 8
  · right
    have h1 : ¬ t < 0 := fun z => by
      have a1 := Int32.le_iff_toInt_le.mp c.1
      have a2 := Int32.lt_iff_toInt_lt.mp z
      have b1 : (1 : Int32).toInt = 1 := by decide
      have b2 : (0 : Int32).toInt = 0 := by decide
      omega
    obtain ⟨j, hj, rfl⟩ := nI_of h1
    have a1 := n_le (a := 1) c.1
    have a2 := n_le (b := 8) c.2
    exact ⟨j, a1, a2, rfl, by unfold hix; rw [if_pos c, nI_clamp hj], c⟩
  · exact Or.inl ⟨if_neg c, c⟩
def gaF (a b c d e : Nat) : Nat → Nat := fun k => if k = 0 then a else if k = 1 then b else if k = 2 then c else if k = 3 then d else e
def gaN (s : DS) (a b c d e : Int32) : Option DS := if zG s < 10 then match tix 6 a, tix 16 b, tix 8 c, tix 4 d, hix e with
  | some a1, some b1, some c1, some d1, some e1 => some ((zT s, zG s + 1, zD s, zN s + 1), s.2.1, s.2.2.1, s.2.2.2.1, up2 (zg s) (zG s) (gaF a1 b1 c1 d1 e1), s.2.2.2.2.2)
  | _, _, _, _, _ => none else none
def gaA (s : DS) (o : Option DS) : Int32 := match o with
  | none => -1
  | some _ => nI (zG s)
theorem sp_X6_gap {S : gl_H} {s : DS} (h : DP S s) (hW : DW s) (hN9 : zN s < 900000) (a b c d e : Int32) : Sp mX6_gap yX6_gap [.ref 0, .int a, .int b, .int c, .int d, .int e] S (fun r S1 => r = some (.int (gaA s (gaN s a b c d e))) ∧ DP S1 ((gaN s a b c d e).getD s) ∧ FrD S S1) := by
  refine gl_enter (j := 0) (by decide +kernel) rfl (fun h => absurd h (by decide)) (Nat.le_of_ble_eq_true rfl) rfl (fun x => ?_)
  have h0 := h
  obtain ⟨⟨gp, hD⟩, hT, hBx, hVx, hMx⟩ := h
  have htc := hW.1
  have hgc := hW.2.1
  by_cases ct : zG s < 10
  · rcases tix_cases (n := 6) (by decide) a with ⟨ga, fa⟩ | ⟨a1, ha, rfl, ga⟩
    · have fa : ¬ (0 ≤ a ∧ a ≤ 5) := fa
      have en : gaN s a b c d e = none := by unfold gaN; rw [if_pos ct, ga]
      refine gg_aload_n dX6_gap_0 rfl rfl ?_
      refine gf_X6_93 rfl dX6_gap_1 hD.1 rfl ?_
      refine gg_bipush (v := 10) dX6_gap_4 (by decide) ?_
      refine gg_icmp_ge (tgt := 54) dX6_gap_6 (by decide) (fun c6 => ?_) (fun c6 => ?_)
      · exact absurd (n_le (a := 10) c6) (by omega)
      · refine gg_iload_n dX6_gap_9 rfl rfl ?_
        refine gg_callS (sp_X6_isSchool S a) dX6_gap_10 kw_X6_79 rfl rfl (Nat.le_of_ble_eq_true rfl) (Nat.le_of_ble_eq_true rfl) (Nat.le_of_ble_eq_true rfl) ⟨(Nat.le_of_ble_eq_true rfl), (Nat.le_of_ble_eq_true rfl)⟩ (fun r S1 hq => ?_)
        refine gg_k (k2 := (0, 0)) rfl ?_
        obtain ⟨e9, rfl⟩ := hq
        rw [e9, if_neg fa]
        clear e9 S1
        refine gg_if_eq (tgt := 54) dX6_gap_13 (by decide) (fun c13 => ?_) (fun c13 => ?_)
        · refine gg_iconst (v := -1) dX6_gap_54 (by decide) ?_
          exact gg_ireturn dX6_gap_55 rfl rfl ⟨(Nat.le_of_ble_eq_true rfl), (Nat.le_of_ble_eq_true rfl)⟩ (⟨by rw [en]; rfl, by rw [en]; exact h0, FrD.rf⟩)
        · exact absurd rfl c13
    · have fa : (0 : Int32) ≤ nI a1 ∧ nI a1 ≤ 5 := tix_in (n := 6) (by decide) ha
      rcases tix_cases (n := 16) (by decide) b with ⟨gb, fb⟩ | ⟨b1, hb, rfl, gb⟩
      · have fb : ¬ (0 ≤ b ∧ b ≤ 15) := fb
        have en : gaN s (nI a1) b c d e = none := by unfold gaN; rw [if_pos ct, ga, gb]
        refine gg_aload_n dX6_gap_0 rfl rfl ?_
        refine gf_X6_93 rfl dX6_gap_1 hD.1 rfl ?_
        refine gg_bipush (v := 10) dX6_gap_4 (by decide) ?_
        refine gg_icmp_ge (tgt := 54) dX6_gap_6 (by decide) (fun c6 => ?_) (fun c6 => ?_)
        · exact absurd (n_le (a := 10) c6) (by omega)
        · refine gg_iload_n dX6_gap_9 rfl rfl ?_
          refine gg_callS (sp_X6_isSchool S (nI a1)) dX6_gap_10 kw_X6_79 rfl rfl (Nat.le_of_ble_eq_true rfl) (Nat.le_of_ble_eq_true rfl) (Nat.le_of_ble_eq_true rfl) ⟨(Nat.le_of_ble_eq_true rfl), (Nat.le_of_ble_eq_true rfl)⟩ (fun r S1 hq => ?_)
          refine gg_k (k2 := (0, 0)) rfl ?_
          obtain ⟨e9, rfl⟩ := hq
          rw [e9, if_pos fa]
          clear e9 S1
          refine gg_if_eq (tgt := 54) dX6_gap_13 (by decide) (fun c13 => ?_) (fun c13 => ?_)
          · exact absurd c13 (by decide)
          · refine gg_iload_n dX6_gap_16 rfl rfl ?_
            refine gg_callS (sp_X6_isClass S b) dX6_gap_17 kw_X6_96 rfl rfl (Nat.le_of_ble_eq_true rfl) (Nat.le_of_ble_eq_true rfl) (Nat.le_of_ble_eq_true rfl) ⟨(Nat.le_of_ble_eq_true rfl), (Nat.le_of_ble_eq_true rfl)⟩ (fun r S1 hq => ?_)
            refine gg_k (k2 := (0, 0)) rfl ?_
            obtain ⟨e9, rfl⟩ := hq
            rw [e9, if_neg fb]
            clear e9 S1
            refine gg_if_eq (tgt := 54) dX6_gap_20 (by decide) (fun c20 => ?_) (fun c20 => ?_)
            · refine gg_iconst (v := -1) dX6_gap_54 (by decide) ?_
              exact gg_ireturn dX6_gap_55 rfl rfl ⟨(Nat.le_of_ble_eq_true rfl), (Nat.le_of_ble_eq_true rfl)⟩ (⟨by rw [en]; rfl, by rw [en]; exact h0, FrD.rf⟩)
            · exact absurd rfl c20
      · have fb : (0 : Int32) ≤ nI b1 ∧ nI b1 ≤ 15 := tix_in (n := 16) (by decide) hb
        rcases tix_cases (n := 8) (by decide) c with ⟨gc, fc⟩ | ⟨c1, hc, rfl, gc⟩
        · have fc : ¬ (0 ≤ c ∧ c ≤ 7) := fc
          have en : gaN s (nI a1) (nI b1) c d e = none := by unfold gaN; rw [if_pos ct, ga, gb, gc]
          refine gg_aload_n dX6_gap_0 rfl rfl ?_
          refine gf_X6_93 rfl dX6_gap_1 hD.1 rfl ?_
          refine gg_bipush (v := 10) dX6_gap_4 (by decide) ?_
          refine gg_icmp_ge (tgt := 54) dX6_gap_6 (by decide) (fun c6 => ?_) (fun c6 => ?_)
          · exact absurd (n_le (a := 10) c6) (by omega)
          · refine gg_iload_n dX6_gap_9 rfl rfl ?_
            refine gg_callS (sp_X6_isSchool S (nI a1)) dX6_gap_10 kw_X6_79 rfl rfl (Nat.le_of_ble_eq_true rfl) (Nat.le_of_ble_eq_true rfl) (Nat.le_of_ble_eq_true rfl) ⟨(Nat.le_of_ble_eq_true rfl), (Nat.le_of_ble_eq_true rfl)⟩ (fun r S1 hq => ?_)
            refine gg_k (k2 := (0, 0)) rfl ?_
            obtain ⟨e9, rfl⟩ := hq
            rw [e9, if_pos fa]
            clear e9 S1
            refine gg_if_eq (tgt := 54) dX6_gap_13 (by decide) (fun c13 => ?_) (fun c13 => ?_)
            · exact absurd c13 (by decide)
            · refine gg_iload_n dX6_gap_16 rfl rfl ?_
              refine gg_callS (sp_X6_isClass S (nI b1)) dX6_gap_17 kw_X6_96 rfl rfl (Nat.le_of_ble_eq_true rfl) (Nat.le_of_ble_eq_true rfl) (Nat.le_of_ble_eq_true rfl) ⟨(Nat.le_of_ble_eq_true rfl), (Nat.le_of_ble_eq_true rfl)⟩ (fun r S1 hq => ?_)
              refine gg_k (k2 := (0, 0)) rfl ?_
              obtain ⟨e9, rfl⟩ := hq
              rw [e9, if_pos fb]
              clear e9 S1
              refine gg_if_eq (tgt := 54) dX6_gap_20 (by decide) (fun c20 => ?_) (fun c20 => ?_)
              · exact absurd c20 (by decide)
              · refine gg_iload_n dX6_gap_23 rfl rfl ?_
                refine gg_iconst (v := 0) dX6_gap_24 (by decide) ?_
                refine gg_bipush (v := 7) dX6_gap_25 (by decide) ?_
                refine gg_callS (sp_X6_within S c 0 7) dX6_gap_27 kw_X6_61 rfl rfl (Nat.le_of_ble_eq_true rfl) (Nat.le_of_ble_eq_true rfl) (Nat.le_of_ble_eq_true rfl) ⟨(Nat.le_of_ble_eq_true rfl), (Nat.le_of_ble_eq_true rfl)⟩ (fun r S1 hq => ?_)
                refine gg_k (k2 := (0, 0)) rfl ?_
                obtain ⟨e9, rfl⟩ := hq
                rw [e9, if_neg fc]
                clear e9 S1
                refine gg_if_eq (tgt := 54) dX6_gap_30 (by decide) (fun c30 => ?_) (fun c30 => ?_)
                · refine gg_iconst (v := -1) dX6_gap_54 (by decide) ?_
                  exact gg_ireturn dX6_gap_55 rfl rfl ⟨(Nat.le_of_ble_eq_true rfl), (Nat.le_of_ble_eq_true rfl)⟩ (⟨by rw [en]; rfl, by rw [en]; exact h0, FrD.rf⟩)
                · exact absurd rfl c30
        · have fc : (0 : Int32) ≤ nI c1 ∧ nI c1 ≤ 7 := tix_in (n := 8) (by decide) hc
          rcases tix_cases (n := 4) (by decide) d with ⟨gd, fd⟩ | ⟨d1, hd, rfl, gd⟩
          · have fd : ¬ (0 ≤ d ∧ d ≤ 3) := fd
            have en : gaN s (nI a1) (nI b1) (nI c1) d e = none := by unfold gaN; rw [if_pos ct, ga, gb, gc, gd]
            refine gg_aload_n dX6_gap_0 rfl rfl ?_
            refine gf_X6_93 rfl dX6_gap_1 hD.1 rfl ?_
            refine gg_bipush (v := 10) dX6_gap_4 (by decide) ?_
            refine gg_icmp_ge (tgt := 54) dX6_gap_6 (by decide) (fun c6 => ?_) (fun c6 => ?_)
            · exact absurd (n_le (a := 10) c6) (by omega)
            · refine gg_iload_n dX6_gap_9 rfl rfl ?_
              refine gg_callS (sp_X6_isSchool S (nI a1)) dX6_gap_10 kw_X6_79 rfl rfl (Nat.le_of_ble_eq_true rfl) (Nat.le_of_ble_eq_true rfl) (Nat.le_of_ble_eq_true rfl) ⟨(Nat.le_of_ble_eq_true rfl), (Nat.le_of_ble_eq_true rfl)⟩ (fun r S1 hq => ?_)
              refine gg_k (k2 := (0, 0)) rfl ?_
              obtain ⟨e9, rfl⟩ := hq
              rw [e9, if_pos fa]
              clear e9 S1
              refine gg_if_eq (tgt := 54) dX6_gap_13 (by decide) (fun c13 => ?_) (fun c13 => ?_)
              · exact absurd c13 (by decide)
              · refine gg_iload_n dX6_gap_16 rfl rfl ?_
                refine gg_callS (sp_X6_isClass S (nI b1)) dX6_gap_17 kw_X6_96 rfl rfl (Nat.le_of_ble_eq_true rfl) (Nat.le_of_ble_eq_true rfl) (Nat.le_of_ble_eq_true rfl) ⟨(Nat.le_of_ble_eq_true rfl), (Nat.le_of_ble_eq_true rfl)⟩ (fun r S1 hq => ?_)
                refine gg_k (k2 := (0, 0)) rfl ?_
                obtain ⟨e9, rfl⟩ := hq
                rw [e9, if_pos fb]
                clear e9 S1
                refine gg_if_eq (tgt := 54) dX6_gap_20 (by decide) (fun c20 => ?_) (fun c20 => ?_)
                · exact absurd c20 (by decide)
                · refine gg_iload_n dX6_gap_23 rfl rfl ?_
                  refine gg_iconst (v := 0) dX6_gap_24 (by decide) ?_
                  refine gg_bipush (v := 7) dX6_gap_25 (by decide) ?_
                  refine gg_callS (sp_X6_within S (nI c1) 0 7) dX6_gap_27 kw_X6_61 rfl rfl (Nat.le_of_ble_eq_true rfl) (Nat.le_of_ble_eq_true rfl) (Nat.le_of_ble_eq_true rfl) ⟨(Nat.le_of_ble_eq_true rfl), (Nat.le_of_ble_eq_true rfl)⟩ (fun r S1 hq => ?_)
                  refine gg_k (k2 := (0, 0)) rfl ?_
                  obtain ⟨e9, rfl⟩ := hq
                  rw [e9, if_pos fc]
                  clear e9 S1
                  refine gg_if_eq (tgt := 54) dX6_gap_30 (by decide) (fun c30 => ?_) (fun c30 => ?_)
                  · exact absurd c30 (by decide)
                  · refine gg_iload dX6_gap_33 rfl ?_
                    refine gg_iconst (v := 0) dX6_gap_35 (by decide) ?_
                    refine gg_iconst (v := 3) dX6_gap_36 (by decide) ?_
                    refine gg_callS (sp_X6_within S d 0 3) dX6_gap_37 kw_X6_61 rfl rfl (Nat.le_of_ble_eq_true rfl) (Nat.le_of_ble_eq_true rfl) (Nat.le_of_ble_eq_true rfl) ⟨(Nat.le_of_ble_eq_true rfl), (Nat.le_of_ble_eq_true rfl)⟩ (fun r S1 hq => ?_)
                    refine gg_k (k2 := (0, 0)) rfl ?_
                    obtain ⟨e9, rfl⟩ := hq
                    rw [e9, if_neg fd]
                    clear e9 S1
                    refine gg_if_eq (tgt := 54) dX6_gap_40 (by decide) (fun c40 => ?_) (fun c40 => ?_)
                    · refine gg_iconst (v := -1) dX6_gap_54 (by decide) ?_
                      exact gg_ireturn dX6_gap_55 rfl rfl ⟨(Nat.le_of_ble_eq_true rfl), (Nat.le_of_ble_eq_true rfl)⟩ (⟨by rw [en]; rfl, by rw [en]; exact h0, FrD.rf⟩)
                    · exact absurd rfl c40
          · have fd : (0 : Int32) ≤ nI d1 ∧ nI d1 ≤ 3 := tix_in (n := 4) (by decide) hd
            rcases hix_cases e with ⟨ge, fe⟩ | ⟨e1, he0, he1, rfl, ge, fe⟩
            · have en : gaN s (nI a1) (nI b1) (nI c1) (nI d1) e = none := by unfold gaN; rw [if_pos ct, ga, gb, gc, gd, ge]
              refine gg_aload_n dX6_gap_0 rfl rfl ?_
              refine gf_X6_93 rfl dX6_gap_1 hD.1 rfl ?_
              refine gg_bipush (v := 10) dX6_gap_4 (by decide) ?_
              refine gg_icmp_ge (tgt := 54) dX6_gap_6 (by decide) (fun c6 => ?_) (fun c6 => ?_)
              · exact absurd (n_le (a := 10) c6) (by omega)
              · refine gg_iload_n dX6_gap_9 rfl rfl ?_
                refine gg_callS (sp_X6_isSchool S (nI a1)) dX6_gap_10 kw_X6_79 rfl rfl (Nat.le_of_ble_eq_true rfl) (Nat.le_of_ble_eq_true rfl) (Nat.le_of_ble_eq_true rfl) ⟨(Nat.le_of_ble_eq_true rfl), (Nat.le_of_ble_eq_true rfl)⟩ (fun r S1 hq => ?_)
                refine gg_k (k2 := (0, 0)) rfl ?_
                obtain ⟨e9, rfl⟩ := hq
                rw [e9, if_pos fa]
                clear e9 S1
                refine gg_if_eq (tgt := 54) dX6_gap_13 (by decide) (fun c13 => ?_) (fun c13 => ?_)
                · exact absurd c13 (by decide)
                · refine gg_iload_n dX6_gap_16 rfl rfl ?_
                  refine gg_callS (sp_X6_isClass S (nI b1)) dX6_gap_17 kw_X6_96 rfl rfl (Nat.le_of_ble_eq_true rfl) (Nat.le_of_ble_eq_true rfl) (Nat.le_of_ble_eq_true rfl) ⟨(Nat.le_of_ble_eq_true rfl), (Nat.le_of_ble_eq_true rfl)⟩ (fun r S1 hq => ?_)
                  refine gg_k (k2 := (0, 0)) rfl ?_
                  obtain ⟨e9, rfl⟩ := hq
                  rw [e9, if_pos fb]
                  clear e9 S1
                  refine gg_if_eq (tgt := 54) dX6_gap_20 (by decide) (fun c20 => ?_) (fun c20 => ?_)
                  · exact absurd c20 (by decide)
                  · refine gg_iload_n dX6_gap_23 rfl rfl ?_
                    refine gg_iconst (v := 0) dX6_gap_24 (by decide) ?_
                    refine gg_bipush (v := 7) dX6_gap_25 (by decide) ?_
                    refine gg_callS (sp_X6_within S (nI c1) 0 7) dX6_gap_27 kw_X6_61 rfl rfl (Nat.le_of_ble_eq_true rfl) (Nat.le_of_ble_eq_true rfl) (Nat.le_of_ble_eq_true rfl) ⟨(Nat.le_of_ble_eq_true rfl), (Nat.le_of_ble_eq_true rfl)⟩ (fun r S1 hq => ?_)
                    refine gg_k (k2 := (0, 0)) rfl ?_
                    obtain ⟨e9, rfl⟩ := hq
                    rw [e9, if_pos fc]
                    clear e9 S1
                    refine gg_if_eq (tgt := 54) dX6_gap_30 (by decide) (fun c30 => ?_) (fun c30 => ?_)
                    · exact absurd c30 (by decide)
                    · refine gg_iload dX6_gap_33 rfl ?_
                      refine gg_iconst (v := 0) dX6_gap_35 (by decide) ?_
                      refine gg_iconst (v := 3) dX6_gap_36 (by decide) ?_
                      refine gg_callS (sp_X6_within S (nI d1) 0 3) dX6_gap_37 kw_X6_61 rfl rfl (Nat.le_of_ble_eq_true rfl) (Nat.le_of_ble_eq_true rfl) (Nat.le_of_ble_eq_true rfl) ⟨(Nat.le_of_ble_eq_true rfl), (Nat.le_of_ble_eq_true rfl)⟩ (fun r S1 hq => ?_)
                      refine gg_k (k2 := (0, 0)) rfl ?_
                      obtain ⟨e9, rfl⟩ := hq
                      rw [e9, if_pos fd]
                      clear e9 S1
                      refine gg_if_eq (tgt := 54) dX6_gap_40 (by decide) (fun c40 => ?_) (fun c40 => ?_)
                      · exact absurd c40 (by decide)
                      · refine gg_iload dX6_gap_43 rfl ?_
                        refine gg_iconst (v := 1) dX6_gap_45 (by decide) ?_
                        refine gg_bipush (v := 8) dX6_gap_46 (by decide) ?_
                        refine gg_callS (sp_X6_within S e 1 8) dX6_gap_48 kw_X6_61 rfl rfl (Nat.le_of_ble_eq_true rfl) (Nat.le_of_ble_eq_true rfl) (Nat.le_of_ble_eq_true rfl) ⟨(Nat.le_of_ble_eq_true rfl), (Nat.le_of_ble_eq_true rfl)⟩ (fun r S1 hq => ?_)
                        refine gg_k (k2 := (0, 0)) rfl ?_
                        obtain ⟨e9, rfl⟩ := hq
                        rw [e9, if_neg fe]
                        clear e9 S1
                        refine gg_if_ne (tgt := 56) dX6_gap_51 (by decide) (fun c51 => ?_) (fun c51 => ?_)
                        · exact absurd rfl c51
                        · refine gg_iconst (v := -1) dX6_gap_54 (by decide) ?_
                          exact gg_ireturn dX6_gap_55 rfl rfl ⟨(Nat.le_of_ble_eq_true rfl), (Nat.le_of_ble_eq_true rfl)⟩ (⟨by rw [en]; rfl, by rw [en]; exact h0, FrD.rf⟩)
            · skip
              have en : gaN s (nI a1) (nI b1) (nI c1) (nI d1) (nI e1) = some ((zT s, zG s + 1, zD s, zN s + 1), s.2.1, s.2.2.1, s.2.2.2.1, up2 (zg s) (zG s) (gaF a1 b1 c1 d1 e1), s.2.2.2.2.2) := by unfold gaN; rw [if_pos ct, ga, gb, gc, gd, ge]
              refine gg_aload_n dX6_gap_0 rfl rfl ?_
              refine gf_X6_93 rfl dX6_gap_1 hD.1 rfl ?_
              refine gg_bipush (v := 10) dX6_gap_4 (by decide) ?_
              refine gg_icmp_ge (tgt := 54) dX6_gap_6 (by decide) (fun c6 => ?_) (fun c6 => ?_)
              · exact absurd (n_le (a := 10) c6) (by omega)
              · refine gg_iload_n dX6_gap_9 rfl rfl ?_
                refine gg_callS (sp_X6_isSchool S (nI a1)) dX6_gap_10 kw_X6_79 rfl rfl (Nat.le_of_ble_eq_true rfl) (Nat.le_of_ble_eq_true rfl) (Nat.le_of_ble_eq_true rfl) ⟨(Nat.le_of_ble_eq_true rfl), (Nat.le_of_ble_eq_true rfl)⟩ (fun r S1 hq => ?_)
                refine gg_k (k2 := (0, 0)) rfl ?_
                obtain ⟨e9, rfl⟩ := hq
                rw [e9, if_pos fa]
                clear e9 S1
                refine gg_if_eq (tgt := 54) dX6_gap_13 (by decide) (fun c13 => ?_) (fun c13 => ?_)
                · exact absurd c13 (by decide)
                · refine gg_iload_n dX6_gap_16 rfl rfl ?_
                  refine gg_callS (sp_X6_isClass S (nI b1)) dX6_gap_17 kw_X6_96 rfl rfl (Nat.le_of_ble_eq_true rfl) (Nat.le_of_ble_eq_true rfl) (Nat.le_of_ble_eq_true rfl) ⟨(Nat.le_of_ble_eq_true rfl), (Nat.le_of_ble_eq_true rfl)⟩ (fun r S1 hq => ?_)
                  refine gg_k (k2 := (0, 0)) rfl ?_
                  obtain ⟨e9, rfl⟩ := hq
                  rw [e9, if_pos fb]
                  clear e9 S1
                  refine gg_if_eq (tgt := 54) dX6_gap_20 (by decide) (fun c20 => ?_) (fun c20 => ?_)
                  · exact absurd c20 (by decide)
                  · refine gg_iload_n dX6_gap_23 rfl rfl ?_
                    refine gg_iconst (v := 0) dX6_gap_24 (by decide) ?_
                    refine gg_bipush (v := 7) dX6_gap_25 (by decide) ?_
                    refine gg_callS (sp_X6_within S (nI c1) 0 7) dX6_gap_27 kw_X6_61 rfl rfl (Nat.le_of_ble_eq_true rfl) (Nat.le_of_ble_eq_true rfl) (Nat.le_of_ble_eq_true rfl) ⟨(Nat.le_of_ble_eq_true rfl), (Nat.le_of_ble_eq_true rfl)⟩ (fun r S1 hq => ?_)
                    refine gg_k (k2 := (0, 0)) rfl ?_
                    obtain ⟨e9, rfl⟩ := hq
                    rw [e9, if_pos fc]
                    clear e9 S1
                    refine gg_if_eq (tgt := 54) dX6_gap_30 (by decide) (fun c30 => ?_) (fun c30 => ?_)
                    · exact absurd c30 (by decide)
                    · refine gg_iload dX6_gap_33 rfl ?_
                      refine gg_iconst (v := 0) dX6_gap_35 (by decide) ?_
                      refine gg_iconst (v := 3) dX6_gap_36 (by decide) ?_
                      refine gg_callS (sp_X6_within S (nI d1) 0 3) dX6_gap_37 kw_X6_61 rfl rfl (Nat.le_of_ble_eq_true rfl) (Nat.le_of_ble_eq_true rfl) (Nat.le_of_ble_eq_true rfl) ⟨(Nat.le_of_ble_eq_true rfl), (Nat.le_of_ble_eq_true rfl)⟩ (fun r S1 hq => ?_)
                      refine gg_k (k2 := (0, 0)) rfl ?_
                      obtain ⟨e9, rfl⟩ := hq
                      rw [e9, if_pos fd]
                      clear e9 S1
                      refine gg_if_eq (tgt := 54) dX6_gap_40 (by decide) (fun c40 => ?_) (fun c40 => ?_)
                      · exact absurd c40 (by decide)
                      · refine gg_iload dX6_gap_43 rfl ?_
                        refine gg_iconst (v := 1) dX6_gap_45 (by decide) ?_
                        refine gg_bipush (v := 8) dX6_gap_46 (by decide) ?_
                        refine gg_callS (sp_X6_within S (nI e1) 1 8) dX6_gap_48 kw_X6_61 rfl rfl (Nat.le_of_ble_eq_true rfl) (Nat.le_of_ble_eq_true rfl) (Nat.le_of_ble_eq_true rfl) ⟨(Nat.le_of_ble_eq_true rfl), (Nat.le_of_ble_eq_true rfl)⟩ (fun r S1 hq => ?_)
                        refine gg_k (k2 := (0, 0)) rfl ?_
                        obtain ⟨e9, rfl⟩ := hq
                        rw [e9, if_pos fe]
                        clear e9 S1
                        refine gg_if_ne (tgt := 56) dX6_gap_51 (by decide) (fun c51 => ?_) (fun c51 => ?_)
                        · refine gg_aload_n dX6_gap_56 rfl rfl ?_
                          refine gf_X6_31 rfl dX6_gap_57 hD.1 rfl ?_
                          refine gg_aload_n dX6_gap_60 rfl rfl ?_
                          refine gf_X6_93 rfl dX6_gap_61 hD.1 rfl ?_
                          refine gg_new (ci := 0) (fs := [.int 0, .int 0, .int 0, .int 0, .int 0]) (ty := tyX0) (1000 + zN s) dX6_gap_64 igX0 tyX0_ok nw_X6_29 rfl (by decide +kernel) (fun v hv r e => by subst e; simp at hv) (hD.2.2.2.2.2.2 _ (Nat.le_refl _)) (by omega) ⟨(Nat.le_of_ble_eq_true rfl), (Nat.le_of_ble_eq_true rfl)⟩ ?_
                          refine gg_k (k2 := (1, 5)) rfl ?_
                          refine gg_ob (fun S1 hP hO => ?_)
                          refine gg_dup dX6_gap_67 rfl ?_
                          refine gg_iload_n dX6_gap_68 rfl rfl ?_
                          refine gg_iload_n dX6_gap_69 rfl rfl ?_
                          refine gg_iload_n dX6_gap_70 rfl rfl ?_
                          refine gg_iload dX6_gap_71 rfl ?_
                          refine gg_iload dX6_gap_73 rfl ?_
                          refine gg_callI (sp_X0_init hP (nI a1) (nI b1) (nI c1) (nI d1) (nI e1)) dX6_gap_75 kw_X6_99 rfl rfl rfl rfl (Nat.le_of_ble_eq_true rfl) (Nat.le_of_ble_eq_true rfl) (Nat.le_of_ble_eq_true rfl) ⟨(Nat.le_of_ble_eq_true rfl), (Nat.le_of_ble_eq_true rfl)⟩ (fun r S2 hq => ?_)
                          refine gg_k (k2 := (1, 5)) rfl ?_
                          obtain ⟨rfl, hE, hf⟩ := hq
                          have h01 : S2 0 = _ := ((hf 0 (by omega)).trans (hO 0 (by omega))).trans hD.1
                          have h21 : S2 2 = _ := ((hf 2 (by omega)).trans (hO 2 (by omega))).trans hD.2.2.1
                          refine gg_ast_q 5 (q0 := (RX0, TX0, 5)) (fun _ => rfl) rfl (zG s) dX6_gap_78 h21 hE rfl ct (by decide) ?_
                          refine gg_ob (fun S3 h23 hO3 => ?_)
                          have h03 : S3 0 = _ := (hO3 0 (by decide)).trans h01
                          refine gg_aload_n dX6_gap_79 rfl rfl ?_
                          refine gg_dup dX6_gap_80 rfl ?_
                          refine gf_X6_93 rfl dX6_gap_81 h03 rfl ?_
                          refine gg_iconst (v := 1) dX6_gap_84 (by decide) ?_
                          refine gg_iadd dX6_gap_85 ?_
                          refine pf_X6_93 rfl dX6_gap_86 h03 (Nat.le_of_ble_eq_true rfl) ?_
                          rw [nI_1]
                          refine gg_ob (fun S4 h04 hO4 => ?_)
                          refine gg_aload_n dX6_gap_89 rfl rfl ?_
                          refine gf_X6_93 rfl dX6_gap_90 h04 rfl ?_
                          refine gg_iconst (v := 1) dX6_gap_93 (by decide) ?_
                          refine gg_isub dX6_gap_94 ?_
                          have hA : ∀ z, z ≠ 0 → z ≠ 2 → z ≠ 1000 + zN s → S4 z = S z := fun z z0 z1 z2 => (((hO4 z z0).trans (hO3 z z1)).trans (hf z z2)).trans (hO z z2)
                          refine gg_ireturn dX6_gap_95 rfl rfl ⟨(Nat.le_of_ble_eq_true rfl), (Nat.le_of_ble_eq_true rfl)⟩ ?_
                          refine ⟨by rw [en, nI_pred]; rfl, ?_, fun z z1 z2 => hA z (by omega) (by omega) (by omega)⟩
                          rw [en]
                          refine ⟨⟨va_up gp (zG s) (some (1000 + zN s)), h04, (hA 1 (by decide) (by decide) (by omega)).trans hD.2.1, (hO4 2 (by decide)).trans h23, fun t ht => (hD.2.2.2.1 t ht).keep (hA _ (by omega) (by omega) (by have := hW.1; have ht : t < zT s := ht; omega)) (hA _ (by omega) (by omega) (by have := hW.1; have ht : t < zT s := ht; omega)), fun g hg => ?_, fun t t1 t2 => ⟨(hA _ (by omega) (by omega) (by omega)).trans (hD.2.2.2.2.2.1 t t1 t2).1, (hA _ (by omega) (by omega) (by omega)).trans (hD.2.2.2.2.2.1 t t1 t2).2⟩, fun z z1 => ?_⟩, ⟨(hA 3 (by decide) (by decide) (by omega)).trans hT.1, (hA 4 (by decide) (by decide) (by omega)).trans hT.2⟩, ?_, ?_, ?_⟩
                          · show ∃ q, va_up gp (zG s) (some (1000 + zN s)) g = some q ∧ 1000 ≤ q ∧ q < 1000000 ∧ PG S4 q (fun k => nI (up2 (zg s) (zG s) (gaF a1 b1 c1 d1 e1) g k))
                            have hg : g < zG s + 1 := hg
                            by_cases eg : g = zG s
                            · subst eg
                              rw [up2_s, va_up, if_pos rfl]
                              exact ⟨1000 + zN s, rfl, by omega, by omega, ((hO4 _ (by omega)).trans (hO3 _ (by omega))).trans hE⟩
                            · rw [up2_n (zg s) _ eg, va_up, if_neg eg]
                              obtain ⟨q, h1, h2, h3, h4⟩ := hD.2.2.2.2.1 g (by omega)
                              refine ⟨q, h1, h2, h3, (hA q (by omega) (by omega) (fun z => ?_)).trans h4⟩
                              have h5 := hD.2.2.2.2.2.2 q (by omega)
                              rw [show S q = _ from h4] at h5
                              cases h5
                          · have z1 : 1000 + (zN s + 1) ≤ z := z1
                            exact (hA z (by omega) (by omega) (by omega)).trans (hD.2.2.2.2.2.2 z (by omega))
                          · obtain ⟨num, dr, pl, g0, g1⟩ := hBx
                            exact ⟨num, dr, pl, g0, (hA 5 (by decide) (by decide) (by omega)).trans g1.1, (hA 6 (by decide) (by decide) (by omega)).trans g1.2.1, (hA 7 (by decide) (by decide) (by omega)).trans g1.2.2⟩
                          · obtain ⟨nx, g0, g1, g2⟩ := hVx
                            exact ⟨nx, g0, g1, (hA 8 (by decide) (by decide) (by omega)).trans g2.1, (hA 9 (by decide) (by decide) (by omega)).trans g2.2.1, (hA 10 (by decide) (by decide) (by omega)).trans g2.2.2.1, (hA 11 (by decide) (by decide) (by omega)).trans g2.2.2.2⟩
                          · obtain ⟨og, tk, w, tks, a9, tl, par, g1, g2⟩ := hMx
                            exact ⟨og, tk, w, tks, a9, tl, par, g1.keep (fun z z1 z2 => hA z (by omega) (by omega) (by omega)), g2⟩
                        · exact absurd c51 (by decide)
  · have en : gaN s a b c d e = none := if_neg ct
    refine gg_aload_n dX6_gap_0 rfl rfl ?_
    refine gf_X6_93 rfl dX6_gap_1 hD.1 rfl ?_
    refine gg_bipush (v := 10) dX6_gap_4 (by decide) ?_
    refine gg_icmp_ge (tgt := 54) dX6_gap_6 (by decide) (fun c6 => ?_) (fun c6 => ?_)
    · refine gg_iconst (v := -1) dX6_gap_54 (by decide) ?_
      exact gg_ireturn dX6_gap_55 rfl rfl ⟨(Nat.le_of_ble_eq_true rfl), (Nat.le_of_ble_eq_true rfl)⟩ (⟨by rw [en]; rfl, by rw [en]; exact h0, FrD.rf⟩)
    · exact absurd (nI_le (a := 10) (by omega) (by omega)) c6
