/-! by program: the links of the constant pools, the methods' records -/
set_option maxRecDepth 20000 in
theorem goodX0 : wsX00.all goodWord = true := by decide +kernel
theorem igX0 : ∀ w ∈ wsX00, w ∈ gl_T := fun w h => gl_T_in (inX0 w h) (List.all_eq_true.mp goodX0 w h)
set_option maxRecDepth 20000 in
theorem goodX1 : wsX10.all goodWord = true := by decide +kernel
theorem igX1 : ∀ w ∈ wsX10, w ∈ gl_T := fun w h => gl_T_in (inX1 w h) (List.all_eq_true.mp goodX1 w h)
set_option maxRecDepth 20000 in
theorem goodX2 : wsX20.all goodWord = true := by decide +kernel
theorem igX2 : ∀ w ∈ wsX20, w ∈ gl_T := fun w h => gl_T_in (inX2 w h) (List.all_eq_true.mp goodX2 w h)
set_option maxRecDepth 20000 in
theorem goodX3 : wsX30.all goodWord = true := by decide +kernel
theorem igX3 : ∀ w ∈ wsX30, w ∈ gl_T := fun w h => gl_T_in (inX3 w h) (List.all_eq_true.mp goodX3 w h)
set_option maxRecDepth 20000 in
theorem goodX4 : wsX40.all goodWord = true := by decide +kernel
theorem igX4 : ∀ w ∈ wsX40, w ∈ gl_T := fun w h => gl_T_in (inX4 w h) (List.all_eq_true.mp goodX4 w h)
set_option maxRecDepth 20000 in
theorem goodX5 : wsX50.all goodWord = true := by decide +kernel
theorem igX5 : ∀ w ∈ wsX50, w ∈ gl_T := fun w h => gl_T_in (inX5 w h) (List.all_eq_true.mp goodX5 w h)
set_option maxRecDepth 20000 in
theorem goodX6 : wsX60.all goodWord = true := by decide +kernel
theorem igX6 : ∀ w ∈ wsX60, w ∈ gl_T := fun w h => gl_T_in (inX6 w h) (List.all_eq_true.mp goodX6 w h)
set_option maxRecDepth 20000 in
theorem goodX7 : wsX70.all goodWord = true := by decide +kernel
theorem igX7 : ∀ w ∈ wsX70, w ∈ gl_T := fun w h => gl_T_in (inX7 w h) (List.all_eq_true.mp goodX7 w h)
set_option maxRecDepth 20000 in
theorem lk_X0_7 : Cond.fieldLink RX0 7 (TX0 0).1 (TX0 0).2.1 (TX0 0).2.2.1 ∈ gl_T := (gl_T_in (by decide +kernel) (by decide +kernel))
theorem pf_X0_7 {M : gl_M} {x : gl_X} {Z : State → Prop} {pc : Nat} {ls : List (Option Value)} {st : List Value} {S : gl_H} {k : Nat × Nat} {pl : Nat} {fs : List Value} {a : Int32} (hM : M.2.1 = RX0) (hi : M.2.2.2.2.1 = true) (hd : decode M.1 pc = .ok (.putfield 7, 3)) (hS : S pl = some (.inr (0, fs))) (hl : 0 < fs.length) (K : GG M x Z (pc + 3) ls st (gl_pu S pl (.inr (0, fs.set 0 (.int a)))) k) : GG M x Z pc ls (.int a :: .ref pl :: st) S k := gg_putFi (ty0 := tyX0) 0 hd igX0 tyX0_ok nmX0 rfl (by decide) (by rw [hM]; exact lk_X0_7) rfl rfl hi (by rw [hM]; rfl) (by decide +kernel) hS hl K
set_option maxRecDepth 20000 in
theorem lk_X0_13 : Cond.fieldLink RX0 13 (TX0 1).1 (TX0 1).2.1 (TX0 1).2.2.1 ∈ gl_T := (gl_T_in (by decide +kernel) (by decide +kernel))
theorem pf_X0_13 {M : gl_M} {x : gl_X} {Z : State → Prop} {pc : Nat} {ls : List (Option Value)} {st : List Value} {S : gl_H} {k : Nat × Nat} {pl : Nat} {fs : List Value} {a : Int32} (hM : M.2.1 = RX0) (hi : M.2.2.2.2.1 = true) (hd : decode M.1 pc = .ok (.putfield 13, 3)) (hS : S pl = some (.inr (0, fs))) (hl : 1 < fs.length) (K : GG M x Z (pc + 3) ls st (gl_pu S pl (.inr (0, fs.set 1 (.int a)))) k) : GG M x Z pc ls (.int a :: .ref pl :: st) S k := gg_putFi (ty0 := tyX0) 1 hd igX0 tyX0_ok nmX0 rfl (by decide) (by rw [hM]; exact lk_X0_13) rfl rfl hi (by rw [hM]; rfl) (by decide +kernel) hS hl K
set_option maxRecDepth 20000 in
theorem lk_X0_16 : Cond.fieldLink RX0 16 (TX0 2).1 (TX0 2).2.1 (TX0 2).2.2.1 ∈ gl_T := (gl_T_in (by decide +kernel) (by decide +kernel))
theorem pf_X0_16 {M : gl_M} {x : gl_X} {Z : State → Prop} {pc : Nat} {ls : List (Option Value)} {st : List Value} {S : gl_H} {k : Nat × Nat} {pl : Nat} {fs : List Value} {a : Int32} (hM : M.2.1 = RX0) (hi : M.2.2.2.2.1 = true) (hd : decode M.1 pc = .ok (.putfield 16, 3)) (hS : S pl = some (.inr (0, fs))) (hl : 2 < fs.length) (K : GG M x Z (pc + 3) ls st (gl_pu S pl (.inr (0, fs.set 2 (.int a)))) k) : GG M x Z pc ls (.int a :: .ref pl :: st) S k := gg_putFi (ty0 := tyX0) 2 hd igX0 tyX0_ok nmX0 rfl (by decide) (by rw [hM]; exact lk_X0_16) rfl rfl hi (by rw [hM]; rfl) (by decide +kernel) hS hl K
set_option maxRecDepth 20000 in
theorem lk_X0_19 : Cond.fieldLink RX0 19 (TX0 3).1 (TX0 3).2.1 (TX0 3).2.2.1 ∈ gl_T := (gl_T_in (by decide +kernel) (by decide +kernel))
theorem pf_X0_19 {M : gl_M} {x : gl_X} {Z : State → Prop} {pc : Nat} {ls : List (Option Value)} {st : List Value} {S : gl_H} {k : Nat × Nat} {pl : Nat} {fs : List Value} {a : Int32} (hM : M.2.1 = RX0) (hi : M.2.2.2.2.1 = true) (hd : decode M.1 pc = .ok (.putfield 19, 3)) (hS : S pl = some (.inr (0, fs))) (hl : 3 < fs.length) (K : GG M x Z (pc + 3) ls st (gl_pu S pl (.inr (0, fs.set 3 (.int a)))) k) : GG M x Z pc ls (.int a :: .ref pl :: st) S k := gg_putFi (ty0 := tyX0) 3 hd igX0 tyX0_ok nmX0 rfl (by decide) (by rw [hM]; exact lk_X0_19) rfl rfl hi (by rw [hM]; rfl) (by decide +kernel) hS hl K
set_option maxRecDepth 20000 in
theorem lk_X0_22 : Cond.fieldLink RX0 22 (TX0 4).1 (TX0 4).2.1 (TX0 4).2.2.1 ∈ gl_T := (gl_T_in (by decide +kernel) (by decide +kernel))
theorem pf_X0_22 {M : gl_M} {x : gl_X} {Z : State → Prop} {pc : Nat} {ls : List (Option Value)} {st : List Value} {S : gl_H} {k : Nat × Nat} {pl : Nat} {fs : List Value} {a : Int32} (hM : M.2.1 = RX0) (hi : M.2.2.2.2.1 = true) (hd : decode M.1 pc = .ok (.putfield 22, 3)) (hS : S pl = some (.inr (0, fs))) (hl : 4 < fs.length) (K : GG M x Z (pc + 3) ls st (gl_pu S pl (.inr (0, fs.set 4 (.int a)))) k) : GG M x Z pc ls (.int a :: .ref pl :: st) S k := gg_putFi (ty0 := tyX0) 4 hd igX0 tyX0_ok nmX0 rfl (by decide) (by rw [hM]; exact lk_X0_22) rfl rfl hi (by rw [hM]; rfl) (by decide +kernel) hS hl K
set_option maxRecDepth 20000 in
theorem lk_X1_13 : Cond.fieldLink RX1 13 (TX1 0).1 (TX1 0).2.1 (TX1 0).2.2.1 ∈ gl_T := (gl_T_in (by decide +kernel) (by decide +kernel))
theorem gf_X1_13 {M : gl_M} {x : gl_X} {Z : State → Prop} {pc : Nat} {ls : List (Option Value)} {st : List Value} {S : gl_H} {k : Nat × Nat} {pl : Nat} {fs : List Value} {v : Value} (hM : M.2.1 = RX1) (hd : decode M.1 pc = .ok (.getfield 13, 3)) (hS : S pl = some (.inr (1, fs))) (hv : fs[0]? = some v) (K : GG M x Z (pc + 3) ls (v :: st) S k) : GG M x Z pc ls (.ref pl :: st) S k := gg_get 0 hd igX1 rfl (by decide) (by rw [hM]; exact lk_X1_13) rfl hS hv K
theorem pf_X1_13 {M : gl_M} {x : gl_X} {Z : State → Prop} {pc : Nat} {ls : List (Option Value)} {st : List Value} {S : gl_H} {k : Nat × Nat} {pl : Nat} {fs : List Value} {rv : Nat} (hM : M.2.1 = RX1) (hi : M.2.2.2.2.1 = true) (hd : decode M.1 pc = .ok (.putfield 13, 3)) (hS : S pl = some (.inr (1, fs))) (hl : 0 < fs.length) (hrv : S rv ≠ none) (K : GG M x Z (pc + 3) ls st (gl_pu S pl (.inr (1, fs.set 0 (.ref rv)))) k) : GG M x Z pc ls (.ref rv :: .ref pl :: st) S k := gg_putF (ty0 := tyX1) (ty := tyX1 0) 0 hd igX1 tyX1_ok nmX1 rfl (by decide) (by rw [hM]; exact lk_X1_13) rfl rfl hi (by rw [hM]; rfl) (by decide +kernel) hS hl (fun a => ⟨rfl, rfl⟩) hrv K
set_option maxRecDepth 20000 in
theorem lk_X1_16 : Cond.fieldLink RX1 16 (TX1 1).1 (TX1 1).2.1 (TX1 1).2.2.1 ∈ gl_T := (gl_T_in (by decide +kernel) (by decide +kernel))
theorem gf_X1_16 {M : gl_M} {x : gl_X} {Z : State → Prop} {pc : Nat} {ls : List (Option Value)} {st : List Value} {S : gl_H} {k : Nat × Nat} {pl : Nat} {fs : List Value} {v : Value} (hM : M.2.1 = RX1) (hd : decode M.1 pc = .ok (.getfield 16, 3)) (hS : S pl = some (.inr (1, fs))) (hv : fs[1]? = some v) (K : GG M x Z (pc + 3) ls (v :: st) S k) : GG M x Z pc ls (.ref pl :: st) S k := gg_get 1 hd igX1 rfl (by decide) (by rw [hM]; exact lk_X1_16) rfl hS hv K
theorem pf_X1_16 {M : gl_M} {x : gl_X} {Z : State → Prop} {pc : Nat} {ls : List (Option Value)} {st : List Value} {S : gl_H} {k : Nat × Nat} {pl : Nat} {fs : List Value} {rv : Nat} (hM : M.2.1 = RX1) (hi : M.2.2.2.2.1 = true) (hd : decode M.1 pc = .ok (.putfield 16, 3)) (hS : S pl = some (.inr (1, fs))) (hl : 1 < fs.length) (hrv : S rv ≠ none) (K : GG M x Z (pc + 3) ls st (gl_pu S pl (.inr (1, fs.set 1 (.ref rv)))) k) : GG M x Z pc ls (.ref rv :: .ref pl :: st) S k := gg_putF (ty0 := tyX1) (ty := tyX1 1) 1 hd igX1 tyX1_ok nmX1 rfl (by decide) (by rw [hM]; exact lk_X1_16) rfl rfl hi (by rw [hM]; rfl) (by decide +kernel) hS hl (fun a => ⟨rfl, rfl⟩) hrv K
set_option maxRecDepth 20000 in
theorem lk_X1_20 : Cond.fieldLink RX1 20 (TX1 3).1 (TX1 3).2.1 (TX1 3).2.2.1 ∈ gl_T := (gl_T_in (by decide +kernel) (by decide +kernel))
theorem gf_X1_20 {M : gl_M} {x : gl_X} {Z : State → Prop} {pc : Nat} {ls : List (Option Value)} {st : List Value} {S : gl_H} {k : Nat × Nat} {pl : Nat} {fs : List Value} {v : Value} (hM : M.2.1 = RX1) (hd : decode M.1 pc = .ok (.getfield 20, 3)) (hS : S pl = some (.inr (1, fs))) (hv : fs[3]? = some v) (K : GG M x Z (pc + 3) ls (v :: st) S k) : GG M x Z pc ls (.ref pl :: st) S k := gg_get 3 hd igX1 rfl (by decide) (by rw [hM]; exact lk_X1_20) rfl hS hv K
theorem pf_X1_20 {M : gl_M} {x : gl_X} {Z : State → Prop} {pc : Nat} {ls : List (Option Value)} {st : List Value} {S : gl_H} {k : Nat × Nat} {pl : Nat} {fs : List Value} {rv : Nat} (hM : M.2.1 = RX1) (hi : M.2.2.2.2.1 = true) (hd : decode M.1 pc = .ok (.putfield 20, 3)) (hS : S pl = some (.inr (1, fs))) (hl : 3 < fs.length) (hrv : S rv ≠ none) (K : GG M x Z (pc + 3) ls st (gl_pu S pl (.inr (1, fs.set 3 (.ref rv)))) k) : GG M x Z pc ls (.ref rv :: .ref pl :: st) S k := gg_putF (ty0 := tyX1) (ty := tyX1 3) 3 hd igX1 tyX1_ok nmX1 rfl (by decide) (by rw [hM]; exact lk_X1_20) rfl rfl hi (by rw [hM]; rfl) (by decide +kernel) hS hl (fun a => ⟨rfl, rfl⟩) hrv K
set_option maxRecDepth 20000 in
theorem lk_X1_23 : Cond.fieldLink RX1 23 (TX1 5).1 (TX1 5).2.1 (TX1 5).2.2.1 ∈ gl_T := (gl_T_in (by decide +kernel) (by decide +kernel))
theorem gf_X1_23 {M : gl_M} {x : gl_X} {Z : State → Prop} {pc : Nat} {ls : List (Option Value)} {st : List Value} {S : gl_H} {k : Nat × Nat} {pl : Nat} {fs : List Value} {v : Value} (hM : M.2.1 = RX1) (hd : decode M.1 pc = .ok (.getfield 23, 3)) (hS : S pl = some (.inr (1, fs))) (hv : fs[5]? = some v) (K : GG M x Z (pc + 3) ls (v :: st) S k) : GG M x Z pc ls (.ref pl :: st) S k := gg_get 5 hd igX1 rfl (by decide) (by rw [hM]; exact lk_X1_23) rfl hS hv K
theorem pf_X1_23 {M : gl_M} {x : gl_X} {Z : State → Prop} {pc : Nat} {ls : List (Option Value)} {st : List Value} {S : gl_H} {k : Nat × Nat} {pl : Nat} {fs : List Value} {rv : Nat} (hM : M.2.1 = RX1) (hi : M.2.2.2.2.1 = true) (hd : decode M.1 pc = .ok (.putfield 23, 3)) (hS : S pl = some (.inr (1, fs))) (hl : 5 < fs.length) (hrv : S rv ≠ none) (K : GG M x Z (pc + 3) ls st (gl_pu S pl (.inr (1, fs.set 5 (.ref rv)))) k) : GG M x Z pc ls (.ref rv :: .ref pl :: st) S k := gg_putF (ty0 := tyX1) (ty := tyX1 5) 5 hd igX1 tyX1_ok nmX1 rfl (by decide) (by rw [hM]; exact lk_X1_23) rfl rfl hi (by rw [hM]; rfl) (by decide +kernel) hS hl (fun a => ⟨rfl, rfl⟩) hrv K
set_option maxRecDepth 20000 in
theorem lk_X1_27 : Cond.fieldLink RX1 27 (TX1 6).1 (TX1 6).2.1 (TX1 6).2.2.1 ∈ gl_T := (gl_T_in (by decide +kernel) (by decide +kernel))
theorem gf_X1_27 {M : gl_M} {x : gl_X} {Z : State → Prop} {pc : Nat} {ls : List (Option Value)} {st : List Value} {S : gl_H} {k : Nat × Nat} {pl : Nat} {fs : List Value} {v : Value} (hM : M.2.1 = RX1) (hd : decode M.1 pc = .ok (.getfield 27, 3)) (hS : S pl = some (.inr (1, fs))) (hv : fs[6]? = some v) (K : GG M x Z (pc + 3) ls (v :: st) S k) : GG M x Z pc ls (.ref pl :: st) S k := gg_get 6 hd igX1 rfl (by decide) (by rw [hM]; exact lk_X1_27) rfl hS hv K
theorem pf_X1_27 {M : gl_M} {x : gl_X} {Z : State → Prop} {pc : Nat} {ls : List (Option Value)} {st : List Value} {S : gl_H} {k : Nat × Nat} {pl : Nat} {fs : List Value} {rv : Nat} (hM : M.2.1 = RX1) (hi : M.2.2.2.2.1 = true) (hd : decode M.1 pc = .ok (.putfield 27, 3)) (hS : S pl = some (.inr (1, fs))) (hl : 6 < fs.length) (hrv : S rv ≠ none) (K : GG M x Z (pc + 3) ls st (gl_pu S pl (.inr (1, fs.set 6 (.ref rv)))) k) : GG M x Z pc ls (.ref rv :: .ref pl :: st) S k := gg_putF (ty0 := tyX1) (ty := tyX1 6) 6 hd igX1 tyX1_ok nmX1 rfl (by decide) (by rw [hM]; exact lk_X1_27) rfl rfl hi (by rw [hM]; rfl) (by decide +kernel) hS hl (fun a => ⟨rfl, rfl⟩) hrv K
set_option maxRecDepth 20000 in
theorem lk_X1_41 : Cond.fieldLink RX1 41 (TX1 2).1 (TX1 2).2.1 (TX1 2).2.2.1 ∈ gl_T := (gl_T_in (by decide +kernel) (by decide +kernel))
theorem gf_X1_41 {M : gl_M} {x : gl_X} {Z : State → Prop} {pc : Nat} {ls : List (Option Value)} {st : List Value} {S : gl_H} {k : Nat × Nat} {pl : Nat} {fs : List Value} {v : Value} (hM : M.2.1 = RX1) (hd : decode M.1 pc = .ok (.getfield 41, 3)) (hS : S pl = some (.inr (1, fs))) (hv : fs[2]? = some v) (K : GG M x Z (pc + 3) ls (v :: st) S k) : GG M x Z pc ls (.ref pl :: st) S k := gg_get 2 hd igX1 rfl (by decide) (by rw [hM]; exact lk_X1_41) rfl hS hv K
theorem pf_X1_41 {M : gl_M} {x : gl_X} {Z : State → Prop} {pc : Nat} {ls : List (Option Value)} {st : List Value} {S : gl_H} {k : Nat × Nat} {pl : Nat} {fs : List Value} {a : Int32} (hM : M.2.1 = RX1) (hd : decode M.1 pc = .ok (.putfield 41, 3)) (hS : S pl = some (.inr (1, fs))) (hl : 2 < fs.length) (K : GG M x Z (pc + 3) ls st (gl_pu S pl (.inr (1, fs.set 2 (.int a)))) k) : GG M x Z pc ls (.int a :: .ref pl :: st) S k := gg_put (ty0 := tyX1) (ty := .int) 2 hd igX1 tyX1_ok nmX1 rfl (by decide) (by rw [hM]; exact lk_X1_41) rfl rfl (by decide +kernel) hS hl rfl rfl (fun r e => by cases e) K
set_option maxRecDepth 20000 in
theorem lk_X1_45 : Cond.fieldLink RX1 45 (TX1 4).1 (TX1 4).2.1 (TX1 4).2.2.1 ∈ gl_T := (gl_T_in (by decide +kernel) (by decide +kernel))
theorem gf_X1_45 {M : gl_M} {x : gl_X} {Z : State → Prop} {pc : Nat} {ls : List (Option Value)} {st : List Value} {S : gl_H} {k : Nat × Nat} {pl : Nat} {fs : List Value} {v : Value} (hM : M.2.1 = RX1) (hd : decode M.1 pc = .ok (.getfield 45, 3)) (hS : S pl = some (.inr (1, fs))) (hv : fs[4]? = some v) (K : GG M x Z (pc + 3) ls (v :: st) S k) : GG M x Z pc ls (.ref pl :: st) S k := gg_get 4 hd igX1 rfl (by decide) (by rw [hM]; exact lk_X1_45) rfl hS hv K
theorem pf_X1_45 {M : gl_M} {x : gl_X} {Z : State → Prop} {pc : Nat} {ls : List (Option Value)} {st : List Value} {S : gl_H} {k : Nat × Nat} {pl : Nat} {fs : List Value} {a : Int32} (hM : M.2.1 = RX1) (hd : decode M.1 pc = .ok (.putfield 45, 3)) (hS : S pl = some (.inr (1, fs))) (hl : 4 < fs.length) (K : GG M x Z (pc + 3) ls st (gl_pu S pl (.inr (1, fs.set 4 (.int a)))) k) : GG M x Z pc ls (.int a :: .ref pl :: st) S k := gg_put (ty0 := tyX1) (ty := .int) 4 hd igX1 tyX1_ok nmX1 rfl (by decide) (by rw [hM]; exact lk_X1_45) rfl rfl (by decide +kernel) hS hl rfl rfl (fun r e => by cases e) K
set_option maxRecDepth 20000 in
theorem lk_X2_11 : Cond.fieldLink RX2 11 (TX2 0).1 (TX2 0).2.1 (TX2 0).2.2.1 ∈ gl_T := (gl_T_in (by decide +kernel) (by decide +kernel))
theorem gf_X2_11 {M : gl_M} {x : gl_X} {Z : State → Prop} {pc : Nat} {ls : List (Option Value)} {st : List Value} {S : gl_H} {k : Nat × Nat} {pl : Nat} {fs : List Value} {v : Value} (hM : M.2.1 = RX2) (hd : decode M.1 pc = .ok (.getfield 11, 3)) (hS : S pl = some (.inr (2, fs))) (hv : fs[0]? = some v) (K : GG M x Z (pc + 3) ls (v :: st) S k) : GG M x Z pc ls (.ref pl :: st) S k := gg_get 0 hd igX2 rfl (by decide) (by rw [hM]; exact lk_X2_11) rfl hS hv K
theorem pf_X2_11 {M : gl_M} {x : gl_X} {Z : State → Prop} {pc : Nat} {ls : List (Option Value)} {st : List Value} {S : gl_H} {k : Nat × Nat} {pl : Nat} {fs : List Value} {rv : Nat} (hM : M.2.1 = RX2) (hi : M.2.2.2.2.1 = true) (hd : decode M.1 pc = .ok (.putfield 11, 3)) (hS : S pl = some (.inr (2, fs))) (hl : 0 < fs.length) (hrv : S rv ≠ none) (K : GG M x Z (pc + 3) ls st (gl_pu S pl (.inr (2, fs.set 0 (.ref rv)))) k) : GG M x Z pc ls (.ref rv :: .ref pl :: st) S k := gg_putF (ty0 := tyX2) (ty := tyX2 0) 0 hd igX2 tyX2_ok nmX2 rfl (by decide) (by rw [hM]; exact lk_X2_11) rfl rfl hi (by rw [hM]; rfl) (by decide +kernel) hS hl (fun a => ⟨rfl, rfl⟩) hrv K
set_option maxRecDepth 20000 in
theorem lk_X2_15 : Cond.fieldLink RX2 15 (TX2 1).1 (TX2 1).2.1 (TX2 1).2.2.1 ∈ gl_T := (gl_T_in (by decide +kernel) (by decide +kernel))
theorem gf_X2_15 {M : gl_M} {x : gl_X} {Z : State → Prop} {pc : Nat} {ls : List (Option Value)} {st : List Value} {S : gl_H} {k : Nat × Nat} {pl : Nat} {fs : List Value} {v : Value} (hM : M.2.1 = RX2) (hd : decode M.1 pc = .ok (.getfield 15, 3)) (hS : S pl = some (.inr (2, fs))) (hv : fs[1]? = some v) (K : GG M x Z (pc + 3) ls (v :: st) S k) : GG M x Z pc ls (.ref pl :: st) S k := gg_get 1 hd igX2 rfl (by decide) (by rw [hM]; exact lk_X2_15) rfl hS hv K
theorem pf_X2_15 {M : gl_M} {x : gl_X} {Z : State → Prop} {pc : Nat} {ls : List (Option Value)} {st : List Value} {S : gl_H} {k : Nat × Nat} {pl : Nat} {fs : List Value} {rv : Nat} (hM : M.2.1 = RX2) (hi : M.2.2.2.2.1 = true) (hd : decode M.1 pc = .ok (.putfield 15, 3)) (hS : S pl = some (.inr (2, fs))) (hl : 1 < fs.length) (hrv : S rv ≠ none) (K : GG M x Z (pc + 3) ls st (gl_pu S pl (.inr (2, fs.set 1 (.ref rv)))) k) : GG M x Z pc ls (.ref rv :: .ref pl :: st) S k := gg_putF (ty0 := tyX2) (ty := tyX2 1) 1 hd igX2 tyX2_ok nmX2 rfl (by decide) (by rw [hM]; exact lk_X2_15) rfl rfl hi (by rw [hM]; rfl) (by decide +kernel) hS hl (fun a => ⟨rfl, rfl⟩) hrv K
set_option maxRecDepth 20000 in
theorem lk_X2_27 : Cond.fieldLink RX2 27 (TX2 2).1 (TX2 2).2.1 (TX2 2).2.2.1 ∈ gl_T := (gl_T_in (by decide +kernel) (by decide +kernel))
theorem gf_X2_27 {M : gl_M} {x : gl_X} {Z : State → Prop} {pc : Nat} {ls : List (Option Value)} {st : List Value} {S : gl_H} {k : Nat × Nat} {pl : Nat} {fs : List Value} {v : Value} (hM : M.2.1 = RX2) (hd : decode M.1 pc = .ok (.getfield 27, 3)) (hS : S pl = some (.inr (2, fs))) (hv : fs[2]? = some v) (K : GG M x Z (pc + 3) ls (v :: st) S k) : GG M x Z pc ls (.ref pl :: st) S k := gg_get 2 hd igX2 rfl (by decide) (by rw [hM]; exact lk_X2_27) rfl hS hv K
theorem pf_X2_27 {M : gl_M} {x : gl_X} {Z : State → Prop} {pc : Nat} {ls : List (Option Value)} {st : List Value} {S : gl_H} {k : Nat × Nat} {pl : Nat} {fs : List Value} {a : Int32} (hM : M.2.1 = RX2) (hd : decode M.1 pc = .ok (.putfield 27, 3)) (hS : S pl = some (.inr (2, fs))) (hl : 2 < fs.length) (K : GG M x Z (pc + 3) ls st (gl_pu S pl (.inr (2, fs.set 2 (.int a)))) k) : GG M x Z pc ls (.int a :: .ref pl :: st) S k := gg_put (ty0 := tyX2) (ty := .int) 2 hd igX2 tyX2_ok nmX2 rfl (by decide) (by rw [hM]; exact lk_X2_27) rfl rfl (by decide +kernel) hS hl rfl rfl (fun r e => by cases e) K
set_option maxRecDepth 20000 in
theorem lk_X3_11 : Cond.fieldLink RX3 11 (TX3 0).1 (TX3 0).2.1 (TX3 0).2.2.1 ∈ gl_T := (gl_T_in (by decide +kernel) (by decide +kernel))
theorem gf_X3_11 {M : gl_M} {x : gl_X} {Z : State → Prop} {pc : Nat} {ls : List (Option Value)} {st : List Value} {S : gl_H} {k : Nat × Nat} {pl : Nat} {fs : List Value} {v : Value} (hM : M.2.1 = RX3) (hd : decode M.1 pc = .ok (.getfield 11, 3)) (hS : S pl = some (.inr (3, fs))) (hv : fs[0]? = some v) (K : GG M x Z (pc + 3) ls (v :: st) S k) : GG M x Z pc ls (.ref pl :: st) S k := gg_get 0 hd igX3 rfl (by decide) (by rw [hM]; exact lk_X3_11) rfl hS hv K
theorem pf_X3_11 {M : gl_M} {x : gl_X} {Z : State → Prop} {pc : Nat} {ls : List (Option Value)} {st : List Value} {S : gl_H} {k : Nat × Nat} {pl : Nat} {fs : List Value} {rv : Nat} (hM : M.2.1 = RX3) (hi : M.2.2.2.2.1 = true) (hd : decode M.1 pc = .ok (.putfield 11, 3)) (hS : S pl = some (.inr (3, fs))) (hl : 0 < fs.length) (hrv : S rv ≠ none) (K : GG M x Z (pc + 3) ls st (gl_pu S pl (.inr (3, fs.set 0 (.ref rv)))) k) : GG M x Z pc ls (.ref rv :: .ref pl :: st) S k := gg_putF (ty0 := tyX3) (ty := tyX3 0) 0 hd igX3 tyX3_ok nmX3 rfl (by decide) (by rw [hM]; exact lk_X3_11) rfl rfl hi (by rw [hM]; rfl) (by decide +kernel) hS hl (fun a => ⟨rfl, rfl⟩) hrv K
set_option maxRecDepth 20000 in
theorem lk_X3_15 : Cond.fieldLink RX3 15 (TX3 1).1 (TX3 1).2.1 (TX3 1).2.2.1 ∈ gl_T := (gl_T_in (by decide +kernel) (by decide +kernel))
theorem gf_X3_15 {M : gl_M} {x : gl_X} {Z : State → Prop} {pc : Nat} {ls : List (Option Value)} {st : List Value} {S : gl_H} {k : Nat × Nat} {pl : Nat} {fs : List Value} {v : Value} (hM : M.2.1 = RX3) (hd : decode M.1 pc = .ok (.getfield 15, 3)) (hS : S pl = some (.inr (3, fs))) (hv : fs[1]? = some v) (K : GG M x Z (pc + 3) ls (v :: st) S k) : GG M x Z pc ls (.ref pl :: st) S k := gg_get 1 hd igX3 rfl (by decide) (by rw [hM]; exact lk_X3_15) rfl hS hv K
theorem pf_X3_15 {M : gl_M} {x : gl_X} {Z : State → Prop} {pc : Nat} {ls : List (Option Value)} {st : List Value} {S : gl_H} {k : Nat × Nat} {pl : Nat} {fs : List Value} {a : Int32} (hM : M.2.1 = RX3) (hd : decode M.1 pc = .ok (.putfield 15, 3)) (hS : S pl = some (.inr (3, fs))) (hl : 1 < fs.length) (K : GG M x Z (pc + 3) ls st (gl_pu S pl (.inr (3, fs.set 1 (.int a)))) k) : GG M x Z pc ls (.int a :: .ref pl :: st) S k := gg_put (ty0 := tyX3) (ty := .int) 1 hd igX3 tyX3_ok nmX3 rfl (by decide) (by rw [hM]; exact lk_X3_15) rfl rfl (by decide +kernel) hS hl rfl rfl (fun r e => by cases e) K
set_option maxRecDepth 20000 in
theorem lk_X4_9 : Cond.fieldLink RX4 9 (TX4 3).1 (TX4 3).2.1 (TX4 3).2.2.1 ∈ gl_T := (gl_T_in (by decide +kernel) (by decide +kernel))
theorem gf_X4_9 {M : gl_M} {x : gl_X} {Z : State → Prop} {pc : Nat} {ls : List (Option Value)} {st : List Value} {S : gl_H} {k : Nat × Nat} {pl : Nat} {fs : List Value} {v : Value} (hM : M.2.1 = RX4) (hd : decode M.1 pc = .ok (.getfield 9, 3)) (hS : S pl = some (.inr (4, fs))) (hv : fs[3]? = some v) (K : GG M x Z (pc + 3) ls (v :: st) S k) : GG M x Z pc ls (.ref pl :: st) S k := gg_get 3 hd igX4 rfl (by decide) (by rw [hM]; exact lk_X4_9) rfl hS hv K
theorem pf_X4_9 {M : gl_M} {x : gl_X} {Z : State → Prop} {pc : Nat} {ls : List (Option Value)} {st : List Value} {S : gl_H} {k : Nat × Nat} {pl : Nat} {fs : List Value} {rv : Nat} (hM : M.2.1 = RX4) (hi : M.2.2.2.2.1 = true) (hd : decode M.1 pc = .ok (.putfield 9, 3)) (hS : S pl = some (.inr (4, fs))) (hl : 3 < fs.length) (hrv : S rv ≠ none) (K : GG M x Z (pc + 3) ls st (gl_pu S pl (.inr (4, fs.set 3 (.ref rv)))) k) : GG M x Z pc ls (.ref rv :: .ref pl :: st) S k := gg_putF (ty0 := tyX4) (ty := tyX4 3) 3 hd igX4 tyX4_ok nmX4 rfl (by decide) (by rw [hM]; exact lk_X4_9) rfl rfl hi (by rw [hM]; rfl) (by decide +kernel) hS hl (fun a => ⟨rfl, rfl⟩) hrv K
set_option maxRecDepth 20000 in
theorem lk_X4_15 : Cond.fieldLink RX4 15 (TX4 0).1 (TX4 0).2.1 (TX4 0).2.2.1 ∈ gl_T := (gl_T_in (by decide +kernel) (by decide +kernel))
theorem gf_X4_15 {M : gl_M} {x : gl_X} {Z : State → Prop} {pc : Nat} {ls : List (Option Value)} {st : List Value} {S : gl_H} {k : Nat × Nat} {pl : Nat} {fs : List Value} {v : Value} (hM : M.2.1 = RX4) (hd : decode M.1 pc = .ok (.getfield 15, 3)) (hS : S pl = some (.inr (4, fs))) (hv : fs[0]? = some v) (K : GG M x Z (pc + 3) ls (v :: st) S k) : GG M x Z pc ls (.ref pl :: st) S k := gg_get 0 hd igX4 rfl (by decide) (by rw [hM]; exact lk_X4_15) rfl hS hv K
theorem pf_X4_15 {M : gl_M} {x : gl_X} {Z : State → Prop} {pc : Nat} {ls : List (Option Value)} {st : List Value} {S : gl_H} {k : Nat × Nat} {pl : Nat} {fs : List Value} {a : Int32} (hM : M.2.1 = RX4) (hi : M.2.2.2.2.1 = true) (hd : decode M.1 pc = .ok (.putfield 15, 3)) (hS : S pl = some (.inr (4, fs))) (hl : 0 < fs.length) (K : GG M x Z (pc + 3) ls st (gl_pu S pl (.inr (4, fs.set 0 (.int a)))) k) : GG M x Z pc ls (.int a :: .ref pl :: st) S k := gg_putFi (ty0 := tyX4) 0 hd igX4 tyX4_ok nmX4 rfl (by decide) (by rw [hM]; exact lk_X4_15) rfl rfl hi (by rw [hM]; rfl) (by decide +kernel) hS hl K
set_option maxRecDepth 20000 in
theorem lk_X4_19 : Cond.fieldLink RX4 19 (TX4 1).1 (TX4 1).2.1 (TX4 1).2.2.1 ∈ gl_T := (gl_T_in (by decide +kernel) (by decide +kernel))
theorem gf_X4_19 {M : gl_M} {x : gl_X} {Z : State → Prop} {pc : Nat} {ls : List (Option Value)} {st : List Value} {S : gl_H} {k : Nat × Nat} {pl : Nat} {fs : List Value} {v : Value} (hM : M.2.1 = RX4) (hd : decode M.1 pc = .ok (.getfield 19, 3)) (hS : S pl = some (.inr (4, fs))) (hv : fs[1]? = some v) (K : GG M x Z (pc + 3) ls (v :: st) S k) : GG M x Z pc ls (.ref pl :: st) S k := gg_get 1 hd igX4 rfl (by decide) (by rw [hM]; exact lk_X4_19) rfl hS hv K
theorem pf_X4_19 {M : gl_M} {x : gl_X} {Z : State → Prop} {pc : Nat} {ls : List (Option Value)} {st : List Value} {S : gl_H} {k : Nat × Nat} {pl : Nat} {fs : List Value} {a : Int32} (hM : M.2.1 = RX4) (hi : M.2.2.2.2.1 = true) (hd : decode M.1 pc = .ok (.putfield 19, 3)) (hS : S pl = some (.inr (4, fs))) (hl : 1 < fs.length) (K : GG M x Z (pc + 3) ls st (gl_pu S pl (.inr (4, fs.set 1 (.int a)))) k) : GG M x Z pc ls (.int a :: .ref pl :: st) S k := gg_putFi (ty0 := tyX4) 1 hd igX4 tyX4_ok nmX4 rfl (by decide) (by rw [hM]; exact lk_X4_19) rfl rfl hi (by rw [hM]; rfl) (by decide +kernel) hS hl K
set_option maxRecDepth 20000 in
theorem lk_X4_22 : Cond.fieldLink RX4 22 (TX4 2).1 (TX4 2).2.1 (TX4 2).2.2.1 ∈ gl_T := (gl_T_in (by decide +kernel) (by decide +kernel))
theorem gf_X4_22 {M : gl_M} {x : gl_X} {Z : State → Prop} {pc : Nat} {ls : List (Option Value)} {st : List Value} {S : gl_H} {k : Nat × Nat} {pl : Nat} {fs : List Value} {v : Value} (hM : M.2.1 = RX4) (hd : decode M.1 pc = .ok (.getfield 22, 3)) (hS : S pl = some (.inr (4, fs))) (hv : fs[2]? = some v) (K : GG M x Z (pc + 3) ls (v :: st) S k) : GG M x Z pc ls (.ref pl :: st) S k := gg_get 2 hd igX4 rfl (by decide) (by rw [hM]; exact lk_X4_22) rfl hS hv K
theorem pf_X4_22 {M : gl_M} {x : gl_X} {Z : State → Prop} {pc : Nat} {ls : List (Option Value)} {st : List Value} {S : gl_H} {k : Nat × Nat} {pl : Nat} {fs : List Value} {a : Int32} (hM : M.2.1 = RX4) (hi : M.2.2.2.2.1 = true) (hd : decode M.1 pc = .ok (.putfield 22, 3)) (hS : S pl = some (.inr (4, fs))) (hl : 2 < fs.length) (K : GG M x Z (pc + 3) ls st (gl_pu S pl (.inr (4, fs.set 2 (.int a)))) k) : GG M x Z pc ls (.int a :: .ref pl :: st) S k := gg_putFi (ty0 := tyX4) 2 hd igX4 tyX4_ok nmX4 rfl (by decide) (by rw [hM]; exact lk_X4_22) rfl rfl hi (by rw [hM]; rfl) (by decide +kernel) hS hl K
set_option maxRecDepth 20000 in
theorem lk_X4_34 : Cond.fieldLink RX4 34 (TX4 6).1 (TX4 6).2.1 (TX4 6).2.2.1 ∈ gl_T := (gl_T_in (by decide +kernel) (by decide +kernel))
theorem pf_X4_34 {M : gl_M} {x : gl_X} {Z : State → Prop} {pc : Nat} {ls : List (Option Value)} {st : List Value} {S : gl_H} {k : Nat × Nat} {pl : Nat} {fs : List Value} {a : Int32} (hM : M.2.1 = RX4) (hd : decode M.1 pc = .ok (.putfield 34, 3)) (hS : S pl = some (.inr (4, fs))) (hl : 6 < fs.length) (K : GG M x Z (pc + 3) ls st (gl_pu S pl (.inr (4, fs.set 6 (.int a)))) k) : GG M x Z pc ls (.int a :: .ref pl :: st) S k := gg_put (ty0 := tyX4) (ty := .int) 6 hd igX4 tyX4_ok nmX4 rfl (by decide) (by rw [hM]; exact lk_X4_34) rfl rfl (by decide +kernel) hS hl rfl rfl (fun r e => by cases e) K
set_option maxRecDepth 20000 in
theorem lk_X4_37 : Cond.fieldLink RX4 37 (TX4 7).1 (TX4 7).2.1 (TX4 7).2.2.1 ∈ gl_T := (gl_T_in (by decide +kernel) (by decide +kernel))
theorem pf_X4_37 {M : gl_M} {x : gl_X} {Z : State → Prop} {pc : Nat} {ls : List (Option Value)} {st : List Value} {S : gl_H} {k : Nat × Nat} {pl : Nat} {fs : List Value} {a : Int32} (hM : M.2.1 = RX4) (hd : decode M.1 pc = .ok (.putfield 37, 3)) (hS : S pl = some (.inr (4, fs))) (hl : 7 < fs.length) (K : GG M x Z (pc + 3) ls st (gl_pu S pl (.inr (4, fs.set 7 (.int a)))) k) : GG M x Z pc ls (.int a :: .ref pl :: st) S k := gg_put (ty0 := tyX4) (ty := .int) 7 hd igX4 tyX4_ok nmX4 rfl (by decide) (by rw [hM]; exact lk_X4_37) rfl rfl (by decide +kernel) hS hl rfl rfl (fun r e => by cases e) K
set_option maxRecDepth 20000 in
theorem lk_X4_40 : Cond.fieldLink RX4 40 (TX4 8).1 (TX4 8).2.1 (TX4 8).2.2.1 ∈ gl_T := (gl_T_in (by decide +kernel) (by decide +kernel))
theorem gf_X4_40 {M : gl_M} {x : gl_X} {Z : State → Prop} {pc : Nat} {ls : List (Option Value)} {st : List Value} {S : gl_H} {k : Nat × Nat} {pl : Nat} {fs : List Value} {v : Value} (hM : M.2.1 = RX4) (hd : decode M.1 pc = .ok (.getfield 40, 3)) (hS : S pl = some (.inr (4, fs))) (hv : fs[8]? = some v) (K : GG M x Z (pc + 3) ls (v :: st) S k) : GG M x Z pc ls (.ref pl :: st) S k := gg_get 8 hd igX4 rfl (by decide) (by rw [hM]; exact lk_X4_40) rfl hS hv K
theorem pf_X4_40 {M : gl_M} {x : gl_X} {Z : State → Prop} {pc : Nat} {ls : List (Option Value)} {st : List Value} {S : gl_H} {k : Nat × Nat} {pl : Nat} {fs : List Value} {a : Int32} (hM : M.2.1 = RX4) (hd : decode M.1 pc = .ok (.putfield 40, 3)) (hS : S pl = some (.inr (4, fs))) (hl : 8 < fs.length) (K : GG M x Z (pc + 3) ls st (gl_pu S pl (.inr (4, fs.set 8 (.int a)))) k) : GG M x Z pc ls (.int a :: .ref pl :: st) S k := gg_put (ty0 := tyX4) (ty := .int) 8 hd igX4 tyX4_ok nmX4 rfl (by decide) (by rw [hM]; exact lk_X4_40) rfl rfl (by decide +kernel) hS hl rfl rfl (fun r e => by cases e) K
set_option maxRecDepth 20000 in
theorem lk_X4_43 : Cond.fieldLink RX4 43 (TX0 3).1 (TX0 3).2.1 (TX0 3).2.2.1 ∈ gl_T := (gl_T_in (by decide +kernel) (by decide +kernel))
theorem gf_X4_43 {M : gl_M} {x : gl_X} {Z : State → Prop} {pc : Nat} {ls : List (Option Value)} {st : List Value} {S : gl_H} {k : Nat × Nat} {pl : Nat} {fs : List Value} {v : Value} (hM : M.2.1 = RX4) (hd : decode M.1 pc = .ok (.getfield 43, 3)) (hS : S pl = some (.inr (0, fs))) (hv : fs[3]? = some v) (K : GG M x Z (pc + 3) ls (v :: st) S k) : GG M x Z pc ls (.ref pl :: st) S k := gg_get 3 hd igX0 rfl (by decide) (by rw [hM]; exact lk_X4_43) rfl hS hv K
set_option maxRecDepth 20000 in
theorem lk_X4_52 : Cond.fieldLink RX4 52 (TX4 5).1 (TX4 5).2.1 (TX4 5).2.2.1 ∈ gl_T := (gl_T_in (by decide +kernel) (by decide +kernel))
theorem gf_X4_52 {M : gl_M} {x : gl_X} {Z : State → Prop} {pc : Nat} {ls : List (Option Value)} {st : List Value} {S : gl_H} {k : Nat × Nat} {pl : Nat} {fs : List Value} {v : Value} (hM : M.2.1 = RX4) (hd : decode M.1 pc = .ok (.getfield 52, 3)) (hS : S pl = some (.inr (4, fs))) (hv : fs[5]? = some v) (K : GG M x Z (pc + 3) ls (v :: st) S k) : GG M x Z pc ls (.ref pl :: st) S k := gg_get 5 hd igX4 rfl (by decide) (by rw [hM]; exact lk_X4_52) rfl hS hv K
set_option maxRecDepth 20000 in
theorem lk_X4_55 : Cond.fieldLink RX4 55 (TX0 0).1 (TX0 0).2.1 (TX0 0).2.2.1 ∈ gl_T := (gl_T_in (by decide +kernel) (by decide +kernel))
theorem gf_X4_55 {M : gl_M} {x : gl_X} {Z : State → Prop} {pc : Nat} {ls : List (Option Value)} {st : List Value} {S : gl_H} {k : Nat × Nat} {pl : Nat} {fs : List Value} {v : Value} (hM : M.2.1 = RX4) (hd : decode M.1 pc = .ok (.getfield 55, 3)) (hS : S pl = some (.inr (0, fs))) (hv : fs[0]? = some v) (K : GG M x Z (pc + 3) ls (v :: st) S k) : GG M x Z pc ls (.ref pl :: st) S k := gg_get 0 hd igX0 rfl (by decide) (by rw [hM]; exact lk_X4_55) rfl hS hv K
set_option maxRecDepth 20000 in
theorem lk_X4_67 : Cond.fieldLink RX4 67 (TX4 9).1 (TX4 9).2.1 (TX4 9).2.2.1 ∈ gl_T := (gl_T_in (by decide +kernel) (by decide +kernel))
theorem gf_X4_67 {M : gl_M} {x : gl_X} {Z : State → Prop} {pc : Nat} {ls : List (Option Value)} {st : List Value} {S : gl_H} {k : Nat × Nat} {pl : Nat} {fs : List Value} {v : Value} (hM : M.2.1 = RX4) (hd : decode M.1 pc = .ok (.getfield 67, 3)) (hS : S pl = some (.inr (4, fs))) (hv : fs[9]? = some v) (K : GG M x Z (pc + 3) ls (v :: st) S k) : GG M x Z pc ls (.ref pl :: st) S k := gg_get 9 hd igX4 rfl (by decide) (by rw [hM]; exact lk_X4_67) rfl hS hv K
theorem pf_X4_67 {M : gl_M} {x : gl_X} {Z : State → Prop} {pc : Nat} {ls : List (Option Value)} {st : List Value} {S : gl_H} {k : Nat × Nat} {pl : Nat} {fs : List Value} {a : Int32} (hM : M.2.1 = RX4) (hd : decode M.1 pc = .ok (.putfield 67, 3)) (hS : S pl = some (.inr (4, fs))) (hl : 9 < fs.length) (K : GG M x Z (pc + 3) ls st (gl_pu S pl (.inr (4, fs.set 9 (.int a)))) k) : GG M x Z pc ls (.int a :: .ref pl :: st) S k := gg_put (ty0 := tyX4) (ty := .int) 9 hd igX4 tyX4_ok nmX4 rfl (by decide) (by rw [hM]; exact lk_X4_67) rfl rfl (by decide +kernel) hS hl rfl rfl (fun r e => by cases e) K
set_option maxRecDepth 20000 in
theorem lk_X4_70 : Cond.fieldLink RX4 70 (TX0 2).1 (TX0 2).2.1 (TX0 2).2.2.1 ∈ gl_T := (gl_T_in (by decide +kernel) (by decide +kernel))
theorem gf_X4_70 {M : gl_M} {x : gl_X} {Z : State → Prop} {pc : Nat} {ls : List (Option Value)} {st : List Value} {S : gl_H} {k : Nat × Nat} {pl : Nat} {fs : List Value} {v : Value} (hM : M.2.1 = RX4) (hd : decode M.1 pc = .ok (.getfield 70, 3)) (hS : S pl = some (.inr (0, fs))) (hv : fs[2]? = some v) (K : GG M x Z (pc + 3) ls (v :: st) S k) : GG M x Z pc ls (.ref pl :: st) S k := gg_get 2 hd igX0 rfl (by decide) (by rw [hM]; exact lk_X4_70) rfl hS hv K
set_option maxRecDepth 20000 in
theorem lk_X4_73 : Cond.fieldLink RX4 73 (TX4 4).1 (TX4 4).2.1 (TX4 4).2.2.1 ∈ gl_T := (gl_T_in (by decide +kernel) (by decide +kernel))
theorem gf_X4_73 {M : gl_M} {x : gl_X} {Z : State → Prop} {pc : Nat} {ls : List (Option Value)} {st : List Value} {S : gl_H} {k : Nat × Nat} {pl : Nat} {fs : List Value} {v : Value} (hM : M.2.1 = RX4) (hd : decode M.1 pc = .ok (.getfield 73, 3)) (hS : S pl = some (.inr (4, fs))) (hv : fs[4]? = some v) (K : GG M x Z (pc + 3) ls (v :: st) S k) : GG M x Z pc ls (.ref pl :: st) S k := gg_get 4 hd igX4 rfl (by decide) (by rw [hM]; exact lk_X4_73) rfl hS hv K
set_option maxRecDepth 20000 in
theorem lk_X4_82 : Cond.fieldLink RX4 82 (TX4 10).1 (TX4 10).2.1 (TX4 10).2.2.1 ∈ gl_T := (gl_T_in (by decide +kernel) (by decide +kernel))
theorem gf_X4_82 {M : gl_M} {x : gl_X} {Z : State → Prop} {pc : Nat} {ls : List (Option Value)} {st : List Value} {S : gl_H} {k : Nat × Nat} {pl : Nat} {fs : List Value} {v : Value} (hM : M.2.1 = RX4) (hd : decode M.1 pc = .ok (.getfield 82, 3)) (hS : S pl = some (.inr (4, fs))) (hv : fs[10]? = some v) (K : GG M x Z (pc + 3) ls (v :: st) S k) : GG M x Z pc ls (.ref pl :: st) S k := gg_get 10 hd igX4 rfl (by decide) (by rw [hM]; exact lk_X4_82) rfl hS hv K
theorem pf_X4_82 {M : gl_M} {x : gl_X} {Z : State → Prop} {pc : Nat} {ls : List (Option Value)} {st : List Value} {S : gl_H} {k : Nat × Nat} {pl : Nat} {fs : List Value} {a : Int64} (hM : M.2.1 = RX4) (hd : decode M.1 pc = .ok (.putfield 82, 3)) (hS : S pl = some (.inr (4, fs))) (hl : 10 < fs.length) (K : GG M x Z (pc + 3) ls st (gl_pu S pl (.inr (4, fs.set 10 (.long a)))) k) : GG M x Z pc ls (.long a :: .ref pl :: st) S k := gg_put (ty0 := tyX4) (ty := .long) 10 hd igX4 tyX4_ok nmX4 rfl (by decide) (by rw [hM]; exact lk_X4_82) rfl rfl (by decide +kernel) hS hl rfl rfl (fun r e => by cases e) K
set_option maxRecDepth 20000 in
theorem lk_X4_86 : Cond.fieldLink RX4 86 (TX0 4).1 (TX0 4).2.1 (TX0 4).2.2.1 ∈ gl_T := (gl_T_in (by decide +kernel) (by decide +kernel))
theorem gf_X4_86 {M : gl_M} {x : gl_X} {Z : State → Prop} {pc : Nat} {ls : List (Option Value)} {st : List Value} {S : gl_H} {k : Nat × Nat} {pl : Nat} {fs : List Value} {v : Value} (hM : M.2.1 = RX4) (hd : decode M.1 pc = .ok (.getfield 86, 3)) (hS : S pl = some (.inr (0, fs))) (hv : fs[4]? = some v) (K : GG M x Z (pc + 3) ls (v :: st) S k) : GG M x Z pc ls (.ref pl :: st) S k := gg_get 4 hd igX0 rfl (by decide) (by rw [hM]; exact lk_X4_86) rfl hS hv K
set_option maxRecDepth 20000 in
theorem lk_X5_11 : Cond.fieldLink RX5 11 (TX5 0).1 (TX5 0).2.1 (TX5 0).2.2.1 ∈ gl_T := (gl_T_in (by decide +kernel) (by decide +kernel))
theorem gf_X5_11 {M : gl_M} {x : gl_X} {Z : State → Prop} {pc : Nat} {ls : List (Option Value)} {st : List Value} {S : gl_H} {k : Nat × Nat} {pl : Nat} {fs : List Value} {v : Value} (hM : M.2.1 = RX5) (hd : decode M.1 pc = .ok (.getfield 11, 3)) (hS : S pl = some (.inr (5, fs))) (hv : fs[0]? = some v) (K : GG M x Z (pc + 3) ls (v :: st) S k) : GG M x Z pc ls (.ref pl :: st) S k := gg_get 0 hd igX5 rfl (by decide) (by rw [hM]; exact lk_X5_11) rfl hS hv K
theorem pf_X5_11 {M : gl_M} {x : gl_X} {Z : State → Prop} {pc : Nat} {ls : List (Option Value)} {st : List Value} {S : gl_H} {k : Nat × Nat} {pl : Nat} {fs : List Value} {rv : Nat} (hM : M.2.1 = RX5) (hi : M.2.2.2.2.1 = true) (hd : decode M.1 pc = .ok (.putfield 11, 3)) (hS : S pl = some (.inr (5, fs))) (hl : 0 < fs.length) (hrv : S rv ≠ none) (K : GG M x Z (pc + 3) ls st (gl_pu S pl (.inr (5, fs.set 0 (.ref rv)))) k) : GG M x Z pc ls (.ref rv :: .ref pl :: st) S k := gg_putF (ty0 := tyX5) (ty := tyX5 0) 0 hd igX5 tyX5_ok nmX5 rfl (by decide) (by rw [hM]; exact lk_X5_11) rfl rfl hi (by rw [hM]; rfl) (by decide +kernel) hS hl (fun a => ⟨rfl, rfl⟩) hrv K
set_option maxRecDepth 20000 in
theorem lk_X5_15 : Cond.fieldLink RX5 15 (TX5 1).1 (TX5 1).2.1 (TX5 1).2.2.1 ∈ gl_T := (gl_T_in (by decide +kernel) (by decide +kernel))
theorem gf_X5_15 {M : gl_M} {x : gl_X} {Z : State → Prop} {pc : Nat} {ls : List (Option Value)} {st : List Value} {S : gl_H} {k : Nat × Nat} {pl : Nat} {fs : List Value} {v : Value} (hM : M.2.1 = RX5) (hd : decode M.1 pc = .ok (.getfield 15, 3)) (hS : S pl = some (.inr (5, fs))) (hv : fs[1]? = some v) (K : GG M x Z (pc + 3) ls (v :: st) S k) : GG M x Z pc ls (.ref pl :: st) S k := gg_get 1 hd igX5 rfl (by decide) (by rw [hM]; exact lk_X5_15) rfl hS hv K
theorem pf_X5_15 {M : gl_M} {x : gl_X} {Z : State → Prop} {pc : Nat} {ls : List (Option Value)} {st : List Value} {S : gl_H} {k : Nat × Nat} {pl : Nat} {fs : List Value} {rv : Nat} (hM : M.2.1 = RX5) (hi : M.2.2.2.2.1 = true) (hd : decode M.1 pc = .ok (.putfield 15, 3)) (hS : S pl = some (.inr (5, fs))) (hl : 1 < fs.length) (hrv : S rv ≠ none) (K : GG M x Z (pc + 3) ls st (gl_pu S pl (.inr (5, fs.set 1 (.ref rv)))) k) : GG M x Z pc ls (.ref rv :: .ref pl :: st) S k := gg_putF (ty0 := tyX5) (ty := tyX5 1) 1 hd igX5 tyX5_ok nmX5 rfl (by decide) (by rw [hM]; exact lk_X5_15) rfl rfl hi (by rw [hM]; rfl) (by decide +kernel) hS hl (fun a => ⟨rfl, rfl⟩) hrv K
set_option maxRecDepth 20000 in
theorem lk_X5_18 : Cond.fieldLink RX5 18 (TX5 2).1 (TX5 2).2.1 (TX5 2).2.2.1 ∈ gl_T := (gl_T_in (by decide +kernel) (by decide +kernel))
theorem gf_X5_18 {M : gl_M} {x : gl_X} {Z : State → Prop} {pc : Nat} {ls : List (Option Value)} {st : List Value} {S : gl_H} {k : Nat × Nat} {pl : Nat} {fs : List Value} {v : Value} (hM : M.2.1 = RX5) (hd : decode M.1 pc = .ok (.getfield 18, 3)) (hS : S pl = some (.inr (5, fs))) (hv : fs[2]? = some v) (K : GG M x Z (pc + 3) ls (v :: st) S k) : GG M x Z pc ls (.ref pl :: st) S k := gg_get 2 hd igX5 rfl (by decide) (by rw [hM]; exact lk_X5_18) rfl hS hv K
theorem pf_X5_18 {M : gl_M} {x : gl_X} {Z : State → Prop} {pc : Nat} {ls : List (Option Value)} {st : List Value} {S : gl_H} {k : Nat × Nat} {pl : Nat} {fs : List Value} {rv : Nat} (hM : M.2.1 = RX5) (hi : M.2.2.2.2.1 = true) (hd : decode M.1 pc = .ok (.putfield 18, 3)) (hS : S pl = some (.inr (5, fs))) (hl : 2 < fs.length) (hrv : S rv ≠ none) (K : GG M x Z (pc + 3) ls st (gl_pu S pl (.inr (5, fs.set 2 (.ref rv)))) k) : GG M x Z pc ls (.ref rv :: .ref pl :: st) S k := gg_putF (ty0 := tyX5) (ty := tyX5 2) 2 hd igX5 tyX5_ok nmX5 rfl (by decide) (by rw [hM]; exact lk_X5_18) rfl rfl hi (by rw [hM]; rfl) (by decide +kernel) hS hl (fun a => ⟨rfl, rfl⟩) hrv K
set_option maxRecDepth 20000 in
theorem lk_X5_22 : Cond.fieldLink RX5 22 (TX5 3).1 (TX5 3).2.1 (TX5 3).2.2.1 ∈ gl_T := (gl_T_in (by decide +kernel) (by decide +kernel))
theorem gf_X5_22 {M : gl_M} {x : gl_X} {Z : State → Prop} {pc : Nat} {ls : List (Option Value)} {st : List Value} {S : gl_H} {k : Nat × Nat} {pl : Nat} {fs : List Value} {v : Value} (hM : M.2.1 = RX5) (hd : decode M.1 pc = .ok (.getfield 22, 3)) (hS : S pl = some (.inr (5, fs))) (hv : fs[3]? = some v) (K : GG M x Z (pc + 3) ls (v :: st) S k) : GG M x Z pc ls (.ref pl :: st) S k := gg_get 3 hd igX5 rfl (by decide) (by rw [hM]; exact lk_X5_22) rfl hS hv K
theorem pf_X5_22 {M : gl_M} {x : gl_X} {Z : State → Prop} {pc : Nat} {ls : List (Option Value)} {st : List Value} {S : gl_H} {k : Nat × Nat} {pl : Nat} {fs : List Value} {a : Int32} (hM : M.2.1 = RX5) (hd : decode M.1 pc = .ok (.putfield 22, 3)) (hS : S pl = some (.inr (5, fs))) (hl : 3 < fs.length) (K : GG M x Z (pc + 3) ls st (gl_pu S pl (.inr (5, fs.set 3 (.int a)))) k) : GG M x Z pc ls (.int a :: .ref pl :: st) S k := gg_put (ty0 := tyX5) (ty := .int) 3 hd igX5 tyX5_ok nmX5 rfl (by decide) (by rw [hM]; exact lk_X5_22) rfl rfl (by decide +kernel) hS hl rfl rfl (fun r e => by cases e) K
set_option maxRecDepth 20000 in
theorem lk_X5_26 : Cond.fieldLink RX5 26 (TX0 0).1 (TX0 0).2.1 (TX0 0).2.2.1 ∈ gl_T := (gl_T_in (by decide +kernel) (by decide +kernel))
theorem gf_X5_26 {M : gl_M} {x : gl_X} {Z : State → Prop} {pc : Nat} {ls : List (Option Value)} {st : List Value} {S : gl_H} {k : Nat × Nat} {pl : Nat} {fs : List Value} {v : Value} (hM : M.2.1 = RX5) (hd : decode M.1 pc = .ok (.getfield 26, 3)) (hS : S pl = some (.inr (0, fs))) (hv : fs[0]? = some v) (K : GG M x Z (pc + 3) ls (v :: st) S k) : GG M x Z pc ls (.ref pl :: st) S k := gg_get 0 hd igX0 rfl (by decide) (by rw [hM]; exact lk_X5_26) rfl hS hv K
set_option maxRecDepth 20000 in
theorem lk_X5_31 : Cond.fieldLink RX5 31 (TX0 1).1 (TX0 1).2.1 (TX0 1).2.2.1 ∈ gl_T := (gl_T_in (by decide +kernel) (by decide +kernel))
theorem gf_X5_31 {M : gl_M} {x : gl_X} {Z : State → Prop} {pc : Nat} {ls : List (Option Value)} {st : List Value} {S : gl_H} {k : Nat × Nat} {pl : Nat} {fs : List Value} {v : Value} (hM : M.2.1 = RX5) (hd : decode M.1 pc = .ok (.getfield 31, 3)) (hS : S pl = some (.inr (0, fs))) (hv : fs[1]? = some v) (K : GG M x Z (pc + 3) ls (v :: st) S k) : GG M x Z pc ls (.ref pl :: st) S k := gg_get 1 hd igX0 rfl (by decide) (by rw [hM]; exact lk_X5_31) rfl hS hv K
set_option maxRecDepth 20000 in
theorem lk_X5_38 : Cond.fieldLink RX5 38 (TX5 4).1 (TX5 4).2.1 (TX5 4).2.2.1 ∈ gl_T := (gl_T_in (by decide +kernel) (by decide +kernel))
theorem gf_X5_38 {M : gl_M} {x : gl_X} {Z : State → Prop} {pc : Nat} {ls : List (Option Value)} {st : List Value} {S : gl_H} {k : Nat × Nat} {pl : Nat} {fs : List Value} {v : Value} (hM : M.2.1 = RX5) (hd : decode M.1 pc = .ok (.getfield 38, 3)) (hS : S pl = some (.inr (5, fs))) (hv : fs[4]? = some v) (K : GG M x Z (pc + 3) ls (v :: st) S k) : GG M x Z pc ls (.ref pl :: st) S k := gg_get 4 hd igX5 rfl (by decide) (by rw [hM]; exact lk_X5_38) rfl hS hv K
theorem pf_X5_38 {M : gl_M} {x : gl_X} {Z : State → Prop} {pc : Nat} {ls : List (Option Value)} {st : List Value} {S : gl_H} {k : Nat × Nat} {pl : Nat} {fs : List Value} {a : Int32} (hM : M.2.1 = RX5) (hd : decode M.1 pc = .ok (.putfield 38, 3)) (hS : S pl = some (.inr (5, fs))) (hl : 4 < fs.length) (K : GG M x Z (pc + 3) ls st (gl_pu S pl (.inr (5, fs.set 4 (.int a)))) k) : GG M x Z pc ls (.int a :: .ref pl :: st) S k := gg_put (ty0 := tyX5) (ty := .int) 4 hd igX5 tyX5_ok nmX5 rfl (by decide) (by rw [hM]; exact lk_X5_38) rfl rfl (by decide +kernel) hS hl rfl rfl (fun r e => by cases e) K
set_option maxRecDepth 20000 in
theorem lk_X6_10 : Cond.fieldLink RX6 10 (TX6 0).1 (TX6 0).2.1 (TX6 0).2.2.1 ∈ gl_T := (gl_T_in (by decide +kernel) (by decide +kernel))
theorem gf_X6_10 {M : gl_M} {x : gl_X} {Z : State → Prop} {pc : Nat} {ls : List (Option Value)} {st : List Value} {S : gl_H} {k : Nat × Nat} {pl : Nat} {fs : List Value} {v : Value} (hM : M.2.1 = RX6) (hd : decode M.1 pc = .ok (.getfield 10, 3)) (hS : S pl = some (.inr (6, fs))) (hv : fs[0]? = some v) (K : GG M x Z (pc + 3) ls (v :: st) S k) : GG M x Z pc ls (.ref pl :: st) S k := gg_get 0 hd igX6 rfl (by decide) (by rw [hM]; exact lk_X6_10) rfl hS hv K
theorem pf_X6_10 {M : gl_M} {x : gl_X} {Z : State → Prop} {pc : Nat} {ls : List (Option Value)} {st : List Value} {S : gl_H} {k : Nat × Nat} {pl : Nat} {fs : List Value} {rv : Nat} (hM : M.2.1 = RX6) (hi : M.2.2.2.2.1 = true) (hd : decode M.1 pc = .ok (.putfield 10, 3)) (hS : S pl = some (.inr (6, fs))) (hl : 0 < fs.length) (hrv : S rv ≠ none) (K : GG M x Z (pc + 3) ls st (gl_pu S pl (.inr (6, fs.set 0 (.ref rv)))) k) : GG M x Z pc ls (.ref rv :: .ref pl :: st) S k := gg_putF (ty0 := tyX6) (ty := tyX6 0) 0 hd igX6 tyX6_ok nmX6 rfl (by decide) (by rw [hM]; exact lk_X6_10) rfl rfl hi (by rw [hM]; rfl) (by decide +kernel) hS hl (fun a => ⟨rfl, rfl⟩) hrv K
set_option maxRecDepth 20000 in
theorem lk_X6_19 : Cond.fieldLink RX6 19 (TX6 1).1 (TX6 1).2.1 (TX6 1).2.2.1 ∈ gl_T := (gl_T_in (by decide +kernel) (by decide +kernel))
theorem gf_X6_19 {M : gl_M} {x : gl_X} {Z : State → Prop} {pc : Nat} {ls : List (Option Value)} {st : List Value} {S : gl_H} {k : Nat × Nat} {pl : Nat} {fs : List Value} {v : Value} (hM : M.2.1 = RX6) (hd : decode M.1 pc = .ok (.getfield 19, 3)) (hS : S pl = some (.inr (6, fs))) (hv : fs[1]? = some v) (K : GG M x Z (pc + 3) ls (v :: st) S k) : GG M x Z pc ls (.ref pl :: st) S k := gg_get 1 hd igX6 rfl (by decide) (by rw [hM]; exact lk_X6_19) rfl hS hv K
theorem pf_X6_19 {M : gl_M} {x : gl_X} {Z : State → Prop} {pc : Nat} {ls : List (Option Value)} {st : List Value} {S : gl_H} {k : Nat × Nat} {pl : Nat} {fs : List Value} {rv : Nat} (hM : M.2.1 = RX6) (hi : M.2.2.2.2.1 = true) (hd : decode M.1 pc = .ok (.putfield 19, 3)) (hS : S pl = some (.inr (6, fs))) (hl : 1 < fs.length) (hrv : S rv ≠ none) (K : GG M x Z (pc + 3) ls st (gl_pu S pl (.inr (6, fs.set 1 (.ref rv)))) k) : GG M x Z pc ls (.ref rv :: .ref pl :: st) S k := gg_putF (ty0 := tyX6) (ty := tyX6 1) 1 hd igX6 tyX6_ok nmX6 rfl (by decide) (by rw [hM]; exact lk_X6_19) rfl rfl hi (by rw [hM]; rfl) (by decide +kernel) hS hl (fun a => ⟨rfl, rfl⟩) hrv K
set_option maxRecDepth 20000 in
theorem lk_X6_25 : Cond.fieldLink RX6 25 (TX6 2).1 (TX6 2).2.1 (TX6 2).2.2.1 ∈ gl_T := (gl_T_in (by decide +kernel) (by decide +kernel))
theorem gf_X6_25 {M : gl_M} {x : gl_X} {Z : State → Prop} {pc : Nat} {ls : List (Option Value)} {st : List Value} {S : gl_H} {k : Nat × Nat} {pl : Nat} {fs : List Value} {v : Value} (hM : M.2.1 = RX6) (hd : decode M.1 pc = .ok (.getfield 25, 3)) (hS : S pl = some (.inr (6, fs))) (hv : fs[2]? = some v) (K : GG M x Z (pc + 3) ls (v :: st) S k) : GG M x Z pc ls (.ref pl :: st) S k := gg_get 2 hd igX6 rfl (by decide) (by rw [hM]; exact lk_X6_25) rfl hS hv K
theorem pf_X6_25 {M : gl_M} {x : gl_X} {Z : State → Prop} {pc : Nat} {ls : List (Option Value)} {st : List Value} {S : gl_H} {k : Nat × Nat} {pl : Nat} {fs : List Value} {rv : Nat} (hM : M.2.1 = RX6) (hi : M.2.2.2.2.1 = true) (hd : decode M.1 pc = .ok (.putfield 25, 3)) (hS : S pl = some (.inr (6, fs))) (hl : 2 < fs.length) (hrv : S rv ≠ none) (K : GG M x Z (pc + 3) ls st (gl_pu S pl (.inr (6, fs.set 2 (.ref rv)))) k) : GG M x Z pc ls (.ref rv :: .ref pl :: st) S k := gg_putF (ty0 := tyX6) (ty := tyX6 2) 2 hd igX6 tyX6_ok nmX6 rfl (by decide) (by rw [hM]; exact lk_X6_25) rfl rfl hi (by rw [hM]; rfl) (by decide +kernel) hS hl (fun a => ⟨rfl, rfl⟩) hrv K
set_option maxRecDepth 20000 in
theorem lk_X6_31 : Cond.fieldLink RX6 31 (TX6 3).1 (TX6 3).2.1 (TX6 3).2.2.1 ∈ gl_T := (gl_T_in (by decide +kernel) (by decide +kernel))
theorem gf_X6_31 {M : gl_M} {x : gl_X} {Z : State → Prop} {pc : Nat} {ls : List (Option Value)} {st : List Value} {S : gl_H} {k : Nat × Nat} {pl : Nat} {fs : List Value} {v : Value} (hM : M.2.1 = RX6) (hd : decode M.1 pc = .ok (.getfield 31, 3)) (hS : S pl = some (.inr (6, fs))) (hv : fs[3]? = some v) (K : GG M x Z (pc + 3) ls (v :: st) S k) : GG M x Z pc ls (.ref pl :: st) S k := gg_get 3 hd igX6 rfl (by decide) (by rw [hM]; exact lk_X6_31) rfl hS hv K
theorem pf_X6_31 {M : gl_M} {x : gl_X} {Z : State → Prop} {pc : Nat} {ls : List (Option Value)} {st : List Value} {S : gl_H} {k : Nat × Nat} {pl : Nat} {fs : List Value} {rv : Nat} (hM : M.2.1 = RX6) (hi : M.2.2.2.2.1 = true) (hd : decode M.1 pc = .ok (.putfield 31, 3)) (hS : S pl = some (.inr (6, fs))) (hl : 3 < fs.length) (hrv : S rv ≠ none) (K : GG M x Z (pc + 3) ls st (gl_pu S pl (.inr (6, fs.set 3 (.ref rv)))) k) : GG M x Z pc ls (.ref rv :: .ref pl :: st) S k := gg_putF (ty0 := tyX6) (ty := tyX6 3) 3 hd igX6 tyX6_ok nmX6 rfl (by decide) (by rw [hM]; exact lk_X6_31) rfl rfl hi (by rw [hM]; rfl) (by decide +kernel) hS hl (fun a => ⟨rfl, rfl⟩) hrv K
set_option maxRecDepth 20000 in
theorem lk_X6_38 : Cond.fieldLink RX6 38 (TX6 4).1 (TX6 4).2.1 (TX6 4).2.2.1 ∈ gl_T := (gl_T_in (by decide +kernel) (by decide +kernel))
theorem gf_X6_38 {M : gl_M} {x : gl_X} {Z : State → Prop} {pc : Nat} {ls : List (Option Value)} {st : List Value} {S : gl_H} {k : Nat × Nat} {pl : Nat} {fs : List Value} {v : Value} (hM : M.2.1 = RX6) (hd : decode M.1 pc = .ok (.getfield 38, 3)) (hS : S pl = some (.inr (6, fs))) (hv : fs[4]? = some v) (K : GG M x Z (pc + 3) ls (v :: st) S k) : GG M x Z pc ls (.ref pl :: st) S k := gg_get 4 hd igX6 rfl (by decide) (by rw [hM]; exact lk_X6_38) rfl hS hv K
theorem pf_X6_38 {M : gl_M} {x : gl_X} {Z : State → Prop} {pc : Nat} {ls : List (Option Value)} {st : List Value} {S : gl_H} {k : Nat × Nat} {pl : Nat} {fs : List Value} {rv : Nat} (hM : M.2.1 = RX6) (hi : M.2.2.2.2.1 = true) (hd : decode M.1 pc = .ok (.putfield 38, 3)) (hS : S pl = some (.inr (6, fs))) (hl : 4 < fs.length) (hrv : S rv ≠ none) (K : GG M x Z (pc + 3) ls st (gl_pu S pl (.inr (6, fs.set 4 (.ref rv)))) k) : GG M x Z pc ls (.ref rv :: .ref pl :: st) S k := gg_putF (ty0 := tyX6) (ty := tyX6 4) 4 hd igX6 tyX6_ok nmX6 rfl (by decide) (by rw [hM]; exact lk_X6_38) rfl rfl hi (by rw [hM]; rfl) (by decide +kernel) hS hl (fun a => ⟨rfl, rfl⟩) hrv K
set_option maxRecDepth 20000 in
theorem lk_X6_45 : Cond.fieldLink RX6 45 (TX6 5).1 (TX6 5).2.1 (TX6 5).2.2.1 ∈ gl_T := (gl_T_in (by decide +kernel) (by decide +kernel))
theorem gf_X6_45 {M : gl_M} {x : gl_X} {Z : State → Prop} {pc : Nat} {ls : List (Option Value)} {st : List Value} {S : gl_H} {k : Nat × Nat} {pl : Nat} {fs : List Value} {v : Value} (hM : M.2.1 = RX6) (hd : decode M.1 pc = .ok (.getfield 45, 3)) (hS : S pl = some (.inr (6, fs))) (hv : fs[5]? = some v) (K : GG M x Z (pc + 3) ls (v :: st) S k) : GG M x Z pc ls (.ref pl :: st) S k := gg_get 5 hd igX6 rfl (by decide) (by rw [hM]; exact lk_X6_45) rfl hS hv K
theorem pf_X6_45 {M : gl_M} {x : gl_X} {Z : State → Prop} {pc : Nat} {ls : List (Option Value)} {st : List Value} {S : gl_H} {k : Nat × Nat} {pl : Nat} {fs : List Value} {rv : Nat} (hM : M.2.1 = RX6) (hi : M.2.2.2.2.1 = true) (hd : decode M.1 pc = .ok (.putfield 45, 3)) (hS : S pl = some (.inr (6, fs))) (hl : 5 < fs.length) (hrv : S rv ≠ none) (K : GG M x Z (pc + 3) ls st (gl_pu S pl (.inr (6, fs.set 5 (.ref rv)))) k) : GG M x Z pc ls (.ref rv :: .ref pl :: st) S k := gg_putF (ty0 := tyX6) (ty := tyX6 5) 5 hd igX6 tyX6_ok nmX6 rfl (by decide) (by rw [hM]; exact lk_X6_45) rfl rfl hi (by rw [hM]; rfl) (by decide +kernel) hS hl (fun a => ⟨rfl, rfl⟩) hrv K
set_option maxRecDepth 20000 in
theorem lk_X6_57 : Cond.fieldLink RX6 57 (TX3 1).1 (TX3 1).2.1 (TX3 1).2.2.1 ∈ gl_T := (gl_T_in (by decide +kernel) (by decide +kernel))
theorem gf_X6_57 {M : gl_M} {x : gl_X} {Z : State → Prop} {pc : Nat} {ls : List (Option Value)} {st : List Value} {S : gl_H} {k : Nat × Nat} {pl : Nat} {fs : List Value} {v : Value} (hM : M.2.1 = RX6) (hd : decode M.1 pc = .ok (.getfield 57, 3)) (hS : S pl = some (.inr (3, fs))) (hv : fs[1]? = some v) (K : GG M x Z (pc + 3) ls (v :: st) S k) : GG M x Z pc ls (.ref pl :: st) S k := gg_get 1 hd igX3 rfl (by decide) (by rw [hM]; exact lk_X6_57) rfl hS hv K
theorem pf_X6_57 {M : gl_M} {x : gl_X} {Z : State → Prop} {pc : Nat} {ls : List (Option Value)} {st : List Value} {S : gl_H} {k : Nat × Nat} {pl : Nat} {fs : List Value} {a : Int32} (hM : M.2.1 = RX6) (hd : decode M.1 pc = .ok (.putfield 57, 3)) (hS : S pl = some (.inr (3, fs))) (hl : 1 < fs.length) (K : GG M x Z (pc + 3) ls st (gl_pu S pl (.inr (3, fs.set 1 (.int a)))) k) : GG M x Z pc ls (.int a :: .ref pl :: st) S k := gg_put (ty0 := tyX3) (ty := .int) 1 hd igX3 tyX3_ok nmX3 rfl (by decide) (by rw [hM]; exact lk_X6_57) rfl rfl (by decide +kernel) hS hl rfl rfl (fun r e => by cases e) K
set_option maxRecDepth 20000 in
theorem lk_X6_69 : Cond.fieldLink RX6 69 (TX6 6).1 (TX6 6).2.1 (TX6 6).2.2.1 ∈ gl_T := (gl_T_in (by decide +kernel) (by decide +kernel))
theorem gf_X6_69 {M : gl_M} {x : gl_X} {Z : State → Prop} {pc : Nat} {ls : List (Option Value)} {st : List Value} {S : gl_H} {k : Nat × Nat} {pl : Nat} {fs : List Value} {v : Value} (hM : M.2.1 = RX6) (hd : decode M.1 pc = .ok (.getfield 69, 3)) (hS : S pl = some (.inr (6, fs))) (hv : fs[6]? = some v) (K : GG M x Z (pc + 3) ls (v :: st) S k) : GG M x Z pc ls (.ref pl :: st) S k := gg_get 6 hd igX6 rfl (by decide) (by rw [hM]; exact lk_X6_69) rfl hS hv K
theorem pf_X6_69 {M : gl_M} {x : gl_X} {Z : State → Prop} {pc : Nat} {ls : List (Option Value)} {st : List Value} {S : gl_H} {k : Nat × Nat} {pl : Nat} {fs : List Value} {a : Int32} (hM : M.2.1 = RX6) (hd : decode M.1 pc = .ok (.putfield 69, 3)) (hS : S pl = some (.inr (6, fs))) (hl : 6 < fs.length) (K : GG M x Z (pc + 3) ls st (gl_pu S pl (.inr (6, fs.set 6 (.int a)))) k) : GG M x Z pc ls (.int a :: .ref pl :: st) S k := gg_put (ty0 := tyX6) (ty := .int) 6 hd igX6 tyX6_ok nmX6 rfl (by decide) (by rw [hM]; exact lk_X6_69) rfl rfl (by decide +kernel) hS hl rfl rfl (fun r e => by cases e) K
set_option maxRecDepth 20000 in
theorem lk_X6_83 : Cond.fieldLink RX6 83 (TX4 3).1 (TX4 3).2.1 (TX4 3).2.2.1 ∈ gl_T := (gl_T_in (by decide +kernel) (by decide +kernel))
theorem gf_X6_83 {M : gl_M} {x : gl_X} {Z : State → Prop} {pc : Nat} {ls : List (Option Value)} {st : List Value} {S : gl_H} {k : Nat × Nat} {pl : Nat} {fs : List Value} {v : Value} (hM : M.2.1 = RX6) (hd : decode M.1 pc = .ok (.getfield 83, 3)) (hS : S pl = some (.inr (4, fs))) (hv : fs[3]? = some v) (K : GG M x Z (pc + 3) ls (v :: st) S k) : GG M x Z pc ls (.ref pl :: st) S k := gg_get 3 hd igX4 rfl (by decide) (by rw [hM]; exact lk_X6_83) rfl hS hv K
set_option maxRecDepth 20000 in
theorem lk_X6_87 : Cond.fieldLink RX6 87 (TX4 4).1 (TX4 4).2.1 (TX4 4).2.2.1 ∈ gl_T := (gl_T_in (by decide +kernel) (by decide +kernel))
theorem gf_X6_87 {M : gl_M} {x : gl_X} {Z : State → Prop} {pc : Nat} {ls : List (Option Value)} {st : List Value} {S : gl_H} {k : Nat × Nat} {pl : Nat} {fs : List Value} {v : Value} (hM : M.2.1 = RX6) (hd : decode M.1 pc = .ok (.getfield 87, 3)) (hS : S pl = some (.inr (4, fs))) (hv : fs[4]? = some v) (K : GG M x Z (pc + 3) ls (v :: st) S k) : GG M x Z pc ls (.ref pl :: st) S k := gg_get 4 hd igX4 rfl (by decide) (by rw [hM]; exact lk_X6_87) rfl hS hv K
theorem pf_X6_87 {M : gl_M} {x : gl_X} {Z : State → Prop} {pc : Nat} {ls : List (Option Value)} {st : List Value} {S : gl_H} {k : Nat × Nat} {pl : Nat} {fs : List Value} {a : Int32} (hM : M.2.1 = RX6) (hd : decode M.1 pc = .ok (.putfield 87, 3)) (hS : S pl = some (.inr (4, fs))) (hl : 4 < fs.length) (K : GG M x Z (pc + 3) ls st (gl_pu S pl (.inr (4, fs.set 4 (.int a)))) k) : GG M x Z pc ls (.int a :: .ref pl :: st) S k := gg_put (ty0 := tyX4) (ty := .int) 4 hd igX4 tyX4_ok nmX4 rfl (by decide) (by rw [hM]; exact lk_X6_87) rfl rfl (by decide +kernel) hS hl rfl rfl (fun r e => by cases e) K
set_option maxRecDepth 20000 in
theorem lk_X6_90 : Cond.fieldLink RX6 90 (TX4 5).1 (TX4 5).2.1 (TX4 5).2.2.1 ∈ gl_T := (gl_T_in (by decide +kernel) (by decide +kernel))
theorem gf_X6_90 {M : gl_M} {x : gl_X} {Z : State → Prop} {pc : Nat} {ls : List (Option Value)} {st : List Value} {S : gl_H} {k : Nat × Nat} {pl : Nat} {fs : List Value} {v : Value} (hM : M.2.1 = RX6) (hd : decode M.1 pc = .ok (.getfield 90, 3)) (hS : S pl = some (.inr (4, fs))) (hv : fs[5]? = some v) (K : GG M x Z (pc + 3) ls (v :: st) S k) : GG M x Z pc ls (.ref pl :: st) S k := gg_get 5 hd igX4 rfl (by decide) (by rw [hM]; exact lk_X6_90) rfl hS hv K
theorem pf_X6_90 {M : gl_M} {x : gl_X} {Z : State → Prop} {pc : Nat} {ls : List (Option Value)} {st : List Value} {S : gl_H} {k : Nat × Nat} {pl : Nat} {fs : List Value} {a : Int32} (hM : M.2.1 = RX6) (hd : decode M.1 pc = .ok (.putfield 90, 3)) (hS : S pl = some (.inr (4, fs))) (hl : 5 < fs.length) (K : GG M x Z (pc + 3) ls st (gl_pu S pl (.inr (4, fs.set 5 (.int a)))) k) : GG M x Z pc ls (.int a :: .ref pl :: st) S k := gg_put (ty0 := tyX4) (ty := .int) 5 hd igX4 tyX4_ok nmX4 rfl (by decide) (by rw [hM]; exact lk_X6_90) rfl rfl (by decide +kernel) hS hl rfl rfl (fun r e => by cases e) K
set_option maxRecDepth 20000 in
theorem lk_X6_93 : Cond.fieldLink RX6 93 (TX6 7).1 (TX6 7).2.1 (TX6 7).2.2.1 ∈ gl_T := (gl_T_in (by decide +kernel) (by decide +kernel))
theorem gf_X6_93 {M : gl_M} {x : gl_X} {Z : State → Prop} {pc : Nat} {ls : List (Option Value)} {st : List Value} {S : gl_H} {k : Nat × Nat} {pl : Nat} {fs : List Value} {v : Value} (hM : M.2.1 = RX6) (hd : decode M.1 pc = .ok (.getfield 93, 3)) (hS : S pl = some (.inr (6, fs))) (hv : fs[7]? = some v) (K : GG M x Z (pc + 3) ls (v :: st) S k) : GG M x Z pc ls (.ref pl :: st) S k := gg_get 7 hd igX6 rfl (by decide) (by rw [hM]; exact lk_X6_93) rfl hS hv K
theorem pf_X6_93 {M : gl_M} {x : gl_X} {Z : State → Prop} {pc : Nat} {ls : List (Option Value)} {st : List Value} {S : gl_H} {k : Nat × Nat} {pl : Nat} {fs : List Value} {a : Int32} (hM : M.2.1 = RX6) (hd : decode M.1 pc = .ok (.putfield 93, 3)) (hS : S pl = some (.inr (6, fs))) (hl : 7 < fs.length) (K : GG M x Z (pc + 3) ls st (gl_pu S pl (.inr (6, fs.set 7 (.int a)))) k) : GG M x Z pc ls (.int a :: .ref pl :: st) S k := gg_put (ty0 := tyX6) (ty := .int) 7 hd igX6 tyX6_ok nmX6 rfl (by decide) (by rw [hM]; exact lk_X6_93) rfl rfl (by decide +kernel) hS hl rfl rfl (fun r e => by cases e) K
set_option maxRecDepth 20000 in
theorem lk_X6_106 : Cond.fieldLink RX6 106 (TX6 8).1 (TX6 8).2.1 (TX6 8).2.2.1 ∈ gl_T := (gl_T_in (by decide +kernel) (by decide +kernel))
theorem gf_X6_106 {M : gl_M} {x : gl_X} {Z : State → Prop} {pc : Nat} {ls : List (Option Value)} {st : List Value} {S : gl_H} {k : Nat × Nat} {pl : Nat} {fs : List Value} {v : Value} (hM : M.2.1 = RX6) (hd : decode M.1 pc = .ok (.getfield 106, 3)) (hS : S pl = some (.inr (6, fs))) (hv : fs[8]? = some v) (K : GG M x Z (pc + 3) ls (v :: st) S k) : GG M x Z pc ls (.ref pl :: st) S k := gg_get 8 hd igX6 rfl (by decide) (by rw [hM]; exact lk_X6_106) rfl hS hv K
theorem pf_X6_106 {M : gl_M} {x : gl_X} {Z : State → Prop} {pc : Nat} {ls : List (Option Value)} {st : List Value} {S : gl_H} {k : Nat × Nat} {pl : Nat} {fs : List Value} {a : Int32} (hM : M.2.1 = RX6) (hd : decode M.1 pc = .ok (.putfield 106, 3)) (hS : S pl = some (.inr (6, fs))) (hl : 8 < fs.length) (K : GG M x Z (pc + 3) ls st (gl_pu S pl (.inr (6, fs.set 8 (.int a)))) k) : GG M x Z pc ls (.int a :: .ref pl :: st) S k := gg_put (ty0 := tyX6) (ty := .int) 8 hd igX6 tyX6_ok nmX6 rfl (by decide) (by rw [hM]; exact lk_X6_106) rfl rfl (by decide +kernel) hS hl rfl rfl (fun r e => by cases e) K
set_option maxRecDepth 20000 in
theorem lk_X6_156 : Cond.fieldLink RX6 156 (TX4 10).1 (TX4 10).2.1 (TX4 10).2.2.1 ∈ gl_T := (gl_T_in (by decide +kernel) (by decide +kernel))
theorem gf_X6_156 {M : gl_M} {x : gl_X} {Z : State → Prop} {pc : Nat} {ls : List (Option Value)} {st : List Value} {S : gl_H} {k : Nat × Nat} {pl : Nat} {fs : List Value} {v : Value} (hM : M.2.1 = RX6) (hd : decode M.1 pc = .ok (.getfield 156, 3)) (hS : S pl = some (.inr (4, fs))) (hv : fs[10]? = some v) (K : GG M x Z (pc + 3) ls (v :: st) S k) : GG M x Z pc ls (.ref pl :: st) S k := gg_get 10 hd igX4 rfl (by decide) (by rw [hM]; exact lk_X6_156) rfl hS hv K
set_option maxRecDepth 20000 in
theorem lk_X6_164 : Cond.fieldLink RX6 164 (TX4 0).1 (TX4 0).2.1 (TX4 0).2.2.1 ∈ gl_T := (gl_T_in (by decide +kernel) (by decide +kernel))
theorem gf_X6_164 {M : gl_M} {x : gl_X} {Z : State → Prop} {pc : Nat} {ls : List (Option Value)} {st : List Value} {S : gl_H} {k : Nat × Nat} {pl : Nat} {fs : List Value} {v : Value} (hM : M.2.1 = RX6) (hd : decode M.1 pc = .ok (.getfield 164, 3)) (hS : S pl = some (.inr (4, fs))) (hv : fs[0]? = some v) (K : GG M x Z (pc + 3) ls (v :: st) S k) : GG M x Z pc ls (.ref pl :: st) S k := gg_get 0 hd igX4 rfl (by decide) (by rw [hM]; exact lk_X6_164) rfl hS hv K
set_option maxRecDepth 20000 in
theorem lk_X6_167 : Cond.fieldLink RX6 167 (TX4 1).1 (TX4 1).2.1 (TX4 1).2.2.1 ∈ gl_T := (gl_T_in (by decide +kernel) (by decide +kernel))
theorem gf_X6_167 {M : gl_M} {x : gl_X} {Z : State → Prop} {pc : Nat} {ls : List (Option Value)} {st : List Value} {S : gl_H} {k : Nat × Nat} {pl : Nat} {fs : List Value} {v : Value} (hM : M.2.1 = RX6) (hd : decode M.1 pc = .ok (.getfield 167, 3)) (hS : S pl = some (.inr (4, fs))) (hv : fs[1]? = some v) (K : GG M x Z (pc + 3) ls (v :: st) S k) : GG M x Z pc ls (.ref pl :: st) S k := gg_get 1 hd igX4 rfl (by decide) (by rw [hM]; exact lk_X6_167) rfl hS hv K
set_option maxRecDepth 20000 in
theorem lk_X6_170 : Cond.fieldLink RX6 170 (TX4 2).1 (TX4 2).2.1 (TX4 2).2.2.1 ∈ gl_T := (gl_T_in (by decide +kernel) (by decide +kernel))
theorem gf_X6_170 {M : gl_M} {x : gl_X} {Z : State → Prop} {pc : Nat} {ls : List (Option Value)} {st : List Value} {S : gl_H} {k : Nat × Nat} {pl : Nat} {fs : List Value} {v : Value} (hM : M.2.1 = RX6) (hd : decode M.1 pc = .ok (.getfield 170, 3)) (hS : S pl = some (.inr (4, fs))) (hv : fs[2]? = some v) (K : GG M x Z (pc + 3) ls (v :: st) S k) : GG M x Z pc ls (.ref pl :: st) S k := gg_get 2 hd igX4 rfl (by decide) (by rw [hM]; exact lk_X6_170) rfl hS hv K
set_option maxRecDepth 20000 in
theorem lk_X6_173 : Cond.fieldLink RX6 173 (TX4 6).1 (TX4 6).2.1 (TX4 6).2.2.1 ∈ gl_T := (gl_T_in (by decide +kernel) (by decide +kernel))
theorem gf_X6_173 {M : gl_M} {x : gl_X} {Z : State → Prop} {pc : Nat} {ls : List (Option Value)} {st : List Value} {S : gl_H} {k : Nat × Nat} {pl : Nat} {fs : List Value} {v : Value} (hM : M.2.1 = RX6) (hd : decode M.1 pc = .ok (.getfield 173, 3)) (hS : S pl = some (.inr (4, fs))) (hv : fs[6]? = some v) (K : GG M x Z (pc + 3) ls (v :: st) S k) : GG M x Z pc ls (.ref pl :: st) S k := gg_get 6 hd igX4 rfl (by decide) (by rw [hM]; exact lk_X6_173) rfl hS hv K
set_option maxRecDepth 20000 in
theorem lk_X6_176 : Cond.fieldLink RX6 176 (TX4 7).1 (TX4 7).2.1 (TX4 7).2.2.1 ∈ gl_T := (gl_T_in (by decide +kernel) (by decide +kernel))
theorem gf_X6_176 {M : gl_M} {x : gl_X} {Z : State → Prop} {pc : Nat} {ls : List (Option Value)} {st : List Value} {S : gl_H} {k : Nat × Nat} {pl : Nat} {fs : List Value} {v : Value} (hM : M.2.1 = RX6) (hd : decode M.1 pc = .ok (.getfield 176, 3)) (hS : S pl = some (.inr (4, fs))) (hv : fs[7]? = some v) (K : GG M x Z (pc + 3) ls (v :: st) S k) : GG M x Z pc ls (.ref pl :: st) S k := gg_get 7 hd igX4 rfl (by decide) (by rw [hM]; exact lk_X6_176) rfl hS hv K
set_option maxRecDepth 20000 in
theorem lk_X6_179 : Cond.fieldLink RX6 179 (TX4 8).1 (TX4 8).2.1 (TX4 8).2.2.1 ∈ gl_T := (gl_T_in (by decide +kernel) (by decide +kernel))
theorem gf_X6_179 {M : gl_M} {x : gl_X} {Z : State → Prop} {pc : Nat} {ls : List (Option Value)} {st : List Value} {S : gl_H} {k : Nat × Nat} {pl : Nat} {fs : List Value} {v : Value} (hM : M.2.1 = RX6) (hd : decode M.1 pc = .ok (.getfield 179, 3)) (hS : S pl = some (.inr (4, fs))) (hv : fs[8]? = some v) (K : GG M x Z (pc + 3) ls (v :: st) S k) : GG M x Z pc ls (.ref pl :: st) S k := gg_get 8 hd igX4 rfl (by decide) (by rw [hM]; exact lk_X6_179) rfl hS hv K
set_option maxRecDepth 20000 in
theorem lk_X6_182 : Cond.fieldLink RX6 182 (TX4 9).1 (TX4 9).2.1 (TX4 9).2.2.1 ∈ gl_T := (gl_T_in (by decide +kernel) (by decide +kernel))
theorem gf_X6_182 {M : gl_M} {x : gl_X} {Z : State → Prop} {pc : Nat} {ls : List (Option Value)} {st : List Value} {S : gl_H} {k : Nat × Nat} {pl : Nat} {fs : List Value} {v : Value} (hM : M.2.1 = RX6) (hd : decode M.1 pc = .ok (.getfield 182, 3)) (hS : S pl = some (.inr (4, fs))) (hv : fs[9]? = some v) (K : GG M x Z (pc + 3) ls (v :: st) S k) : GG M x Z pc ls (.ref pl :: st) S k := gg_get 9 hd igX4 rfl (by decide) (by rw [hM]; exact lk_X6_182) rfl hS hv K
set_option maxRecDepth 20000 in
theorem lk_X6_188 : Cond.fieldLink RX6 188 (TX0 0).1 (TX0 0).2.1 (TX0 0).2.2.1 ∈ gl_T := (gl_T_in (by decide +kernel) (by decide +kernel))
theorem gf_X6_188 {M : gl_M} {x : gl_X} {Z : State → Prop} {pc : Nat} {ls : List (Option Value)} {st : List Value} {S : gl_H} {k : Nat × Nat} {pl : Nat} {fs : List Value} {v : Value} (hM : M.2.1 = RX6) (hd : decode M.1 pc = .ok (.getfield 188, 3)) (hS : S pl = some (.inr (0, fs))) (hv : fs[0]? = some v) (K : GG M x Z (pc + 3) ls (v :: st) S k) : GG M x Z pc ls (.ref pl :: st) S k := gg_get 0 hd igX0 rfl (by decide) (by rw [hM]; exact lk_X6_188) rfl hS hv K
set_option maxRecDepth 20000 in
theorem lk_X6_191 : Cond.fieldLink RX6 191 (TX0 1).1 (TX0 1).2.1 (TX0 1).2.2.1 ∈ gl_T := (gl_T_in (by decide +kernel) (by decide +kernel))
theorem gf_X6_191 {M : gl_M} {x : gl_X} {Z : State → Prop} {pc : Nat} {ls : List (Option Value)} {st : List Value} {S : gl_H} {k : Nat × Nat} {pl : Nat} {fs : List Value} {v : Value} (hM : M.2.1 = RX6) (hd : decode M.1 pc = .ok (.getfield 191, 3)) (hS : S pl = some (.inr (0, fs))) (hv : fs[1]? = some v) (K : GG M x Z (pc + 3) ls (v :: st) S k) : GG M x Z pc ls (.ref pl :: st) S k := gg_get 1 hd igX0 rfl (by decide) (by rw [hM]; exact lk_X6_191) rfl hS hv K
set_option maxRecDepth 20000 in
theorem lk_X6_194 : Cond.fieldLink RX6 194 (TX0 2).1 (TX0 2).2.1 (TX0 2).2.2.1 ∈ gl_T := (gl_T_in (by decide +kernel) (by decide +kernel))
theorem gf_X6_194 {M : gl_M} {x : gl_X} {Z : State → Prop} {pc : Nat} {ls : List (Option Value)} {st : List Value} {S : gl_H} {k : Nat × Nat} {pl : Nat} {fs : List Value} {v : Value} (hM : M.2.1 = RX6) (hd : decode M.1 pc = .ok (.getfield 194, 3)) (hS : S pl = some (.inr (0, fs))) (hv : fs[2]? = some v) (K : GG M x Z (pc + 3) ls (v :: st) S k) : GG M x Z pc ls (.ref pl :: st) S k := gg_get 2 hd igX0 rfl (by decide) (by rw [hM]; exact lk_X6_194) rfl hS hv K
set_option maxRecDepth 20000 in
theorem lk_X6_197 : Cond.fieldLink RX6 197 (TX0 3).1 (TX0 3).2.1 (TX0 3).2.2.1 ∈ gl_T := (gl_T_in (by decide +kernel) (by decide +kernel))
theorem gf_X6_197 {M : gl_M} {x : gl_X} {Z : State → Prop} {pc : Nat} {ls : List (Option Value)} {st : List Value} {S : gl_H} {k : Nat × Nat} {pl : Nat} {fs : List Value} {v : Value} (hM : M.2.1 = RX6) (hd : decode M.1 pc = .ok (.getfield 197, 3)) (hS : S pl = some (.inr (0, fs))) (hv : fs[3]? = some v) (K : GG M x Z (pc + 3) ls (v :: st) S k) : GG M x Z pc ls (.ref pl :: st) S k := gg_get 3 hd igX0 rfl (by decide) (by rw [hM]; exact lk_X6_197) rfl hS hv K
set_option maxRecDepth 20000 in
theorem lk_X6_200 : Cond.fieldLink RX6 200 (TX0 4).1 (TX0 4).2.1 (TX0 4).2.2.1 ∈ gl_T := (gl_T_in (by decide +kernel) (by decide +kernel))
theorem gf_X6_200 {M : gl_M} {x : gl_X} {Z : State → Prop} {pc : Nat} {ls : List (Option Value)} {st : List Value} {S : gl_H} {k : Nat × Nat} {pl : Nat} {fs : List Value} {v : Value} (hM : M.2.1 = RX6) (hd : decode M.1 pc = .ok (.getfield 200, 3)) (hS : S pl = some (.inr (0, fs))) (hv : fs[4]? = some v) (K : GG M x Z (pc + 3) ls (v :: st) S k) : GG M x Z pc ls (.ref pl :: st) S k := gg_get 4 hd igX0 rfl (by decide) (by rw [hM]; exact lk_X6_200) rfl hS hv K
set_option maxRecDepth 20000 in
theorem lk_X6_206 : Cond.fieldLink RX6 206 (TX5 4).1 (TX5 4).2.1 (TX5 4).2.2.1 ∈ gl_T := (gl_T_in (by decide +kernel) (by decide +kernel))
theorem gf_X6_206 {M : gl_M} {x : gl_X} {Z : State → Prop} {pc : Nat} {ls : List (Option Value)} {st : List Value} {S : gl_H} {k : Nat × Nat} {pl : Nat} {fs : List Value} {v : Value} (hM : M.2.1 = RX6) (hd : decode M.1 pc = .ok (.getfield 206, 3)) (hS : S pl = some (.inr (5, fs))) (hv : fs[4]? = some v) (K : GG M x Z (pc + 3) ls (v :: st) S k) : GG M x Z pc ls (.ref pl :: st) S k := gg_get 4 hd igX5 rfl (by decide) (by rw [hM]; exact lk_X6_206) rfl hS hv K
set_option maxRecDepth 20000 in
theorem lk_X7_7 : Cond.fieldLink RX7 7 (TX7 0).1 (TX7 0).2.1 (TX7 0).2.2.1 ∈ gl_T := (gl_T_in (by decide +kernel) (by decide +kernel))
theorem gf_X7_7 {M : gl_M} {x : gl_X} {Z : State → Prop} {pc : Nat} {ls : List (Option Value)} {st : List Value} {S : gl_H} {k : Nat × Nat} {pl : Nat} {fs : List Value} {v : Value} (hM : M.2.1 = RX7) (hd : decode M.1 pc = .ok (.getfield 7, 3)) (hS : S pl = some (.inr (7, fs))) (hv : fs[0]? = some v) (K : GG M x Z (pc + 3) ls (v :: st) S k) : GG M x Z pc ls (.ref pl :: st) S k := gg_get 0 hd igX7 rfl (by decide) (by rw [hM]; exact lk_X7_7) rfl hS hv K
theorem pf_X7_7 {M : gl_M} {x : gl_X} {Z : State → Prop} {pc : Nat} {ls : List (Option Value)} {st : List Value} {S : gl_H} {k : Nat × Nat} {pl : Nat} {fs : List Value} {rv : Nat} (hM : M.2.1 = RX7) (hi : M.2.2.2.2.1 = true) (hd : decode M.1 pc = .ok (.putfield 7, 3)) (hS : S pl = some (.inr (7, fs))) (hl : 0 < fs.length) (hrv : S rv ≠ none) (K : GG M x Z (pc + 3) ls st (gl_pu S pl (.inr (7, fs.set 0 (.ref rv)))) k) : GG M x Z pc ls (.ref rv :: .ref pl :: st) S k := gg_putF (ty0 := tyX7) (ty := tyX7 0) 0 hd igX7 tyX7_ok nmX7 rfl (by decide) (by rw [hM]; exact lk_X7_7) rfl rfl hi (by rw [hM]; rfl) (by decide +kernel) hS hl (fun a => ⟨rfl, rfl⟩) hrv K
set_option maxRecDepth 20000 in
theorem lk_X7_13 : Cond.fieldLink RX7 13 (TX7 6).1 (TX7 6).2.1 (TX7 6).2.2.1 ∈ gl_T := (gl_T_in (by decide +kernel) (by decide +kernel))
theorem gf_X7_13 {M : gl_M} {x : gl_X} {Z : State → Prop} {pc : Nat} {ls : List (Option Value)} {st : List Value} {S : gl_H} {k : Nat × Nat} {pl : Nat} {fs : List Value} {v : Value} (hM : M.2.1 = RX7) (hd : decode M.1 pc = .ok (.getfield 13, 3)) (hS : S pl = some (.inr (7, fs))) (hv : fs[6]? = some v) (K : GG M x Z (pc + 3) ls (v :: st) S k) : GG M x Z pc ls (.ref pl :: st) S k := gg_get 6 hd igX7 rfl (by decide) (by rw [hM]; exact lk_X7_13) rfl hS hv K
theorem pf_X7_13 {M : gl_M} {x : gl_X} {Z : State → Prop} {pc : Nat} {ls : List (Option Value)} {st : List Value} {S : gl_H} {k : Nat × Nat} {pl : Nat} {fs : List Value} {rv : Nat} (hM : M.2.1 = RX7) (hi : M.2.2.2.2.1 = true) (hd : decode M.1 pc = .ok (.putfield 13, 3)) (hS : S pl = some (.inr (7, fs))) (hl : 6 < fs.length) (hrv : S rv ≠ none) (K : GG M x Z (pc + 3) ls st (gl_pu S pl (.inr (7, fs.set 6 (.ref rv)))) k) : GG M x Z pc ls (.ref rv :: .ref pl :: st) S k := gg_putF (ty0 := tyX7) (ty := tyX7 6) 6 hd igX7 tyX7_ok nmX7 rfl (by decide) (by rw [hM]; exact lk_X7_13) rfl rfl hi (by rw [hM]; rfl) (by decide +kernel) hS hl (fun a => ⟨rfl, rfl⟩) hrv K
set_option maxRecDepth 20000 in
theorem lk_X7_17 : Cond.fieldLink RX7 17 (TX7 7).1 (TX7 7).2.1 (TX7 7).2.2.1 ∈ gl_T := (gl_T_in (by decide +kernel) (by decide +kernel))
theorem gf_X7_17 {M : gl_M} {x : gl_X} {Z : State → Prop} {pc : Nat} {ls : List (Option Value)} {st : List Value} {S : gl_H} {k : Nat × Nat} {pl : Nat} {fs : List Value} {v : Value} (hM : M.2.1 = RX7) (hd : decode M.1 pc = .ok (.getfield 17, 3)) (hS : S pl = some (.inr (7, fs))) (hv : fs[7]? = some v) (K : GG M x Z (pc + 3) ls (v :: st) S k) : GG M x Z pc ls (.ref pl :: st) S k := gg_get 7 hd igX7 rfl (by decide) (by rw [hM]; exact lk_X7_17) rfl hS hv K
theorem pf_X7_17 {M : gl_M} {x : gl_X} {Z : State → Prop} {pc : Nat} {ls : List (Option Value)} {st : List Value} {S : gl_H} {k : Nat × Nat} {pl : Nat} {fs : List Value} {rv : Nat} (hM : M.2.1 = RX7) (hi : M.2.2.2.2.1 = true) (hd : decode M.1 pc = .ok (.putfield 17, 3)) (hS : S pl = some (.inr (7, fs))) (hl : 7 < fs.length) (hrv : S rv ≠ none) (K : GG M x Z (pc + 3) ls st (gl_pu S pl (.inr (7, fs.set 7 (.ref rv)))) k) : GG M x Z pc ls (.ref rv :: .ref pl :: st) S k := gg_putF (ty0 := tyX7) (ty := tyX7 7) 7 hd igX7 tyX7_ok nmX7 rfl (by decide) (by rw [hM]; exact lk_X7_17) rfl rfl hi (by rw [hM]; rfl) (by decide +kernel) hS hl (fun a => ⟨rfl, rfl⟩) hrv K
set_option maxRecDepth 20000 in
theorem lk_X7_20 : Cond.fieldLink RX7 20 (TX7 8).1 (TX7 8).2.1 (TX7 8).2.2.1 ∈ gl_T := (gl_T_in (by decide +kernel) (by decide +kernel))
theorem gf_X7_20 {M : gl_M} {x : gl_X} {Z : State → Prop} {pc : Nat} {ls : List (Option Value)} {st : List Value} {S : gl_H} {k : Nat × Nat} {pl : Nat} {fs : List Value} {v : Value} (hM : M.2.1 = RX7) (hd : decode M.1 pc = .ok (.getfield 20, 3)) (hS : S pl = some (.inr (7, fs))) (hv : fs[8]? = some v) (K : GG M x Z (pc + 3) ls (v :: st) S k) : GG M x Z pc ls (.ref pl :: st) S k := gg_get 8 hd igX7 rfl (by decide) (by rw [hM]; exact lk_X7_20) rfl hS hv K
theorem pf_X7_20 {M : gl_M} {x : gl_X} {Z : State → Prop} {pc : Nat} {ls : List (Option Value)} {st : List Value} {S : gl_H} {k : Nat × Nat} {pl : Nat} {fs : List Value} {rv : Nat} (hM : M.2.1 = RX7) (hi : M.2.2.2.2.1 = true) (hd : decode M.1 pc = .ok (.putfield 20, 3)) (hS : S pl = some (.inr (7, fs))) (hl : 8 < fs.length) (hrv : S rv ≠ none) (K : GG M x Z (pc + 3) ls st (gl_pu S pl (.inr (7, fs.set 8 (.ref rv)))) k) : GG M x Z pc ls (.ref rv :: .ref pl :: st) S k := gg_putF (ty0 := tyX7) (ty := tyX7 8) 8 hd igX7 tyX7_ok nmX7 rfl (by decide) (by rw [hM]; exact lk_X7_20) rfl rfl hi (by rw [hM]; rfl) (by decide +kernel) hS hl (fun a => ⟨rfl, rfl⟩) hrv K
set_option maxRecDepth 20000 in
theorem lk_X7_23 : Cond.fieldLink RX7 23 (TX7 9).1 (TX7 9).2.1 (TX7 9).2.2.1 ∈ gl_T := (gl_T_in (by decide +kernel) (by decide +kernel))
theorem gf_X7_23 {M : gl_M} {x : gl_X} {Z : State → Prop} {pc : Nat} {ls : List (Option Value)} {st : List Value} {S : gl_H} {k : Nat × Nat} {pl : Nat} {fs : List Value} {v : Value} (hM : M.2.1 = RX7) (hd : decode M.1 pc = .ok (.getfield 23, 3)) (hS : S pl = some (.inr (7, fs))) (hv : fs[9]? = some v) (K : GG M x Z (pc + 3) ls (v :: st) S k) : GG M x Z pc ls (.ref pl :: st) S k := gg_get 9 hd igX7 rfl (by decide) (by rw [hM]; exact lk_X7_23) rfl hS hv K
theorem pf_X7_23 {M : gl_M} {x : gl_X} {Z : State → Prop} {pc : Nat} {ls : List (Option Value)} {st : List Value} {S : gl_H} {k : Nat × Nat} {pl : Nat} {fs : List Value} {rv : Nat} (hM : M.2.1 = RX7) (hi : M.2.2.2.2.1 = true) (hd : decode M.1 pc = .ok (.putfield 23, 3)) (hS : S pl = some (.inr (7, fs))) (hl : 9 < fs.length) (hrv : S rv ≠ none) (K : GG M x Z (pc + 3) ls st (gl_pu S pl (.inr (7, fs.set 9 (.ref rv)))) k) : GG M x Z pc ls (.ref rv :: .ref pl :: st) S k := gg_putF (ty0 := tyX7) (ty := tyX7 9) 9 hd igX7 tyX7_ok nmX7 rfl (by decide) (by rw [hM]; exact lk_X7_23) rfl rfl hi (by rw [hM]; rfl) (by decide +kernel) hS hl (fun a => ⟨rfl, rfl⟩) hrv K
set_option maxRecDepth 20000 in
theorem lk_X7_26 : Cond.fieldLink RX7 26 (TX7 10).1 (TX7 10).2.1 (TX7 10).2.2.1 ∈ gl_T := (gl_T_in (by decide +kernel) (by decide +kernel))
theorem gf_X7_26 {M : gl_M} {x : gl_X} {Z : State → Prop} {pc : Nat} {ls : List (Option Value)} {st : List Value} {S : gl_H} {k : Nat × Nat} {pl : Nat} {fs : List Value} {v : Value} (hM : M.2.1 = RX7) (hd : decode M.1 pc = .ok (.getfield 26, 3)) (hS : S pl = some (.inr (7, fs))) (hv : fs[10]? = some v) (K : GG M x Z (pc + 3) ls (v :: st) S k) : GG M x Z pc ls (.ref pl :: st) S k := gg_get 10 hd igX7 rfl (by decide) (by rw [hM]; exact lk_X7_26) rfl hS hv K
theorem pf_X7_26 {M : gl_M} {x : gl_X} {Z : State → Prop} {pc : Nat} {ls : List (Option Value)} {st : List Value} {S : gl_H} {k : Nat × Nat} {pl : Nat} {fs : List Value} {rv : Nat} (hM : M.2.1 = RX7) (hi : M.2.2.2.2.1 = true) (hd : decode M.1 pc = .ok (.putfield 26, 3)) (hS : S pl = some (.inr (7, fs))) (hl : 10 < fs.length) (hrv : S rv ≠ none) (K : GG M x Z (pc + 3) ls st (gl_pu S pl (.inr (7, fs.set 10 (.ref rv)))) k) : GG M x Z pc ls (.ref rv :: .ref pl :: st) S k := gg_putF (ty0 := tyX7) (ty := tyX7 10) 10 hd igX7 tyX7_ok nmX7 rfl (by decide) (by rw [hM]; exact lk_X7_26) rfl rfl hi (by rw [hM]; rfl) (by decide +kernel) hS hl (fun a => ⟨rfl, rfl⟩) hrv K
set_option maxRecDepth 20000 in
theorem lk_X7_29 : Cond.fieldLink RX7 29 (TX7 11).1 (TX7 11).2.1 (TX7 11).2.2.1 ∈ gl_T := (gl_T_in (by decide +kernel) (by decide +kernel))
theorem gf_X7_29 {M : gl_M} {x : gl_X} {Z : State → Prop} {pc : Nat} {ls : List (Option Value)} {st : List Value} {S : gl_H} {k : Nat × Nat} {pl : Nat} {fs : List Value} {v : Value} (hM : M.2.1 = RX7) (hd : decode M.1 pc = .ok (.getfield 29, 3)) (hS : S pl = some (.inr (7, fs))) (hv : fs[11]? = some v) (K : GG M x Z (pc + 3) ls (v :: st) S k) : GG M x Z pc ls (.ref pl :: st) S k := gg_get 11 hd igX7 rfl (by decide) (by rw [hM]; exact lk_X7_29) rfl hS hv K
theorem pf_X7_29 {M : gl_M} {x : gl_X} {Z : State → Prop} {pc : Nat} {ls : List (Option Value)} {st : List Value} {S : gl_H} {k : Nat × Nat} {pl : Nat} {fs : List Value} {rv : Nat} (hM : M.2.1 = RX7) (hi : M.2.2.2.2.1 = true) (hd : decode M.1 pc = .ok (.putfield 29, 3)) (hS : S pl = some (.inr (7, fs))) (hl : 11 < fs.length) (hrv : S rv ≠ none) (K : GG M x Z (pc + 3) ls st (gl_pu S pl (.inr (7, fs.set 11 (.ref rv)))) k) : GG M x Z pc ls (.ref rv :: .ref pl :: st) S k := gg_putF (ty0 := tyX7) (ty := tyX7 11) 11 hd igX7 tyX7_ok nmX7 rfl (by decide) (by rw [hM]; exact lk_X7_29) rfl rfl hi (by rw [hM]; rfl) (by decide +kernel) hS hl (fun a => ⟨rfl, rfl⟩) hrv K
set_option maxRecDepth 20000 in
theorem lk_X7_32 : Cond.fieldLink RX7 32 (TX7 12).1 (TX7 12).2.1 (TX7 12).2.2.1 ∈ gl_T := (gl_T_in (by decide +kernel) (by decide +kernel))
theorem gf_X7_32 {M : gl_M} {x : gl_X} {Z : State → Prop} {pc : Nat} {ls : List (Option Value)} {st : List Value} {S : gl_H} {k : Nat × Nat} {pl : Nat} {fs : List Value} {v : Value} (hM : M.2.1 = RX7) (hd : decode M.1 pc = .ok (.getfield 32, 3)) (hS : S pl = some (.inr (7, fs))) (hv : fs[12]? = some v) (K : GG M x Z (pc + 3) ls (v :: st) S k) : GG M x Z pc ls (.ref pl :: st) S k := gg_get 12 hd igX7 rfl (by decide) (by rw [hM]; exact lk_X7_32) rfl hS hv K
theorem pf_X7_32 {M : gl_M} {x : gl_X} {Z : State → Prop} {pc : Nat} {ls : List (Option Value)} {st : List Value} {S : gl_H} {k : Nat × Nat} {pl : Nat} {fs : List Value} {rv : Nat} (hM : M.2.1 = RX7) (hi : M.2.2.2.2.1 = true) (hd : decode M.1 pc = .ok (.putfield 32, 3)) (hS : S pl = some (.inr (7, fs))) (hl : 12 < fs.length) (hrv : S rv ≠ none) (K : GG M x Z (pc + 3) ls st (gl_pu S pl (.inr (7, fs.set 12 (.ref rv)))) k) : GG M x Z pc ls (.ref rv :: .ref pl :: st) S k := gg_putF (ty0 := tyX7) (ty := tyX7 12) 12 hd igX7 tyX7_ok nmX7 rfl (by decide) (by rw [hM]; exact lk_X7_32) rfl rfl hi (by rw [hM]; rfl) (by decide +kernel) hS hl (fun a => ⟨rfl, rfl⟩) hrv K
set_option maxRecDepth 20000 in
theorem lk_X7_35 : Cond.fieldLink RX7 35 (TX7 13).1 (TX7 13).2.1 (TX7 13).2.2.1 ∈ gl_T := (gl_T_in (by decide +kernel) (by decide +kernel))
theorem gf_X7_35 {M : gl_M} {x : gl_X} {Z : State → Prop} {pc : Nat} {ls : List (Option Value)} {st : List Value} {S : gl_H} {k : Nat × Nat} {pl : Nat} {fs : List Value} {v : Value} (hM : M.2.1 = RX7) (hd : decode M.1 pc = .ok (.getfield 35, 3)) (hS : S pl = some (.inr (7, fs))) (hv : fs[13]? = some v) (K : GG M x Z (pc + 3) ls (v :: st) S k) : GG M x Z pc ls (.ref pl :: st) S k := gg_get 13 hd igX7 rfl (by decide) (by rw [hM]; exact lk_X7_35) rfl hS hv K
theorem pf_X7_35 {M : gl_M} {x : gl_X} {Z : State → Prop} {pc : Nat} {ls : List (Option Value)} {st : List Value} {S : gl_H} {k : Nat × Nat} {pl : Nat} {fs : List Value} {rv : Nat} (hM : M.2.1 = RX7) (hi : M.2.2.2.2.1 = true) (hd : decode M.1 pc = .ok (.putfield 35, 3)) (hS : S pl = some (.inr (7, fs))) (hl : 13 < fs.length) (hrv : S rv ≠ none) (K : GG M x Z (pc + 3) ls st (gl_pu S pl (.inr (7, fs.set 13 (.ref rv)))) k) : GG M x Z pc ls (.ref rv :: .ref pl :: st) S k := gg_putF (ty0 := tyX7) (ty := tyX7 13) 13 hd igX7 tyX7_ok nmX7 rfl (by decide) (by rw [hM]; exact lk_X7_35) rfl rfl hi (by rw [hM]; rfl) (by decide +kernel) hS hl (fun a => ⟨rfl, rfl⟩) hrv K
set_option maxRecDepth 20000 in
theorem lk_X7_38 : Cond.fieldLink RX7 38 (TX7 14).1 (TX7 14).2.1 (TX7 14).2.2.1 ∈ gl_T := (gl_T_in (by decide +kernel) (by decide +kernel))
theorem gf_X7_38 {M : gl_M} {x : gl_X} {Z : State → Prop} {pc : Nat} {ls : List (Option Value)} {st : List Value} {S : gl_H} {k : Nat × Nat} {pl : Nat} {fs : List Value} {v : Value} (hM : M.2.1 = RX7) (hd : decode M.1 pc = .ok (.getfield 38, 3)) (hS : S pl = some (.inr (7, fs))) (hv : fs[14]? = some v) (K : GG M x Z (pc + 3) ls (v :: st) S k) : GG M x Z pc ls (.ref pl :: st) S k := gg_get 14 hd igX7 rfl (by decide) (by rw [hM]; exact lk_X7_38) rfl hS hv K
theorem pf_X7_38 {M : gl_M} {x : gl_X} {Z : State → Prop} {pc : Nat} {ls : List (Option Value)} {st : List Value} {S : gl_H} {k : Nat × Nat} {pl : Nat} {fs : List Value} {rv : Nat} (hM : M.2.1 = RX7) (hi : M.2.2.2.2.1 = true) (hd : decode M.1 pc = .ok (.putfield 38, 3)) (hS : S pl = some (.inr (7, fs))) (hl : 14 < fs.length) (hrv : S rv ≠ none) (K : GG M x Z (pc + 3) ls st (gl_pu S pl (.inr (7, fs.set 14 (.ref rv)))) k) : GG M x Z pc ls (.ref rv :: .ref pl :: st) S k := gg_putF (ty0 := tyX7) (ty := tyX7 14) 14 hd igX7 tyX7_ok nmX7 rfl (by decide) (by rw [hM]; exact lk_X7_38) rfl rfl hi (by rw [hM]; rfl) (by decide +kernel) hS hl (fun a => ⟨rfl, rfl⟩) hrv K
set_option maxRecDepth 20000 in
theorem lk_X7_41 : Cond.fieldLink RX7 41 (TX7 15).1 (TX7 15).2.1 (TX7 15).2.2.1 ∈ gl_T := (gl_T_in (by decide +kernel) (by decide +kernel))
theorem gf_X7_41 {M : gl_M} {x : gl_X} {Z : State → Prop} {pc : Nat} {ls : List (Option Value)} {st : List Value} {S : gl_H} {k : Nat × Nat} {pl : Nat} {fs : List Value} {v : Value} (hM : M.2.1 = RX7) (hd : decode M.1 pc = .ok (.getfield 41, 3)) (hS : S pl = some (.inr (7, fs))) (hv : fs[15]? = some v) (K : GG M x Z (pc + 3) ls (v :: st) S k) : GG M x Z pc ls (.ref pl :: st) S k := gg_get 15 hd igX7 rfl (by decide) (by rw [hM]; exact lk_X7_41) rfl hS hv K
theorem pf_X7_41 {M : gl_M} {x : gl_X} {Z : State → Prop} {pc : Nat} {ls : List (Option Value)} {st : List Value} {S : gl_H} {k : Nat × Nat} {pl : Nat} {fs : List Value} {rv : Nat} (hM : M.2.1 = RX7) (hi : M.2.2.2.2.1 = true) (hd : decode M.1 pc = .ok (.putfield 41, 3)) (hS : S pl = some (.inr (7, fs))) (hl : 15 < fs.length) (hrv : S rv ≠ none) (K : GG M x Z (pc + 3) ls st (gl_pu S pl (.inr (7, fs.set 15 (.ref rv)))) k) : GG M x Z pc ls (.ref rv :: .ref pl :: st) S k := gg_putF (ty0 := tyX7) (ty := tyX7 15) 15 hd igX7 tyX7_ok nmX7 rfl (by decide) (by rw [hM]; exact lk_X7_41) rfl rfl hi (by rw [hM]; rfl) (by decide +kernel) hS hl (fun a => ⟨rfl, rfl⟩) hrv K
set_option maxRecDepth 20000 in
theorem lk_X7_44 : Cond.fieldLink RX7 44 (TX7 16).1 (TX7 16).2.1 (TX7 16).2.2.1 ∈ gl_T := (gl_T_in (by decide +kernel) (by decide +kernel))
theorem gf_X7_44 {M : gl_M} {x : gl_X} {Z : State → Prop} {pc : Nat} {ls : List (Option Value)} {st : List Value} {S : gl_H} {k : Nat × Nat} {pl : Nat} {fs : List Value} {v : Value} (hM : M.2.1 = RX7) (hd : decode M.1 pc = .ok (.getfield 44, 3)) (hS : S pl = some (.inr (7, fs))) (hv : fs[16]? = some v) (K : GG M x Z (pc + 3) ls (v :: st) S k) : GG M x Z pc ls (.ref pl :: st) S k := gg_get 16 hd igX7 rfl (by decide) (by rw [hM]; exact lk_X7_44) rfl hS hv K
theorem pf_X7_44 {M : gl_M} {x : gl_X} {Z : State → Prop} {pc : Nat} {ls : List (Option Value)} {st : List Value} {S : gl_H} {k : Nat × Nat} {pl : Nat} {fs : List Value} {rv : Nat} (hM : M.2.1 = RX7) (hi : M.2.2.2.2.1 = true) (hd : decode M.1 pc = .ok (.putfield 44, 3)) (hS : S pl = some (.inr (7, fs))) (hl : 16 < fs.length) (hrv : S rv ≠ none) (K : GG M x Z (pc + 3) ls st (gl_pu S pl (.inr (7, fs.set 16 (.ref rv)))) k) : GG M x Z pc ls (.ref rv :: .ref pl :: st) S k := gg_putF (ty0 := tyX7) (ty := tyX7 16) 16 hd igX7 tyX7_ok nmX7 rfl (by decide) (by rw [hM]; exact lk_X7_44) rfl rfl hi (by rw [hM]; rfl) (by decide +kernel) hS hl (fun a => ⟨rfl, rfl⟩) hrv K
set_option maxRecDepth 20000 in
theorem lk_X7_47 : Cond.fieldLink RX7 47 (TX7 17).1 (TX7 17).2.1 (TX7 17).2.2.1 ∈ gl_T := (gl_T_in (by decide +kernel) (by decide +kernel))
theorem gf_X7_47 {M : gl_M} {x : gl_X} {Z : State → Prop} {pc : Nat} {ls : List (Option Value)} {st : List Value} {S : gl_H} {k : Nat × Nat} {pl : Nat} {fs : List Value} {v : Value} (hM : M.2.1 = RX7) (hd : decode M.1 pc = .ok (.getfield 47, 3)) (hS : S pl = some (.inr (7, fs))) (hv : fs[17]? = some v) (K : GG M x Z (pc + 3) ls (v :: st) S k) : GG M x Z pc ls (.ref pl :: st) S k := gg_get 17 hd igX7 rfl (by decide) (by rw [hM]; exact lk_X7_47) rfl hS hv K
theorem pf_X7_47 {M : gl_M} {x : gl_X} {Z : State → Prop} {pc : Nat} {ls : List (Option Value)} {st : List Value} {S : gl_H} {k : Nat × Nat} {pl : Nat} {fs : List Value} {rv : Nat} (hM : M.2.1 = RX7) (hi : M.2.2.2.2.1 = true) (hd : decode M.1 pc = .ok (.putfield 47, 3)) (hS : S pl = some (.inr (7, fs))) (hl : 17 < fs.length) (hrv : S rv ≠ none) (K : GG M x Z (pc + 3) ls st (gl_pu S pl (.inr (7, fs.set 17 (.ref rv)))) k) : GG M x Z pc ls (.ref rv :: .ref pl :: st) S k := gg_putF (ty0 := tyX7) (ty := tyX7 17) 17 hd igX7 tyX7_ok nmX7 rfl (by decide) (by rw [hM]; exact lk_X7_47) rfl rfl hi (by rw [hM]; rfl) (by decide +kernel) hS hl (fun a => ⟨rfl, rfl⟩) hrv K
set_option maxRecDepth 20000 in
theorem lk_X7_50 : Cond.fieldLink RX7 50 (TX7 18).1 (TX7 18).2.1 (TX7 18).2.2.1 ∈ gl_T := (gl_T_in (by decide +kernel) (by decide +kernel))
theorem gf_X7_50 {M : gl_M} {x : gl_X} {Z : State → Prop} {pc : Nat} {ls : List (Option Value)} {st : List Value} {S : gl_H} {k : Nat × Nat} {pl : Nat} {fs : List Value} {v : Value} (hM : M.2.1 = RX7) (hd : decode M.1 pc = .ok (.getfield 50, 3)) (hS : S pl = some (.inr (7, fs))) (hv : fs[18]? = some v) (K : GG M x Z (pc + 3) ls (v :: st) S k) : GG M x Z pc ls (.ref pl :: st) S k := gg_get 18 hd igX7 rfl (by decide) (by rw [hM]; exact lk_X7_50) rfl hS hv K
theorem pf_X7_50 {M : gl_M} {x : gl_X} {Z : State → Prop} {pc : Nat} {ls : List (Option Value)} {st : List Value} {S : gl_H} {k : Nat × Nat} {pl : Nat} {fs : List Value} {rv : Nat} (hM : M.2.1 = RX7) (hi : M.2.2.2.2.1 = true) (hd : decode M.1 pc = .ok (.putfield 50, 3)) (hS : S pl = some (.inr (7, fs))) (hl : 18 < fs.length) (hrv : S rv ≠ none) (K : GG M x Z (pc + 3) ls st (gl_pu S pl (.inr (7, fs.set 18 (.ref rv)))) k) : GG M x Z pc ls (.ref rv :: .ref pl :: st) S k := gg_putF (ty0 := tyX7) (ty := tyX7 18) 18 hd igX7 tyX7_ok nmX7 rfl (by decide) (by rw [hM]; exact lk_X7_50) rfl rfl hi (by rw [hM]; rfl) (by decide +kernel) hS hl (fun a => ⟨rfl, rfl⟩) hrv K
set_option maxRecDepth 20000 in
theorem lk_X7_54 : Cond.fieldLink RX7 54 (TX7 19).1 (TX7 19).2.1 (TX7 19).2.2.1 ∈ gl_T := (gl_T_in (by decide +kernel) (by decide +kernel))
theorem gf_X7_54 {M : gl_M} {x : gl_X} {Z : State → Prop} {pc : Nat} {ls : List (Option Value)} {st : List Value} {S : gl_H} {k : Nat × Nat} {pl : Nat} {fs : List Value} {v : Value} (hM : M.2.1 = RX7) (hd : decode M.1 pc = .ok (.getfield 54, 3)) (hS : S pl = some (.inr (7, fs))) (hv : fs[19]? = some v) (K : GG M x Z (pc + 3) ls (v :: st) S k) : GG M x Z pc ls (.ref pl :: st) S k := gg_get 19 hd igX7 rfl (by decide) (by rw [hM]; exact lk_X7_54) rfl hS hv K
theorem pf_X7_54 {M : gl_M} {x : gl_X} {Z : State → Prop} {pc : Nat} {ls : List (Option Value)} {st : List Value} {S : gl_H} {k : Nat × Nat} {pl : Nat} {fs : List Value} {rv : Nat} (hM : M.2.1 = RX7) (hi : M.2.2.2.2.1 = true) (hd : decode M.1 pc = .ok (.putfield 54, 3)) (hS : S pl = some (.inr (7, fs))) (hl : 19 < fs.length) (hrv : S rv ≠ none) (K : GG M x Z (pc + 3) ls st (gl_pu S pl (.inr (7, fs.set 19 (.ref rv)))) k) : GG M x Z pc ls (.ref rv :: .ref pl :: st) S k := gg_putF (ty0 := tyX7) (ty := tyX7 19) 19 hd igX7 tyX7_ok nmX7 rfl (by decide) (by rw [hM]; exact lk_X7_54) rfl rfl hi (by rw [hM]; rfl) (by decide +kernel) hS hl (fun a => ⟨rfl, rfl⟩) hrv K
set_option maxRecDepth 20000 in
theorem lk_X7_57 : Cond.fieldLink RX7 57 (TX7 20).1 (TX7 20).2.1 (TX7 20).2.2.1 ∈ gl_T := (gl_T_in (by decide +kernel) (by decide +kernel))
theorem gf_X7_57 {M : gl_M} {x : gl_X} {Z : State → Prop} {pc : Nat} {ls : List (Option Value)} {st : List Value} {S : gl_H} {k : Nat × Nat} {pl : Nat} {fs : List Value} {v : Value} (hM : M.2.1 = RX7) (hd : decode M.1 pc = .ok (.getfield 57, 3)) (hS : S pl = some (.inr (7, fs))) (hv : fs[20]? = some v) (K : GG M x Z (pc + 3) ls (v :: st) S k) : GG M x Z pc ls (.ref pl :: st) S k := gg_get 20 hd igX7 rfl (by decide) (by rw [hM]; exact lk_X7_57) rfl hS hv K
theorem pf_X7_57 {M : gl_M} {x : gl_X} {Z : State → Prop} {pc : Nat} {ls : List (Option Value)} {st : List Value} {S : gl_H} {k : Nat × Nat} {pl : Nat} {fs : List Value} {rv : Nat} (hM : M.2.1 = RX7) (hi : M.2.2.2.2.1 = true) (hd : decode M.1 pc = .ok (.putfield 57, 3)) (hS : S pl = some (.inr (7, fs))) (hl : 20 < fs.length) (hrv : S rv ≠ none) (K : GG M x Z (pc + 3) ls st (gl_pu S pl (.inr (7, fs.set 20 (.ref rv)))) k) : GG M x Z pc ls (.ref rv :: .ref pl :: st) S k := gg_putF (ty0 := tyX7) (ty := tyX7 20) 20 hd igX7 tyX7_ok nmX7 rfl (by decide) (by rw [hM]; exact lk_X7_57) rfl rfl hi (by rw [hM]; rfl) (by decide +kernel) hS hl (fun a => ⟨rfl, rfl⟩) hrv K
set_option maxRecDepth 20000 in
theorem lk_X7_60 : Cond.fieldLink RX7 60 (TX7 21).1 (TX7 21).2.1 (TX7 21).2.2.1 ∈ gl_T := (gl_T_in (by decide +kernel) (by decide +kernel))
theorem gf_X7_60 {M : gl_M} {x : gl_X} {Z : State → Prop} {pc : Nat} {ls : List (Option Value)} {st : List Value} {S : gl_H} {k : Nat × Nat} {pl : Nat} {fs : List Value} {v : Value} (hM : M.2.1 = RX7) (hd : decode M.1 pc = .ok (.getfield 60, 3)) (hS : S pl = some (.inr (7, fs))) (hv : fs[21]? = some v) (K : GG M x Z (pc + 3) ls (v :: st) S k) : GG M x Z pc ls (.ref pl :: st) S k := gg_get 21 hd igX7 rfl (by decide) (by rw [hM]; exact lk_X7_60) rfl hS hv K
theorem pf_X7_60 {M : gl_M} {x : gl_X} {Z : State → Prop} {pc : Nat} {ls : List (Option Value)} {st : List Value} {S : gl_H} {k : Nat × Nat} {pl : Nat} {fs : List Value} {rv : Nat} (hM : M.2.1 = RX7) (hi : M.2.2.2.2.1 = true) (hd : decode M.1 pc = .ok (.putfield 60, 3)) (hS : S pl = some (.inr (7, fs))) (hl : 21 < fs.length) (hrv : S rv ≠ none) (K : GG M x Z (pc + 3) ls st (gl_pu S pl (.inr (7, fs.set 21 (.ref rv)))) k) : GG M x Z pc ls (.ref rv :: .ref pl :: st) S k := gg_putF (ty0 := tyX7) (ty := tyX7 21) 21 hd igX7 tyX7_ok nmX7 rfl (by decide) (by rw [hM]; exact lk_X7_60) rfl rfl hi (by rw [hM]; rfl) (by decide +kernel) hS hl (fun a => ⟨rfl, rfl⟩) hrv K
set_option maxRecDepth 20000 in
theorem lk_X7_63 : Cond.fieldLink RX7 63 (TX7 22).1 (TX7 22).2.1 (TX7 22).2.2.1 ∈ gl_T := (gl_T_in (by decide +kernel) (by decide +kernel))
theorem gf_X7_63 {M : gl_M} {x : gl_X} {Z : State → Prop} {pc : Nat} {ls : List (Option Value)} {st : List Value} {S : gl_H} {k : Nat × Nat} {pl : Nat} {fs : List Value} {v : Value} (hM : M.2.1 = RX7) (hd : decode M.1 pc = .ok (.getfield 63, 3)) (hS : S pl = some (.inr (7, fs))) (hv : fs[22]? = some v) (K : GG M x Z (pc + 3) ls (v :: st) S k) : GG M x Z pc ls (.ref pl :: st) S k := gg_get 22 hd igX7 rfl (by decide) (by rw [hM]; exact lk_X7_63) rfl hS hv K
theorem pf_X7_63 {M : gl_M} {x : gl_X} {Z : State → Prop} {pc : Nat} {ls : List (Option Value)} {st : List Value} {S : gl_H} {k : Nat × Nat} {pl : Nat} {fs : List Value} {rv : Nat} (hM : M.2.1 = RX7) (hi : M.2.2.2.2.1 = true) (hd : decode M.1 pc = .ok (.putfield 63, 3)) (hS : S pl = some (.inr (7, fs))) (hl : 22 < fs.length) (hrv : S rv ≠ none) (K : GG M x Z (pc + 3) ls st (gl_pu S pl (.inr (7, fs.set 22 (.ref rv)))) k) : GG M x Z pc ls (.ref rv :: .ref pl :: st) S k := gg_putF (ty0 := tyX7) (ty := tyX7 22) 22 hd igX7 tyX7_ok nmX7 rfl (by decide) (by rw [hM]; exact lk_X7_63) rfl rfl hi (by rw [hM]; rfl) (by decide +kernel) hS hl (fun a => ⟨rfl, rfl⟩) hrv K
set_option maxRecDepth 20000 in
theorem lk_X7_66 : Cond.fieldLink RX7 66 (TX7 23).1 (TX7 23).2.1 (TX7 23).2.2.1 ∈ gl_T := (gl_T_in (by decide +kernel) (by decide +kernel))
theorem gf_X7_66 {M : gl_M} {x : gl_X} {Z : State → Prop} {pc : Nat} {ls : List (Option Value)} {st : List Value} {S : gl_H} {k : Nat × Nat} {pl : Nat} {fs : List Value} {v : Value} (hM : M.2.1 = RX7) (hd : decode M.1 pc = .ok (.getfield 66, 3)) (hS : S pl = some (.inr (7, fs))) (hv : fs[23]? = some v) (K : GG M x Z (pc + 3) ls (v :: st) S k) : GG M x Z pc ls (.ref pl :: st) S k := gg_get 23 hd igX7 rfl (by decide) (by rw [hM]; exact lk_X7_66) rfl hS hv K
theorem pf_X7_66 {M : gl_M} {x : gl_X} {Z : State → Prop} {pc : Nat} {ls : List (Option Value)} {st : List Value} {S : gl_H} {k : Nat × Nat} {pl : Nat} {fs : List Value} {rv : Nat} (hM : M.2.1 = RX7) (hi : M.2.2.2.2.1 = true) (hd : decode M.1 pc = .ok (.putfield 66, 3)) (hS : S pl = some (.inr (7, fs))) (hl : 23 < fs.length) (hrv : S rv ≠ none) (K : GG M x Z (pc + 3) ls st (gl_pu S pl (.inr (7, fs.set 23 (.ref rv)))) k) : GG M x Z pc ls (.ref rv :: .ref pl :: st) S k := gg_putF (ty0 := tyX7) (ty := tyX7 23) 23 hd igX7 tyX7_ok nmX7 rfl (by decide) (by rw [hM]; exact lk_X7_66) rfl rfl hi (by rw [hM]; rfl) (by decide +kernel) hS hl (fun a => ⟨rfl, rfl⟩) hrv K
set_option maxRecDepth 20000 in
theorem lk_X7_69 : Cond.fieldLink RX7 69 (TX7 24).1 (TX7 24).2.1 (TX7 24).2.2.1 ∈ gl_T := (gl_T_in (by decide +kernel) (by decide +kernel))
theorem gf_X7_69 {M : gl_M} {x : gl_X} {Z : State → Prop} {pc : Nat} {ls : List (Option Value)} {st : List Value} {S : gl_H} {k : Nat × Nat} {pl : Nat} {fs : List Value} {v : Value} (hM : M.2.1 = RX7) (hd : decode M.1 pc = .ok (.getfield 69, 3)) (hS : S pl = some (.inr (7, fs))) (hv : fs[24]? = some v) (K : GG M x Z (pc + 3) ls (v :: st) S k) : GG M x Z pc ls (.ref pl :: st) S k := gg_get 24 hd igX7 rfl (by decide) (by rw [hM]; exact lk_X7_69) rfl hS hv K
theorem pf_X7_69 {M : gl_M} {x : gl_X} {Z : State → Prop} {pc : Nat} {ls : List (Option Value)} {st : List Value} {S : gl_H} {k : Nat × Nat} {pl : Nat} {fs : List Value} {rv : Nat} (hM : M.2.1 = RX7) (hi : M.2.2.2.2.1 = true) (hd : decode M.1 pc = .ok (.putfield 69, 3)) (hS : S pl = some (.inr (7, fs))) (hl : 24 < fs.length) (hrv : S rv ≠ none) (K : GG M x Z (pc + 3) ls st (gl_pu S pl (.inr (7, fs.set 24 (.ref rv)))) k) : GG M x Z pc ls (.ref rv :: .ref pl :: st) S k := gg_putF (ty0 := tyX7) (ty := tyX7 24) 24 hd igX7 tyX7_ok nmX7 rfl (by decide) (by rw [hM]; exact lk_X7_69) rfl rfl hi (by rw [hM]; rfl) (by decide +kernel) hS hl (fun a => ⟨rfl, rfl⟩) hrv K
set_option maxRecDepth 20000 in
theorem lk_X7_72 : Cond.fieldLink RX7 72 (TX7 25).1 (TX7 25).2.1 (TX7 25).2.2.1 ∈ gl_T := (gl_T_in (by decide +kernel) (by decide +kernel))
theorem gf_X7_72 {M : gl_M} {x : gl_X} {Z : State → Prop} {pc : Nat} {ls : List (Option Value)} {st : List Value} {S : gl_H} {k : Nat × Nat} {pl : Nat} {fs : List Value} {v : Value} (hM : M.2.1 = RX7) (hd : decode M.1 pc = .ok (.getfield 72, 3)) (hS : S pl = some (.inr (7, fs))) (hv : fs[25]? = some v) (K : GG M x Z (pc + 3) ls (v :: st) S k) : GG M x Z pc ls (.ref pl :: st) S k := gg_get 25 hd igX7 rfl (by decide) (by rw [hM]; exact lk_X7_72) rfl hS hv K
theorem pf_X7_72 {M : gl_M} {x : gl_X} {Z : State → Prop} {pc : Nat} {ls : List (Option Value)} {st : List Value} {S : gl_H} {k : Nat × Nat} {pl : Nat} {fs : List Value} {rv : Nat} (hM : M.2.1 = RX7) (hi : M.2.2.2.2.1 = true) (hd : decode M.1 pc = .ok (.putfield 72, 3)) (hS : S pl = some (.inr (7, fs))) (hl : 25 < fs.length) (hrv : S rv ≠ none) (K : GG M x Z (pc + 3) ls st (gl_pu S pl (.inr (7, fs.set 25 (.ref rv)))) k) : GG M x Z pc ls (.ref rv :: .ref pl :: st) S k := gg_putF (ty0 := tyX7) (ty := tyX7 25) 25 hd igX7 tyX7_ok nmX7 rfl (by decide) (by rw [hM]; exact lk_X7_72) rfl rfl hi (by rw [hM]; rfl) (by decide +kernel) hS hl (fun a => ⟨rfl, rfl⟩) hrv K
set_option maxRecDepth 20000 in
theorem lk_X7_75 : Cond.fieldLink RX7 75 (TX7 26).1 (TX7 26).2.1 (TX7 26).2.2.1 ∈ gl_T := (gl_T_in (by decide +kernel) (by decide +kernel))
theorem gf_X7_75 {M : gl_M} {x : gl_X} {Z : State → Prop} {pc : Nat} {ls : List (Option Value)} {st : List Value} {S : gl_H} {k : Nat × Nat} {pl : Nat} {fs : List Value} {v : Value} (hM : M.2.1 = RX7) (hd : decode M.1 pc = .ok (.getfield 75, 3)) (hS : S pl = some (.inr (7, fs))) (hv : fs[26]? = some v) (K : GG M x Z (pc + 3) ls (v :: st) S k) : GG M x Z pc ls (.ref pl :: st) S k := gg_get 26 hd igX7 rfl (by decide) (by rw [hM]; exact lk_X7_75) rfl hS hv K
theorem pf_X7_75 {M : gl_M} {x : gl_X} {Z : State → Prop} {pc : Nat} {ls : List (Option Value)} {st : List Value} {S : gl_H} {k : Nat × Nat} {pl : Nat} {fs : List Value} {rv : Nat} (hM : M.2.1 = RX7) (hi : M.2.2.2.2.1 = true) (hd : decode M.1 pc = .ok (.putfield 75, 3)) (hS : S pl = some (.inr (7, fs))) (hl : 26 < fs.length) (hrv : S rv ≠ none) (K : GG M x Z (pc + 3) ls st (gl_pu S pl (.inr (7, fs.set 26 (.ref rv)))) k) : GG M x Z pc ls (.ref rv :: .ref pl :: st) S k := gg_putF (ty0 := tyX7) (ty := tyX7 26) 26 hd igX7 tyX7_ok nmX7 rfl (by decide) (by rw [hM]; exact lk_X7_75) rfl rfl hi (by rw [hM]; rfl) (by decide +kernel) hS hl (fun a => ⟨rfl, rfl⟩) hrv K
set_option maxRecDepth 20000 in
theorem lk_X7_79 : Cond.fieldLink RX7 79 (TX7 28).1 (TX7 28).2.1 (TX7 28).2.2.1 ∈ gl_T := (gl_T_in (by decide +kernel) (by decide +kernel))
theorem gf_X7_79 {M : gl_M} {x : gl_X} {Z : State → Prop} {pc : Nat} {ls : List (Option Value)} {st : List Value} {S : gl_H} {k : Nat × Nat} {pl : Nat} {fs : List Value} {v : Value} (hM : M.2.1 = RX7) (hd : decode M.1 pc = .ok (.getfield 79, 3)) (hS : S pl = some (.inr (7, fs))) (hv : fs[28]? = some v) (K : GG M x Z (pc + 3) ls (v :: st) S k) : GG M x Z pc ls (.ref pl :: st) S k := gg_get 28 hd igX7 rfl (by decide) (by rw [hM]; exact lk_X7_79) rfl hS hv K
theorem pf_X7_79 {M : gl_M} {x : gl_X} {Z : State → Prop} {pc : Nat} {ls : List (Option Value)} {st : List Value} {S : gl_H} {k : Nat × Nat} {pl : Nat} {fs : List Value} {rv : Nat} (hM : M.2.1 = RX7) (hi : M.2.2.2.2.1 = true) (hd : decode M.1 pc = .ok (.putfield 79, 3)) (hS : S pl = some (.inr (7, fs))) (hl : 28 < fs.length) (hrv : S rv ≠ none) (K : GG M x Z (pc + 3) ls st (gl_pu S pl (.inr (7, fs.set 28 (.ref rv)))) k) : GG M x Z pc ls (.ref rv :: .ref pl :: st) S k := gg_putF (ty0 := tyX7) (ty := tyX7 28) 28 hd igX7 tyX7_ok nmX7 rfl (by decide) (by rw [hM]; exact lk_X7_79) rfl rfl hi (by rw [hM]; rfl) (by decide +kernel) hS hl (fun a => ⟨rfl, rfl⟩) hrv K
set_option maxRecDepth 20000 in
theorem lk_X7_82 : Cond.fieldLink RX7 82 (TX7 29).1 (TX7 29).2.1 (TX7 29).2.2.1 ∈ gl_T := (gl_T_in (by decide +kernel) (by decide +kernel))
theorem gf_X7_82 {M : gl_M} {x : gl_X} {Z : State → Prop} {pc : Nat} {ls : List (Option Value)} {st : List Value} {S : gl_H} {k : Nat × Nat} {pl : Nat} {fs : List Value} {v : Value} (hM : M.2.1 = RX7) (hd : decode M.1 pc = .ok (.getfield 82, 3)) (hS : S pl = some (.inr (7, fs))) (hv : fs[29]? = some v) (K : GG M x Z (pc + 3) ls (v :: st) S k) : GG M x Z pc ls (.ref pl :: st) S k := gg_get 29 hd igX7 rfl (by decide) (by rw [hM]; exact lk_X7_82) rfl hS hv K
theorem pf_X7_82 {M : gl_M} {x : gl_X} {Z : State → Prop} {pc : Nat} {ls : List (Option Value)} {st : List Value} {S : gl_H} {k : Nat × Nat} {pl : Nat} {fs : List Value} {rv : Nat} (hM : M.2.1 = RX7) (hi : M.2.2.2.2.1 = true) (hd : decode M.1 pc = .ok (.putfield 82, 3)) (hS : S pl = some (.inr (7, fs))) (hl : 29 < fs.length) (hrv : S rv ≠ none) (K : GG M x Z (pc + 3) ls st (gl_pu S pl (.inr (7, fs.set 29 (.ref rv)))) k) : GG M x Z pc ls (.ref rv :: .ref pl :: st) S k := gg_putF (ty0 := tyX7) (ty := tyX7 29) 29 hd igX7 tyX7_ok nmX7 rfl (by decide) (by rw [hM]; exact lk_X7_82) rfl rfl hi (by rw [hM]; rfl) (by decide +kernel) hS hl (fun a => ⟨rfl, rfl⟩) hrv K
set_option maxRecDepth 20000 in
theorem lk_X7_89 : Cond.fieldLink RX7 89 (TX7 1).1 (TX7 1).2.1 (TX7 1).2.2.1 ∈ gl_T := (gl_T_in (by decide +kernel) (by decide +kernel))
theorem gf_X7_89 {M : gl_M} {x : gl_X} {Z : State → Prop} {pc : Nat} {ls : List (Option Value)} {st : List Value} {S : gl_H} {k : Nat × Nat} {pl : Nat} {fs : List Value} {v : Value} (hM : M.2.1 = RX7) (hd : decode M.1 pc = .ok (.getfield 89, 3)) (hS : S pl = some (.inr (7, fs))) (hv : fs[1]? = some v) (K : GG M x Z (pc + 3) ls (v :: st) S k) : GG M x Z pc ls (.ref pl :: st) S k := gg_get 1 hd igX7 rfl (by decide) (by rw [hM]; exact lk_X7_89) rfl hS hv K
theorem pf_X7_89 {M : gl_M} {x : gl_X} {Z : State → Prop} {pc : Nat} {ls : List (Option Value)} {st : List Value} {S : gl_H} {k : Nat × Nat} {pl : Nat} {fs : List Value} {a : Int32} (hM : M.2.1 = RX7) (hd : decode M.1 pc = .ok (.putfield 89, 3)) (hS : S pl = some (.inr (7, fs))) (hl : 1 < fs.length) (K : GG M x Z (pc + 3) ls st (gl_pu S pl (.inr (7, fs.set 1 (.int a)))) k) : GG M x Z pc ls (.int a :: .ref pl :: st) S k := gg_put (ty0 := tyX7) (ty := .int) 1 hd igX7 tyX7_ok nmX7 rfl (by decide) (by rw [hM]; exact lk_X7_89) rfl rfl (by decide +kernel) hS hl rfl rfl (fun r e => by cases e) K
set_option maxRecDepth 20000 in
theorem lk_X7_116 : Cond.fieldLink RX7 116 (TX7 27).1 (TX7 27).2.1 (TX7 27).2.2.1 ∈ gl_T := (gl_T_in (by decide +kernel) (by decide +kernel))
theorem gf_X7_116 {M : gl_M} {x : gl_X} {Z : State → Prop} {pc : Nat} {ls : List (Option Value)} {st : List Value} {S : gl_H} {k : Nat × Nat} {pl : Nat} {fs : List Value} {v : Value} (hM : M.2.1 = RX7) (hd : decode M.1 pc = .ok (.getfield 116, 3)) (hS : S pl = some (.inr (7, fs))) (hv : fs[27]? = some v) (K : GG M x Z (pc + 3) ls (v :: st) S k) : GG M x Z pc ls (.ref pl :: st) S k := gg_get 27 hd igX7 rfl (by decide) (by rw [hM]; exact lk_X7_116) rfl hS hv K
theorem pf_X7_116 {M : gl_M} {x : gl_X} {Z : State → Prop} {pc : Nat} {ls : List (Option Value)} {st : List Value} {S : gl_H} {k : Nat × Nat} {pl : Nat} {fs : List Value} {a : Int32} (hM : M.2.1 = RX7) (hd : decode M.1 pc = .ok (.putfield 116, 3)) (hS : S pl = some (.inr (7, fs))) (hl : 27 < fs.length) (hn : narrow .boolean (.int a) = .int a) (hf : fits .boolean (.int a) = true) (K : GG M x Z (pc + 3) ls st (gl_pu S pl (.inr (7, fs.set 27 (.int a)))) k) : GG M x Z pc ls (.int a :: .ref pl :: st) S k := gg_put (ty0 := tyX7) (ty := .boolean) 27 hd igX7 tyX7_ok nmX7 rfl (by decide) (by rw [hM]; exact lk_X7_116) rfl rfl (by decide +kernel) hS hl hn hf (fun r e => by cases e) K
set_option maxRecDepth 20000 in
theorem lk_X7_120 : Cond.fieldLink RX7 120 (TX7 3).1 (TX7 3).2.1 (TX7 3).2.2.1 ∈ gl_T := (gl_T_in (by decide +kernel) (by decide +kernel))
theorem gf_X7_120 {M : gl_M} {x : gl_X} {Z : State → Prop} {pc : Nat} {ls : List (Option Value)} {st : List Value} {S : gl_H} {k : Nat × Nat} {pl : Nat} {fs : List Value} {v : Value} (hM : M.2.1 = RX7) (hd : decode M.1 pc = .ok (.getfield 120, 3)) (hS : S pl = some (.inr (7, fs))) (hv : fs[3]? = some v) (K : GG M x Z (pc + 3) ls (v :: st) S k) : GG M x Z pc ls (.ref pl :: st) S k := gg_get 3 hd igX7 rfl (by decide) (by rw [hM]; exact lk_X7_120) rfl hS hv K
theorem pf_X7_120 {M : gl_M} {x : gl_X} {Z : State → Prop} {pc : Nat} {ls : List (Option Value)} {st : List Value} {S : gl_H} {k : Nat × Nat} {pl : Nat} {fs : List Value} {a : Int32} (hM : M.2.1 = RX7) (hd : decode M.1 pc = .ok (.putfield 120, 3)) (hS : S pl = some (.inr (7, fs))) (hl : 3 < fs.length) (K : GG M x Z (pc + 3) ls st (gl_pu S pl (.inr (7, fs.set 3 (.int a)))) k) : GG M x Z pc ls (.int a :: .ref pl :: st) S k := gg_put (ty0 := tyX7) (ty := .int) 3 hd igX7 tyX7_ok nmX7 rfl (by decide) (by rw [hM]; exact lk_X7_120) rfl rfl (by decide +kernel) hS hl rfl rfl (fun r e => by cases e) K
set_option maxRecDepth 20000 in
theorem lk_X7_123 : Cond.fieldLink RX7 123 (TX7 4).1 (TX7 4).2.1 (TX7 4).2.2.1 ∈ gl_T := (gl_T_in (by decide +kernel) (by decide +kernel))
theorem gf_X7_123 {M : gl_M} {x : gl_X} {Z : State → Prop} {pc : Nat} {ls : List (Option Value)} {st : List Value} {S : gl_H} {k : Nat × Nat} {pl : Nat} {fs : List Value} {v : Value} (hM : M.2.1 = RX7) (hd : decode M.1 pc = .ok (.getfield 123, 3)) (hS : S pl = some (.inr (7, fs))) (hv : fs[4]? = some v) (K : GG M x Z (pc + 3) ls (v :: st) S k) : GG M x Z pc ls (.ref pl :: st) S k := gg_get 4 hd igX7 rfl (by decide) (by rw [hM]; exact lk_X7_123) rfl hS hv K
theorem pf_X7_123 {M : gl_M} {x : gl_X} {Z : State → Prop} {pc : Nat} {ls : List (Option Value)} {st : List Value} {S : gl_H} {k : Nat × Nat} {pl : Nat} {fs : List Value} {a : Int32} (hM : M.2.1 = RX7) (hd : decode M.1 pc = .ok (.putfield 123, 3)) (hS : S pl = some (.inr (7, fs))) (hl : 4 < fs.length) (K : GG M x Z (pc + 3) ls st (gl_pu S pl (.inr (7, fs.set 4 (.int a)))) k) : GG M x Z pc ls (.int a :: .ref pl :: st) S k := gg_put (ty0 := tyX7) (ty := .int) 4 hd igX7 tyX7_ok nmX7 rfl (by decide) (by rw [hM]; exact lk_X7_123) rfl rfl (by decide +kernel) hS hl rfl rfl (fun r e => by cases e) K
set_option maxRecDepth 20000 in
theorem lk_X7_133 : Cond.fieldLink RX7 133 (TX7 2).1 (TX7 2).2.1 (TX7 2).2.2.1 ∈ gl_T := (gl_T_in (by decide +kernel) (by decide +kernel))
theorem gf_X7_133 {M : gl_M} {x : gl_X} {Z : State → Prop} {pc : Nat} {ls : List (Option Value)} {st : List Value} {S : gl_H} {k : Nat × Nat} {pl : Nat} {fs : List Value} {v : Value} (hM : M.2.1 = RX7) (hd : decode M.1 pc = .ok (.getfield 133, 3)) (hS : S pl = some (.inr (7, fs))) (hv : fs[2]? = some v) (K : GG M x Z (pc + 3) ls (v :: st) S k) : GG M x Z pc ls (.ref pl :: st) S k := gg_get 2 hd igX7 rfl (by decide) (by rw [hM]; exact lk_X7_133) rfl hS hv K
theorem pf_X7_133 {M : gl_M} {x : gl_X} {Z : State → Prop} {pc : Nat} {ls : List (Option Value)} {st : List Value} {S : gl_H} {k : Nat × Nat} {pl : Nat} {fs : List Value} {a : Int32} (hM : M.2.1 = RX7) (hd : decode M.1 pc = .ok (.putfield 133, 3)) (hS : S pl = some (.inr (7, fs))) (hl : 2 < fs.length) (K : GG M x Z (pc + 3) ls st (gl_pu S pl (.inr (7, fs.set 2 (.int a)))) k) : GG M x Z pc ls (.int a :: .ref pl :: st) S k := gg_put (ty0 := tyX7) (ty := .int) 2 hd igX7 tyX7_ok nmX7 rfl (by decide) (by rw [hM]; exact lk_X7_133) rfl rfl (by decide +kernel) hS hl rfl rfl (fun r e => by cases e) K
set_option maxRecDepth 20000 in
theorem lk_X7_156 : Cond.fieldLink RX7 156 (TX7 30).1 (TX7 30).2.1 (TX7 30).2.2.1 ∈ gl_T := (gl_T_in (by decide +kernel) (by decide +kernel))
theorem gf_X7_156 {M : gl_M} {x : gl_X} {Z : State → Prop} {pc : Nat} {ls : List (Option Value)} {st : List Value} {S : gl_H} {k : Nat × Nat} {pl : Nat} {fs : List Value} {v : Value} (hM : M.2.1 = RX7) (hd : decode M.1 pc = .ok (.getfield 156, 3)) (hS : S pl = some (.inr (7, fs))) (hv : fs[30]? = some v) (K : GG M x Z (pc + 3) ls (v :: st) S k) : GG M x Z pc ls (.ref pl :: st) S k := gg_get 30 hd igX7 rfl (by decide) (by rw [hM]; exact lk_X7_156) rfl hS hv K
theorem pf_X7_156 {M : gl_M} {x : gl_X} {Z : State → Prop} {pc : Nat} {ls : List (Option Value)} {st : List Value} {S : gl_H} {k : Nat × Nat} {pl : Nat} {fs : List Value} {a : Int32} (hM : M.2.1 = RX7) (hd : decode M.1 pc = .ok (.putfield 156, 3)) (hS : S pl = some (.inr (7, fs))) (hl : 30 < fs.length) (K : GG M x Z (pc + 3) ls st (gl_pu S pl (.inr (7, fs.set 30 (.int a)))) k) : GG M x Z pc ls (.int a :: .ref pl :: st) S k := gg_put (ty0 := tyX7) (ty := .int) 30 hd igX7 tyX7_ok nmX7 rfl (by decide) (by rw [hM]; exact lk_X7_156) rfl rfl (by decide +kernel) hS hl rfl rfl (fun r e => by cases e) K
set_option maxRecDepth 20000 in
theorem lk_X7_159 : Cond.fieldLink RX7 159 (TX7 31).1 (TX7 31).2.1 (TX7 31).2.2.1 ∈ gl_T := (gl_T_in (by decide +kernel) (by decide +kernel))
theorem gf_X7_159 {M : gl_M} {x : gl_X} {Z : State → Prop} {pc : Nat} {ls : List (Option Value)} {st : List Value} {S : gl_H} {k : Nat × Nat} {pl : Nat} {fs : List Value} {v : Value} (hM : M.2.1 = RX7) (hd : decode M.1 pc = .ok (.getfield 159, 3)) (hS : S pl = some (.inr (7, fs))) (hv : fs[31]? = some v) (K : GG M x Z (pc + 3) ls (v :: st) S k) : GG M x Z pc ls (.ref pl :: st) S k := gg_get 31 hd igX7 rfl (by decide) (by rw [hM]; exact lk_X7_159) rfl hS hv K
theorem pf_X7_159 {M : gl_M} {x : gl_X} {Z : State → Prop} {pc : Nat} {ls : List (Option Value)} {st : List Value} {S : gl_H} {k : Nat × Nat} {pl : Nat} {fs : List Value} {a : Int32} (hM : M.2.1 = RX7) (hd : decode M.1 pc = .ok (.putfield 159, 3)) (hS : S pl = some (.inr (7, fs))) (hl : 31 < fs.length) (K : GG M x Z (pc + 3) ls st (gl_pu S pl (.inr (7, fs.set 31 (.int a)))) k) : GG M x Z pc ls (.int a :: .ref pl :: st) S k := gg_put (ty0 := tyX7) (ty := .int) 31 hd igX7 tyX7_ok nmX7 rfl (by decide) (by rw [hM]; exact lk_X7_159) rfl rfl (by decide +kernel) hS hl rfl rfl (fun r e => by cases e) K
set_option maxRecDepth 20000 in
theorem lk_X7_168 : Cond.fieldLink RX7 168 (TX7 5).1 (TX7 5).2.1 (TX7 5).2.2.1 ∈ gl_T := (gl_T_in (by decide +kernel) (by decide +kernel))
theorem gf_X7_168 {M : gl_M} {x : gl_X} {Z : State → Prop} {pc : Nat} {ls : List (Option Value)} {st : List Value} {S : gl_H} {k : Nat × Nat} {pl : Nat} {fs : List Value} {v : Value} (hM : M.2.1 = RX7) (hd : decode M.1 pc = .ok (.getfield 168, 3)) (hS : S pl = some (.inr (7, fs))) (hv : fs[5]? = some v) (K : GG M x Z (pc + 3) ls (v :: st) S k) : GG M x Z pc ls (.ref pl :: st) S k := gg_get 5 hd igX7 rfl (by decide) (by rw [hM]; exact lk_X7_168) rfl hS hv K
theorem pf_X7_168 {M : gl_M} {x : gl_X} {Z : State → Prop} {pc : Nat} {ls : List (Option Value)} {st : List Value} {S : gl_H} {k : Nat × Nat} {pl : Nat} {fs : List Value} {a : Int32} (hM : M.2.1 = RX7) (hd : decode M.1 pc = .ok (.putfield 168, 3)) (hS : S pl = some (.inr (7, fs))) (hl : 5 < fs.length) (K : GG M x Z (pc + 3) ls st (gl_pu S pl (.inr (7, fs.set 5 (.int a)))) k) : GG M x Z pc ls (.int a :: .ref pl :: st) S k := gg_put (ty0 := tyX7) (ty := .int) 5 hd igX7 tyX7_ok nmX7 rfl (by decide) (by rw [hM]; exact lk_X7_168) rfl rfl (by decide +kernel) hS hl rfl rfl (fun r e => by cases e) K
set_option maxRecDepth 20000 in
theorem kc_X6_init : Cond.code yX6_init cX6_init 1 none ∈ gl_T := (gl_T_in (by decide +kernel) (by decide +kernel))
theorem kl_X6_init : gl_Lk yX6_init 0 := ⟨by decide +kernel, by decide +kernel, by decide +kernel⟩
set_option maxRecDepth 20000 in
theorem ki_X6_init : Cond.initialized yX6_init.cls ∈ gl_T := (gl_T_in (by decide +kernel) (by decide +kernel))
set_option maxRecDepth 20000 in
theorem kn_X6_init : Cond.instanceMethod yX6_init ∈ gl_T := (gl_T_in (by decide +kernel) (by decide +kernel))
set_option maxRecDepth 20000 in
theorem kw_L_9 : Cond.methodLink RL 9 yX6_init ∈ gl_T ∧ Cond.instanceMethod yX6_init ∈ gl_T ∧ Cond.initialized yX6_init.cls ∈ gl_T ∧ Cond.code yX6_init cX6_init 1 none ∈ gl_T ∧ gl_Lk yX6_init 0 := ⟨(gl_T_in (by decide +kernel) (by decide +kernel)), kn_X6_init, ki_X6_init, kc_X6_init, kl_X6_init⟩
set_option maxRecDepth 20000 in
theorem kc_X7_init : Cond.code yX7_init cX7_init 1 none ∈ gl_T := (gl_T_in (by decide +kernel) (by decide +kernel))
theorem kl_X7_init : gl_Lk yX7_init 0 := ⟨by decide +kernel, by decide +kernel, by decide +kernel⟩
set_option maxRecDepth 20000 in
theorem ki_X7_init : Cond.initialized yX7_init.cls ∈ gl_T := (gl_T_in (by decide +kernel) (by decide +kernel))
set_option maxRecDepth 20000 in
theorem kn_X7_init : Cond.instanceMethod yX7_init ∈ gl_T := (gl_T_in (by decide +kernel) (by decide +kernel))
set_option maxRecDepth 20000 in
theorem kw_L_12 : Cond.methodLink RL 12 yX7_init ∈ gl_T ∧ Cond.instanceMethod yX7_init ∈ gl_T ∧ Cond.initialized yX7_init.cls ∈ gl_T ∧ Cond.code yX7_init cX7_init 1 none ∈ gl_T ∧ gl_Lk yX7_init 0 := ⟨(gl_T_in (by decide +kernel) (by decide +kernel)), kn_X7_init, ki_X7_init, kc_X7_init, kl_X7_init⟩
set_option maxRecDepth 20000 in
theorem kc_X6_feed : Cond.code yX6_feed cX6_feed 6 (some .int) ∈ gl_T := (gl_T_in (by decide +kernel) (by decide +kernel))
theorem kl_X6_feed : gl_Lk yX6_feed 5 := ⟨by decide +kernel, by decide +kernel, by decide +kernel⟩
set_option maxRecDepth 20000 in
theorem ki_X6_feed : Cond.initialized yX6_feed.cls ∈ gl_T := (gl_T_in (by decide +kernel) (by decide +kernel))
set_option maxRecDepth 20000 in
theorem kn_X6_feed : Cond.instanceMethod yX6_feed ∈ gl_T := (gl_T_in (by decide +kernel) (by decide +kernel))
set_option maxRecDepth 20000 in
theorem kv_X6_feed : Cond.selects RX6 yX6_feed yX6_feed ∈ gl_T := (gl_T_in (by decide +kernel) (by decide +kernel))
set_option maxRecDepth 20000 in
theorem kw_L_13 : Cond.methodLink RL 13 yX6_feed ∈ gl_T ∧ Cond.instanceMethod yX6_feed ∈ gl_T ∧ Cond.selects RX6 yX6_feed yX6_feed ∈ gl_T ∧ Cond.initialized yX6_feed.cls ∈ gl_T ∧ Cond.code yX6_feed cX6_feed 6 (some .int) ∈ gl_T ∧ gl_Lk yX6_feed 5 := ⟨(gl_T_in (by decide +kernel) (by decide +kernel)), kn_X6_feed, kv_X6_feed, ki_X6_feed, kc_X6_feed, kl_X6_feed⟩
set_option maxRecDepth 20000 in
theorem kc_X7_feed : Cond.code yX7_feed cX7_feed 6 (some .int) ∈ gl_T := (gl_T_in (by decide +kernel) (by decide +kernel))
theorem kl_X7_feed : gl_Lk yX7_feed 5 := ⟨by decide +kernel, by decide +kernel, by decide +kernel⟩
set_option maxRecDepth 20000 in
theorem ki_X7_feed : Cond.initialized yX7_feed.cls ∈ gl_T := (gl_T_in (by decide +kernel) (by decide +kernel))
set_option maxRecDepth 20000 in
theorem kn_X7_feed : Cond.instanceMethod yX7_feed ∈ gl_T := (gl_T_in (by decide +kernel) (by decide +kernel))
set_option maxRecDepth 20000 in
theorem kv_X7_feed : Cond.selects RX7 yX7_feed yX7_feed ∈ gl_T := (gl_T_in (by decide +kernel) (by decide +kernel))
set_option maxRecDepth 20000 in
theorem kw_L_17 : Cond.methodLink RL 17 yX7_feed ∈ gl_T ∧ Cond.instanceMethod yX7_feed ∈ gl_T ∧ Cond.selects RX7 yX7_feed yX7_feed ∈ gl_T ∧ Cond.initialized yX7_feed.cls ∈ gl_T ∧ Cond.code yX7_feed cX7_feed 6 (some .int) ∈ gl_T ∧ gl_Lk yX7_feed 5 := ⟨(gl_T_in (by decide +kernel) (by decide +kernel)), kn_X7_feed, kv_X7_feed, ki_X7_feed, kc_X7_feed, kl_X7_feed⟩
set_option maxRecDepth 20000 in
theorem kc_X6_rules : Cond.code yX6_rules cX6_rules 3 (some .int) ∈ gl_T := (gl_T_in (by decide +kernel) (by decide +kernel))
theorem kl_X6_rules : gl_Lk yX6_rules 1 := ⟨by decide +kernel, by decide +kernel, by decide +kernel⟩
set_option maxRecDepth 20000 in
theorem ki_X6_rules : Cond.initialized yX6_rules.cls ∈ gl_T := (gl_T_in (by decide +kernel) (by decide +kernel))
set_option maxRecDepth 20000 in
theorem kn_X6_rules : Cond.instanceMethod yX6_rules ∈ gl_T := (gl_T_in (by decide +kernel) (by decide +kernel))
set_option maxRecDepth 20000 in
theorem kv_X6_rules : Cond.selects RX6 yX6_rules yX6_rules ∈ gl_T := (gl_T_in (by decide +kernel) (by decide +kernel))
set_option maxRecDepth 20000 in
theorem kw_L_18 : Cond.methodLink RL 18 yX6_rules ∈ gl_T ∧ Cond.instanceMethod yX6_rules ∈ gl_T ∧ Cond.selects RX6 yX6_rules yX6_rules ∈ gl_T ∧ Cond.initialized yX6_rules.cls ∈ gl_T ∧ Cond.code yX6_rules cX6_rules 3 (some .int) ∈ gl_T ∧ gl_Lk yX6_rules 1 := ⟨(gl_T_in (by decide +kernel) (by decide +kernel)), kn_X6_rules, kv_X6_rules, ki_X6_rules, kc_X6_rules, kl_X6_rules⟩
set_option maxRecDepth 20000 in
theorem kc_X7_rules : Cond.code yX7_rules cX7_rules 4 (some .int) ∈ gl_T := (gl_T_in (by decide +kernel) (by decide +kernel))
theorem kl_X7_rules : gl_Lk yX7_rules 1 := ⟨by decide +kernel, by decide +kernel, by decide +kernel⟩
set_option maxRecDepth 20000 in
theorem ki_X7_rules : Cond.initialized yX7_rules.cls ∈ gl_T := (gl_T_in (by decide +kernel) (by decide +kernel))
set_option maxRecDepth 20000 in
theorem kn_X7_rules : Cond.instanceMethod yX7_rules ∈ gl_T := (gl_T_in (by decide +kernel) (by decide +kernel))
set_option maxRecDepth 20000 in
theorem kv_X7_rules : Cond.selects RX7 yX7_rules yX7_rules ∈ gl_T := (gl_T_in (by decide +kernel) (by decide +kernel))
set_option maxRecDepth 20000 in
theorem kw_L_22 : Cond.methodLink RL 22 yX7_rules ∈ gl_T ∧ Cond.instanceMethod yX7_rules ∈ gl_T ∧ Cond.selects RX7 yX7_rules yX7_rules ∈ gl_T ∧ Cond.initialized yX7_rules.cls ∈ gl_T ∧ Cond.code yX7_rules cX7_rules 4 (some .int) ∈ gl_T ∧ gl_Lk yX7_rules 1 := ⟨(gl_T_in (by decide +kernel) (by decide +kernel)), kn_X7_rules, kv_X7_rules, ki_X7_rules, kc_X7_rules, kl_X7_rules⟩
set_option maxRecDepth 20000 in
theorem kc_X6_teacher : Cond.code yX6_teacher cX6_teacher 4 (some .int) ∈ gl_T := (gl_T_in (by decide +kernel) (by decide +kernel))
theorem kl_X6_teacher : gl_Lk yX6_teacher 3 := ⟨by decide +kernel, by decide +kernel, by decide +kernel⟩
set_option maxRecDepth 20000 in
theorem ki_X6_teacher : Cond.initialized yX6_teacher.cls ∈ gl_T := (gl_T_in (by decide +kernel) (by decide +kernel))
set_option maxRecDepth 20000 in
theorem kn_X6_teacher : Cond.instanceMethod yX6_teacher ∈ gl_T := (gl_T_in (by decide +kernel) (by decide +kernel))
set_option maxRecDepth 20000 in
theorem kv_X6_teacher : Cond.selects RX6 yX6_teacher yX6_teacher ∈ gl_T := (gl_T_in (by decide +kernel) (by decide +kernel))
set_option maxRecDepth 20000 in
theorem kw_L_23 : Cond.methodLink RL 23 yX6_teacher ∈ gl_T ∧ Cond.instanceMethod yX6_teacher ∈ gl_T ∧ Cond.selects RX6 yX6_teacher yX6_teacher ∈ gl_T ∧ Cond.initialized yX6_teacher.cls ∈ gl_T ∧ Cond.code yX6_teacher cX6_teacher 4 (some .int) ∈ gl_T ∧ gl_Lk yX6_teacher 3 := ⟨(gl_T_in (by decide +kernel) (by decide +kernel)), kn_X6_teacher, kv_X6_teacher, ki_X6_teacher, kc_X6_teacher, kl_X6_teacher⟩
set_option maxRecDepth 20000 in
theorem kc_X7_teacher : Cond.code yX7_teacher cX7_teacher 5 (some .int) ∈ gl_T := (gl_T_in (by decide +kernel) (by decide +kernel))
theorem kl_X7_teacher : gl_Lk yX7_teacher 3 := ⟨by decide +kernel, by decide +kernel, by decide +kernel⟩
set_option maxRecDepth 20000 in
theorem ki_X7_teacher : Cond.initialized yX7_teacher.cls ∈ gl_T := (gl_T_in (by decide +kernel) (by decide +kernel))
set_option maxRecDepth 20000 in
theorem kn_X7_teacher : Cond.instanceMethod yX7_teacher ∈ gl_T := (gl_T_in (by decide +kernel) (by decide +kernel))
set_option maxRecDepth 20000 in
theorem kv_X7_teacher : Cond.selects RX7 yX7_teacher yX7_teacher ∈ gl_T := (gl_T_in (by decide +kernel) (by decide +kernel))
set_option maxRecDepth 20000 in
theorem kw_L_27 : Cond.methodLink RL 27 yX7_teacher ∈ gl_T ∧ Cond.instanceMethod yX7_teacher ∈ gl_T ∧ Cond.selects RX7 yX7_teacher yX7_teacher ∈ gl_T ∧ Cond.initialized yX7_teacher.cls ∈ gl_T ∧ Cond.code yX7_teacher cX7_teacher 5 (some .int) ∈ gl_T ∧ gl_Lk yX7_teacher 3 := ⟨(gl_T_in (by decide +kernel) (by decide +kernel)), kn_X7_teacher, kv_X7_teacher, ki_X7_teacher, kc_X7_teacher, kl_X7_teacher⟩
set_option maxRecDepth 20000 in
theorem kc_X6_way : Cond.code yX6_way cX6_way 5 (some .boolean) ∈ gl_T := (gl_T_in (by decide +kernel) (by decide +kernel))
theorem kl_X6_way : gl_Lk yX6_way 3 := ⟨by decide +kernel, by decide +kernel, by decide +kernel⟩
set_option maxRecDepth 20000 in
theorem ki_X6_way : Cond.initialized yX6_way.cls ∈ gl_T := (gl_T_in (by decide +kernel) (by decide +kernel))
set_option maxRecDepth 20000 in
theorem kn_X6_way : Cond.instanceMethod yX6_way ∈ gl_T := (gl_T_in (by decide +kernel) (by decide +kernel))
set_option maxRecDepth 20000 in
theorem kv_X6_way : Cond.selects RX6 yX6_way yX6_way ∈ gl_T := (gl_T_in (by decide +kernel) (by decide +kernel))
set_option maxRecDepth 20000 in
theorem kw_L_28 : Cond.methodLink RL 28 yX6_way ∈ gl_T ∧ Cond.instanceMethod yX6_way ∈ gl_T ∧ Cond.selects RX6 yX6_way yX6_way ∈ gl_T ∧ Cond.initialized yX6_way.cls ∈ gl_T ∧ Cond.code yX6_way cX6_way 5 (some .boolean) ∈ gl_T ∧ gl_Lk yX6_way 3 := ⟨(gl_T_in (by decide +kernel) (by decide +kernel)), kn_X6_way, kv_X6_way, ki_X6_way, kc_X6_way, kl_X6_way⟩
set_option maxRecDepth 20000 in
theorem kc_X7_way : Cond.code yX7_way cX7_way 4 (some .boolean) ∈ gl_T := (gl_T_in (by decide +kernel) (by decide +kernel))
theorem kl_X7_way : gl_Lk yX7_way 3 := ⟨by decide +kernel, by decide +kernel, by decide +kernel⟩
set_option maxRecDepth 20000 in
theorem ki_X7_way : Cond.initialized yX7_way.cls ∈ gl_T := (gl_T_in (by decide +kernel) (by decide +kernel))
set_option maxRecDepth 20000 in
theorem kn_X7_way : Cond.instanceMethod yX7_way ∈ gl_T := (gl_T_in (by decide +kernel) (by decide +kernel))
set_option maxRecDepth 20000 in
theorem kv_X7_way : Cond.selects RX7 yX7_way yX7_way ∈ gl_T := (gl_T_in (by decide +kernel) (by decide +kernel))
set_option maxRecDepth 20000 in
theorem kw_L_32 : Cond.methodLink RL 32 yX7_way ∈ gl_T ∧ Cond.instanceMethod yX7_way ∈ gl_T ∧ Cond.selects RX7 yX7_way yX7_way ∈ gl_T ∧ Cond.initialized yX7_way.cls ∈ gl_T ∧ Cond.code yX7_way cX7_way 4 (some .boolean) ∈ gl_T ∧ gl_Lk yX7_way 3 := ⟨(gl_T_in (by decide +kernel) (by decide +kernel)), kn_X7_way, kv_X7_way, ki_X7_way, kc_X7_way, kl_X7_way⟩
set_option maxRecDepth 20000 in
theorem kc_X6_likes : Cond.code yX6_likes cX6_likes 5 (some .boolean) ∈ gl_T := (gl_T_in (by decide +kernel) (by decide +kernel))
theorem kl_X6_likes : gl_Lk yX6_likes 3 := ⟨by decide +kernel, by decide +kernel, by decide +kernel⟩
set_option maxRecDepth 20000 in
theorem ki_X6_likes : Cond.initialized yX6_likes.cls ∈ gl_T := (gl_T_in (by decide +kernel) (by decide +kernel))
set_option maxRecDepth 20000 in
theorem kn_X6_likes : Cond.instanceMethod yX6_likes ∈ gl_T := (gl_T_in (by decide +kernel) (by decide +kernel))
set_option maxRecDepth 20000 in
theorem kv_X6_likes : Cond.selects RX6 yX6_likes yX6_likes ∈ gl_T := (gl_T_in (by decide +kernel) (by decide +kernel))
set_option maxRecDepth 20000 in
theorem kw_L_33 : Cond.methodLink RL 33 yX6_likes ∈ gl_T ∧ Cond.instanceMethod yX6_likes ∈ gl_T ∧ Cond.selects RX6 yX6_likes yX6_likes ∈ gl_T ∧ Cond.initialized yX6_likes.cls ∈ gl_T ∧ Cond.code yX6_likes cX6_likes 5 (some .boolean) ∈ gl_T ∧ gl_Lk yX6_likes 3 := ⟨(gl_T_in (by decide +kernel) (by decide +kernel)), kn_X6_likes, kv_X6_likes, ki_X6_likes, kc_X6_likes, kl_X6_likes⟩
set_option maxRecDepth 20000 in
theorem kc_X7_likes : Cond.code yX7_likes cX7_likes 4 (some .boolean) ∈ gl_T := (gl_T_in (by decide +kernel) (by decide +kernel))
theorem kl_X7_likes : gl_Lk yX7_likes 3 := ⟨by decide +kernel, by decide +kernel, by decide +kernel⟩
set_option maxRecDepth 20000 in
theorem ki_X7_likes : Cond.initialized yX7_likes.cls ∈ gl_T := (gl_T_in (by decide +kernel) (by decide +kernel))
set_option maxRecDepth 20000 in
theorem kn_X7_likes : Cond.instanceMethod yX7_likes ∈ gl_T := (gl_T_in (by decide +kernel) (by decide +kernel))
set_option maxRecDepth 20000 in
theorem kv_X7_likes : Cond.selects RX7 yX7_likes yX7_likes ∈ gl_T := (gl_T_in (by decide +kernel) (by decide +kernel))
set_option maxRecDepth 20000 in
theorem kw_L_36 : Cond.methodLink RL 36 yX7_likes ∈ gl_T ∧ Cond.instanceMethod yX7_likes ∈ gl_T ∧ Cond.selects RX7 yX7_likes yX7_likes ∈ gl_T ∧ Cond.initialized yX7_likes.cls ∈ gl_T ∧ Cond.code yX7_likes cX7_likes 4 (some .boolean) ∈ gl_T ∧ gl_Lk yX7_likes 3 := ⟨(gl_T_in (by decide +kernel) (by decide +kernel)), kn_X7_likes, kv_X7_likes, ki_X7_likes, kc_X7_likes, kl_X7_likes⟩
set_option maxRecDepth 20000 in
theorem kc_X6_gap : Cond.code yX6_gap cX6_gap 6 (some .int) ∈ gl_T := (gl_T_in (by decide +kernel) (by decide +kernel))
theorem kl_X6_gap : gl_Lk yX6_gap 5 := ⟨by decide +kernel, by decide +kernel, by decide +kernel⟩
set_option maxRecDepth 20000 in
theorem ki_X6_gap : Cond.initialized yX6_gap.cls ∈ gl_T := (gl_T_in (by decide +kernel) (by decide +kernel))
set_option maxRecDepth 20000 in
theorem kn_X6_gap : Cond.instanceMethod yX6_gap ∈ gl_T := (gl_T_in (by decide +kernel) (by decide +kernel))
set_option maxRecDepth 20000 in
theorem kv_X6_gap : Cond.selects RX6 yX6_gap yX6_gap ∈ gl_T := (gl_T_in (by decide +kernel) (by decide +kernel))
set_option maxRecDepth 20000 in
theorem kw_L_37 : Cond.methodLink RL 37 yX6_gap ∈ gl_T ∧ Cond.instanceMethod yX6_gap ∈ gl_T ∧ Cond.selects RX6 yX6_gap yX6_gap ∈ gl_T ∧ Cond.initialized yX6_gap.cls ∈ gl_T ∧ Cond.code yX6_gap cX6_gap 6 (some .int) ∈ gl_T ∧ gl_Lk yX6_gap 5 := ⟨(gl_T_in (by decide +kernel) (by decide +kernel)), kn_X6_gap, kv_X6_gap, ki_X6_gap, kc_X6_gap, kl_X6_gap⟩
set_option maxRecDepth 20000 in
theorem kc_X7_gap : Cond.code yX7_gap cX7_gap 6 (some .int) ∈ gl_T := (gl_T_in (by decide +kernel) (by decide +kernel))
theorem kl_X7_gap : gl_Lk yX7_gap 5 := ⟨by decide +kernel, by decide +kernel, by decide +kernel⟩
set_option maxRecDepth 20000 in
theorem ki_X7_gap : Cond.initialized yX7_gap.cls ∈ gl_T := (gl_T_in (by decide +kernel) (by decide +kernel))
set_option maxRecDepth 20000 in
theorem kn_X7_gap : Cond.instanceMethod yX7_gap ∈ gl_T := (gl_T_in (by decide +kernel) (by decide +kernel))
set_option maxRecDepth 20000 in
theorem kv_X7_gap : Cond.selects RX7 yX7_gap yX7_gap ∈ gl_T := (gl_T_in (by decide +kernel) (by decide +kernel))
set_option maxRecDepth 20000 in
theorem kw_L_40 : Cond.methodLink RL 40 yX7_gap ∈ gl_T ∧ Cond.instanceMethod yX7_gap ∈ gl_T ∧ Cond.selects RX7 yX7_gap yX7_gap ∈ gl_T ∧ Cond.initialized yX7_gap.cls ∈ gl_T ∧ Cond.code yX7_gap cX7_gap 6 (some .int) ∈ gl_T ∧ gl_Lk yX7_gap 5 := ⟨(gl_T_in (by decide +kernel) (by decide +kernel)), kn_X7_gap, kv_X7_gap, ki_X7_gap, kc_X7_gap, kl_X7_gap⟩
set_option maxRecDepth 20000 in
theorem kc_X6_can : Cond.code yX6_can cX6_can 5 (some .int) ∈ gl_T := (gl_T_in (by decide +kernel) (by decide +kernel))
theorem kl_X6_can : gl_Lk yX6_can 2 := ⟨by decide +kernel, by decide +kernel, by decide +kernel⟩
set_option maxRecDepth 20000 in
theorem ki_X6_can : Cond.initialized yX6_can.cls ∈ gl_T := (gl_T_in (by decide +kernel) (by decide +kernel))
set_option maxRecDepth 20000 in
theorem kn_X6_can : Cond.instanceMethod yX6_can ∈ gl_T := (gl_T_in (by decide +kernel) (by decide +kernel))
set_option maxRecDepth 20000 in
theorem kv_X6_can : Cond.selects RX6 yX6_can yX6_can ∈ gl_T := (gl_T_in (by decide +kernel) (by decide +kernel))
set_option maxRecDepth 20000 in
theorem kw_L_41 : Cond.methodLink RL 41 yX6_can ∈ gl_T ∧ Cond.instanceMethod yX6_can ∈ gl_T ∧ Cond.selects RX6 yX6_can yX6_can ∈ gl_T ∧ Cond.initialized yX6_can.cls ∈ gl_T ∧ Cond.code yX6_can cX6_can 5 (some .int) ∈ gl_T ∧ gl_Lk yX6_can 2 := ⟨(gl_T_in (by decide +kernel) (by decide +kernel)), kn_X6_can, kv_X6_can, ki_X6_can, kc_X6_can, kl_X6_can⟩
set_option maxRecDepth 20000 in
theorem kc_X7_can : Cond.code yX7_can cX7_can 3 (some .int) ∈ gl_T := (gl_T_in (by decide +kernel) (by decide +kernel))
theorem kl_X7_can : gl_Lk yX7_can 2 := ⟨by decide +kernel, by decide +kernel, by decide +kernel⟩
set_option maxRecDepth 20000 in
theorem ki_X7_can : Cond.initialized yX7_can.cls ∈ gl_T := (gl_T_in (by decide +kernel) (by decide +kernel))
set_option maxRecDepth 20000 in
theorem kn_X7_can : Cond.instanceMethod yX7_can ∈ gl_T := (gl_T_in (by decide +kernel) (by decide +kernel))
set_option maxRecDepth 20000 in
theorem kv_X7_can : Cond.selects RX7 yX7_can yX7_can ∈ gl_T := (gl_T_in (by decide +kernel) (by decide +kernel))
set_option maxRecDepth 20000 in
theorem kw_L_45 : Cond.methodLink RL 45 yX7_can ∈ gl_T ∧ Cond.instanceMethod yX7_can ∈ gl_T ∧ Cond.selects RX7 yX7_can yX7_can ∈ gl_T ∧ Cond.initialized yX7_can.cls ∈ gl_T ∧ Cond.code yX7_can cX7_can 3 (some .int) ∈ gl_T ∧ gl_Lk yX7_can 2 := ⟨(gl_T_in (by decide +kernel) (by decide +kernel)), kn_X7_can, kv_X7_can, ki_X7_can, kc_X7_can, kl_X7_can⟩
set_option maxRecDepth 20000 in
theorem kc_X6_cost : Cond.code yX6_cost cX6_cost 5 (some .int) ∈ gl_T := (gl_T_in (by decide +kernel) (by decide +kernel))
theorem kl_X6_cost : gl_Lk yX6_cost 2 := ⟨by decide +kernel, by decide +kernel, by decide +kernel⟩
set_option maxRecDepth 20000 in
theorem ki_X6_cost : Cond.initialized yX6_cost.cls ∈ gl_T := (gl_T_in (by decide +kernel) (by decide +kernel))
set_option maxRecDepth 20000 in
theorem kn_X6_cost : Cond.instanceMethod yX6_cost ∈ gl_T := (gl_T_in (by decide +kernel) (by decide +kernel))
set_option maxRecDepth 20000 in
theorem kv_X6_cost : Cond.selects RX6 yX6_cost yX6_cost ∈ gl_T := (gl_T_in (by decide +kernel) (by decide +kernel))
set_option maxRecDepth 20000 in
theorem kw_L_46 : Cond.methodLink RL 46 yX6_cost ∈ gl_T ∧ Cond.instanceMethod yX6_cost ∈ gl_T ∧ Cond.selects RX6 yX6_cost yX6_cost ∈ gl_T ∧ Cond.initialized yX6_cost.cls ∈ gl_T ∧ Cond.code yX6_cost cX6_cost 5 (some .int) ∈ gl_T ∧ gl_Lk yX6_cost 2 := ⟨(gl_T_in (by decide +kernel) (by decide +kernel)), kn_X6_cost, kv_X6_cost, ki_X6_cost, kc_X6_cost, kl_X6_cost⟩
set_option maxRecDepth 20000 in
theorem kc_X7_cost : Cond.code yX7_cost cX7_cost 3 (some .int) ∈ gl_T := (gl_T_in (by decide +kernel) (by decide +kernel))
theorem kl_X7_cost : gl_Lk yX7_cost 2 := ⟨by decide +kernel, by decide +kernel, by decide +kernel⟩
set_option maxRecDepth 20000 in
theorem ki_X7_cost : Cond.initialized yX7_cost.cls ∈ gl_T := (gl_T_in (by decide +kernel) (by decide +kernel))
set_option maxRecDepth 20000 in
theorem kn_X7_cost : Cond.instanceMethod yX7_cost ∈ gl_T := (gl_T_in (by decide +kernel) (by decide +kernel))
set_option maxRecDepth 20000 in
theorem kv_X7_cost : Cond.selects RX7 yX7_cost yX7_cost ∈ gl_T := (gl_T_in (by decide +kernel) (by decide +kernel))
set_option maxRecDepth 20000 in
theorem kw_L_49 : Cond.methodLink RL 49 yX7_cost ∈ gl_T ∧ Cond.instanceMethod yX7_cost ∈ gl_T ∧ Cond.selects RX7 yX7_cost yX7_cost ∈ gl_T ∧ Cond.initialized yX7_cost.cls ∈ gl_T ∧ Cond.code yX7_cost cX7_cost 3 (some .int) ∈ gl_T ∧ gl_Lk yX7_cost 2 := ⟨(gl_T_in (by decide +kernel) (by decide +kernel)), kn_X7_cost, kv_X7_cost, ki_X7_cost, kc_X7_cost, kl_X7_cost⟩
set_option maxRecDepth 20000 in
theorem kc_X6_match : Cond.code yX6_match cX6_match 1 (some .int) ∈ gl_T := (gl_T_in (by decide +kernel) (by decide +kernel))
theorem kl_X6_match : gl_Lk yX6_match 0 := ⟨by decide +kernel, by decide +kernel, by decide +kernel⟩
set_option maxRecDepth 20000 in
theorem ki_X6_match : Cond.initialized yX6_match.cls ∈ gl_T := (gl_T_in (by decide +kernel) (by decide +kernel))
set_option maxRecDepth 20000 in
theorem kn_X6_match : Cond.instanceMethod yX6_match ∈ gl_T := (gl_T_in (by decide +kernel) (by decide +kernel))
set_option maxRecDepth 20000 in
theorem kv_X6_match : Cond.selects RX6 yX6_match yX6_match ∈ gl_T := (gl_T_in (by decide +kernel) (by decide +kernel))
set_option maxRecDepth 20000 in
theorem kw_L_50 : Cond.methodLink RL 50 yX6_match ∈ gl_T ∧ Cond.instanceMethod yX6_match ∈ gl_T ∧ Cond.selects RX6 yX6_match yX6_match ∈ gl_T ∧ Cond.initialized yX6_match.cls ∈ gl_T ∧ Cond.code yX6_match cX6_match 1 (some .int) ∈ gl_T ∧ gl_Lk yX6_match 0 := ⟨(gl_T_in (by decide +kernel) (by decide +kernel)), kn_X6_match, kv_X6_match, ki_X6_match, kc_X6_match, kl_X6_match⟩
set_option maxRecDepth 20000 in
theorem kc_X7_match : Cond.code yX7_match cX7_match 1 (some .int) ∈ gl_T := (gl_T_in (by decide +kernel) (by decide +kernel))
theorem kl_X7_match : gl_Lk yX7_match 0 := ⟨by decide +kernel, by decide +kernel, by decide +kernel⟩
set_option maxRecDepth 20000 in
theorem ki_X7_match : Cond.initialized yX7_match.cls ∈ gl_T := (gl_T_in (by decide +kernel) (by decide +kernel))
set_option maxRecDepth 20000 in
theorem kn_X7_match : Cond.instanceMethod yX7_match ∈ gl_T := (gl_T_in (by decide +kernel) (by decide +kernel))
set_option maxRecDepth 20000 in
theorem kv_X7_match : Cond.selects RX7 yX7_match yX7_match ∈ gl_T := (gl_T_in (by decide +kernel) (by decide +kernel))
set_option maxRecDepth 20000 in
theorem kw_L_54 : Cond.methodLink RL 54 yX7_match ∈ gl_T ∧ Cond.instanceMethod yX7_match ∈ gl_T ∧ Cond.selects RX7 yX7_match yX7_match ∈ gl_T ∧ Cond.initialized yX7_match.cls ∈ gl_T ∧ Cond.code yX7_match cX7_match 1 (some .int) ∈ gl_T ∧ gl_Lk yX7_match 0 := ⟨(gl_T_in (by decide +kernel) (by decide +kernel)), kn_X7_match, kv_X7_match, ki_X7_match, kc_X7_match, kl_X7_match⟩
set_option maxRecDepth 20000 in
theorem kc_X6_costs : Cond.code yX6_costs cX6_costs 1 (some .int) ∈ gl_T := (gl_T_in (by decide +kernel) (by decide +kernel))
theorem kl_X6_costs : gl_Lk yX6_costs 0 := ⟨by decide +kernel, by decide +kernel, by decide +kernel⟩
set_option maxRecDepth 20000 in
theorem ki_X6_costs : Cond.initialized yX6_costs.cls ∈ gl_T := (gl_T_in (by decide +kernel) (by decide +kernel))
set_option maxRecDepth 20000 in
theorem kn_X6_costs : Cond.instanceMethod yX6_costs ∈ gl_T := (gl_T_in (by decide +kernel) (by decide +kernel))
set_option maxRecDepth 20000 in
theorem kv_X6_costs : Cond.selects RX6 yX6_costs yX6_costs ∈ gl_T := (gl_T_in (by decide +kernel) (by decide +kernel))
set_option maxRecDepth 20000 in
theorem kw_L_55 : Cond.methodLink RL 55 yX6_costs ∈ gl_T ∧ Cond.instanceMethod yX6_costs ∈ gl_T ∧ Cond.selects RX6 yX6_costs yX6_costs ∈ gl_T ∧ Cond.initialized yX6_costs.cls ∈ gl_T ∧ Cond.code yX6_costs cX6_costs 1 (some .int) ∈ gl_T ∧ gl_Lk yX6_costs 0 := ⟨(gl_T_in (by decide +kernel) (by decide +kernel)), kn_X6_costs, kv_X6_costs, ki_X6_costs, kc_X6_costs, kl_X6_costs⟩
set_option maxRecDepth 20000 in
theorem kc_X7_costs : Cond.code yX7_costs cX7_costs 1 (some .int) ∈ gl_T := (gl_T_in (by decide +kernel) (by decide +kernel))
theorem kl_X7_costs : gl_Lk yX7_costs 0 := ⟨by decide +kernel, by decide +kernel, by decide +kernel⟩
set_option maxRecDepth 20000 in
theorem ki_X7_costs : Cond.initialized yX7_costs.cls ∈ gl_T := (gl_T_in (by decide +kernel) (by decide +kernel))
set_option maxRecDepth 20000 in
theorem kn_X7_costs : Cond.instanceMethod yX7_costs ∈ gl_T := (gl_T_in (by decide +kernel) (by decide +kernel))
set_option maxRecDepth 20000 in
theorem kv_X7_costs : Cond.selects RX7 yX7_costs yX7_costs ∈ gl_T := (gl_T_in (by decide +kernel) (by decide +kernel))
set_option maxRecDepth 20000 in
theorem kw_L_58 : Cond.methodLink RL 58 yX7_costs ∈ gl_T ∧ Cond.instanceMethod yX7_costs ∈ gl_T ∧ Cond.selects RX7 yX7_costs yX7_costs ∈ gl_T ∧ Cond.initialized yX7_costs.cls ∈ gl_T ∧ Cond.code yX7_costs cX7_costs 1 (some .int) ∈ gl_T ∧ gl_Lk yX7_costs 0 := ⟨(gl_T_in (by decide +kernel) (by decide +kernel)), kn_X7_costs, kv_X7_costs, ki_X7_costs, kc_X7_costs, kl_X7_costs⟩
set_option maxRecDepth 20000 in
theorem kc_X6_who : Cond.code yX6_who cX6_who 3 (some .int) ∈ gl_T := (gl_T_in (by decide +kernel) (by decide +kernel))
theorem kl_X6_who : gl_Lk yX6_who 1 := ⟨by decide +kernel, by decide +kernel, by decide +kernel⟩
set_option maxRecDepth 20000 in
theorem ki_X6_who : Cond.initialized yX6_who.cls ∈ gl_T := (gl_T_in (by decide +kernel) (by decide +kernel))
set_option maxRecDepth 20000 in
theorem kn_X6_who : Cond.instanceMethod yX6_who ∈ gl_T := (gl_T_in (by decide +kernel) (by decide +kernel))
set_option maxRecDepth 20000 in
theorem kv_X6_who : Cond.selects RX6 yX6_who yX6_who ∈ gl_T := (gl_T_in (by decide +kernel) (by decide +kernel))
set_option maxRecDepth 20000 in
theorem kw_L_59 : Cond.methodLink RL 59 yX6_who ∈ gl_T ∧ Cond.instanceMethod yX6_who ∈ gl_T ∧ Cond.selects RX6 yX6_who yX6_who ∈ gl_T ∧ Cond.initialized yX6_who.cls ∈ gl_T ∧ Cond.code yX6_who cX6_who 3 (some .int) ∈ gl_T ∧ gl_Lk yX6_who 1 := ⟨(gl_T_in (by decide +kernel) (by decide +kernel)), kn_X6_who, kv_X6_who, ki_X6_who, kc_X6_who, kl_X6_who⟩
set_option maxRecDepth 20000 in
theorem kc_X7_who : Cond.code yX7_who cX7_who 3 (some .int) ∈ gl_T := (gl_T_in (by decide +kernel) (by decide +kernel))
theorem kl_X7_who : gl_Lk yX7_who 1 := ⟨by decide +kernel, by decide +kernel, by decide +kernel⟩
set_option maxRecDepth 20000 in
theorem ki_X7_who : Cond.initialized yX7_who.cls ∈ gl_T := (gl_T_in (by decide +kernel) (by decide +kernel))
set_option maxRecDepth 20000 in
theorem kn_X7_who : Cond.instanceMethod yX7_who ∈ gl_T := (gl_T_in (by decide +kernel) (by decide +kernel))
set_option maxRecDepth 20000 in
theorem kv_X7_who : Cond.selects RX7 yX7_who yX7_who ∈ gl_T := (gl_T_in (by decide +kernel) (by decide +kernel))
set_option maxRecDepth 20000 in
theorem kw_L_62 : Cond.methodLink RL 62 yX7_who ∈ gl_T ∧ Cond.instanceMethod yX7_who ∈ gl_T ∧ Cond.selects RX7 yX7_who yX7_who ∈ gl_T ∧ Cond.initialized yX7_who.cls ∈ gl_T ∧ Cond.code yX7_who cX7_who 3 (some .int) ∈ gl_T ∧ gl_Lk yX7_who 1 := ⟨(gl_T_in (by decide +kernel) (by decide +kernel)), kn_X7_who, kv_X7_who, ki_X7_who, kc_X7_who, kl_X7_who⟩
set_option maxRecDepth 20000 in
theorem kc_X6_next : Cond.code yX6_next cX6_next 3 (some .int) ∈ gl_T := (gl_T_in (by decide +kernel) (by decide +kernel))
theorem kl_X6_next : gl_Lk yX6_next 0 := ⟨by decide +kernel, by decide +kernel, by decide +kernel⟩
set_option maxRecDepth 20000 in
theorem ki_X6_next : Cond.initialized yX6_next.cls ∈ gl_T := (gl_T_in (by decide +kernel) (by decide +kernel))
set_option maxRecDepth 20000 in
theorem kn_X6_next : Cond.instanceMethod yX6_next ∈ gl_T := (gl_T_in (by decide +kernel) (by decide +kernel))
set_option maxRecDepth 20000 in
theorem kv_X6_next : Cond.selects RX6 yX6_next yX6_next ∈ gl_T := (gl_T_in (by decide +kernel) (by decide +kernel))
set_option maxRecDepth 20000 in
theorem kw_L_63 : Cond.methodLink RL 63 yX6_next ∈ gl_T ∧ Cond.instanceMethod yX6_next ∈ gl_T ∧ Cond.selects RX6 yX6_next yX6_next ∈ gl_T ∧ Cond.initialized yX6_next.cls ∈ gl_T ∧ Cond.code yX6_next cX6_next 3 (some .int) ∈ gl_T ∧ gl_Lk yX6_next 0 := ⟨(gl_T_in (by decide +kernel) (by decide +kernel)), kn_X6_next, kv_X6_next, ki_X6_next, kc_X6_next, kl_X6_next⟩
set_option maxRecDepth 20000 in
theorem kc_X7_next : Cond.code yX7_next cX7_next 3 (some .int) ∈ gl_T := (gl_T_in (by decide +kernel) (by decide +kernel))
theorem kl_X7_next : gl_Lk yX7_next 0 := ⟨by decide +kernel, by decide +kernel, by decide +kernel⟩
set_option maxRecDepth 20000 in
theorem ki_X7_next : Cond.initialized yX7_next.cls ∈ gl_T := (gl_T_in (by decide +kernel) (by decide +kernel))
set_option maxRecDepth 20000 in
theorem kn_X7_next : Cond.instanceMethod yX7_next ∈ gl_T := (gl_T_in (by decide +kernel) (by decide +kernel))
set_option maxRecDepth 20000 in
theorem kv_X7_next : Cond.selects RX7 yX7_next yX7_next ∈ gl_T := (gl_T_in (by decide +kernel) (by decide +kernel))
set_option maxRecDepth 20000 in
theorem kw_L_66 : Cond.methodLink RL 66 yX7_next ∈ gl_T ∧ Cond.instanceMethod yX7_next ∈ gl_T ∧ Cond.selects RX7 yX7_next yX7_next ∈ gl_T ∧ Cond.initialized yX7_next.cls ∈ gl_T ∧ Cond.code yX7_next cX7_next 3 (some .int) ∈ gl_T ∧ gl_Lk yX7_next 0 := ⟨(gl_T_in (by decide +kernel) (by decide +kernel)), kn_X7_next, kv_X7_next, ki_X7_next, kc_X7_next, kl_X7_next⟩
set_option maxRecDepth 20000 in
theorem kc_X6_answer : Cond.code yX6_answer cX6_answer 5 (some .boolean) ∈ gl_T := (gl_T_in (by decide +kernel) (by decide +kernel))
theorem kl_X6_answer : gl_Lk yX6_answer 2 := ⟨by decide +kernel, by decide +kernel, by decide +kernel⟩
set_option maxRecDepth 20000 in
theorem ki_X6_answer : Cond.initialized yX6_answer.cls ∈ gl_T := (gl_T_in (by decide +kernel) (by decide +kernel))
set_option maxRecDepth 20000 in
theorem kn_X6_answer : Cond.instanceMethod yX6_answer ∈ gl_T := (gl_T_in (by decide +kernel) (by decide +kernel))
set_option maxRecDepth 20000 in
theorem kv_X6_answer : Cond.selects RX6 yX6_answer yX6_answer ∈ gl_T := (gl_T_in (by decide +kernel) (by decide +kernel))
set_option maxRecDepth 20000 in
theorem kw_L_67 : Cond.methodLink RL 67 yX6_answer ∈ gl_T ∧ Cond.instanceMethod yX6_answer ∈ gl_T ∧ Cond.selects RX6 yX6_answer yX6_answer ∈ gl_T ∧ Cond.initialized yX6_answer.cls ∈ gl_T ∧ Cond.code yX6_answer cX6_answer 5 (some .boolean) ∈ gl_T ∧ gl_Lk yX6_answer 2 := ⟨(gl_T_in (by decide +kernel) (by decide +kernel)), kn_X6_answer, kv_X6_answer, ki_X6_answer, kc_X6_answer, kl_X6_answer⟩
set_option maxRecDepth 20000 in
theorem kc_X7_answer : Cond.code yX7_answer cX7_answer 5 (some .boolean) ∈ gl_T := (gl_T_in (by decide +kernel) (by decide +kernel))
theorem kl_X7_answer : gl_Lk yX7_answer 2 := ⟨by decide +kernel, by decide +kernel, by decide +kernel⟩
set_option maxRecDepth 20000 in
theorem ki_X7_answer : Cond.initialized yX7_answer.cls ∈ gl_T := (gl_T_in (by decide +kernel) (by decide +kernel))
set_option maxRecDepth 20000 in
theorem kn_X7_answer : Cond.instanceMethod yX7_answer ∈ gl_T := (gl_T_in (by decide +kernel) (by decide +kernel))
set_option maxRecDepth 20000 in
theorem kv_X7_answer : Cond.selects RX7 yX7_answer yX7_answer ∈ gl_T := (gl_T_in (by decide +kernel) (by decide +kernel))
set_option maxRecDepth 20000 in
theorem kw_L_71 : Cond.methodLink RL 71 yX7_answer ∈ gl_T ∧ Cond.instanceMethod yX7_answer ∈ gl_T ∧ Cond.selects RX7 yX7_answer yX7_answer ∈ gl_T ∧ Cond.initialized yX7_answer.cls ∈ gl_T ∧ Cond.code yX7_answer cX7_answer 5 (some .boolean) ∈ gl_T ∧ gl_Lk yX7_answer 2 := ⟨(gl_T_in (by decide +kernel) (by decide +kernel)), kn_X7_answer, kv_X7_answer, ki_X7_answer, kc_X7_answer, kl_X7_answer⟩
set_option maxRecDepth 20000 in
theorem kc_X6_hall : Cond.code yX6_hall cX6_hall 1 (some .int) ∈ gl_T := (gl_T_in (by decide +kernel) (by decide +kernel))
theorem kl_X6_hall : gl_Lk yX6_hall 0 := ⟨by decide +kernel, by decide +kernel, by decide +kernel⟩
set_option maxRecDepth 20000 in
theorem ki_X6_hall : Cond.initialized yX6_hall.cls ∈ gl_T := (gl_T_in (by decide +kernel) (by decide +kernel))
set_option maxRecDepth 20000 in
theorem kn_X6_hall : Cond.instanceMethod yX6_hall ∈ gl_T := (gl_T_in (by decide +kernel) (by decide +kernel))
set_option maxRecDepth 20000 in
theorem kv_X6_hall : Cond.selects RX6 yX6_hall yX6_hall ∈ gl_T := (gl_T_in (by decide +kernel) (by decide +kernel))
set_option maxRecDepth 20000 in
theorem kw_L_72 : Cond.methodLink RL 72 yX6_hall ∈ gl_T ∧ Cond.instanceMethod yX6_hall ∈ gl_T ∧ Cond.selects RX6 yX6_hall yX6_hall ∈ gl_T ∧ Cond.initialized yX6_hall.cls ∈ gl_T ∧ Cond.code yX6_hall cX6_hall 1 (some .int) ∈ gl_T ∧ gl_Lk yX6_hall 0 := ⟨(gl_T_in (by decide +kernel) (by decide +kernel)), kn_X6_hall, kv_X6_hall, ki_X6_hall, kc_X6_hall, kl_X6_hall⟩
set_option maxRecDepth 20000 in
theorem kc_X7_hall : Cond.code yX7_hall cX7_hall 8 (some .int) ∈ gl_T := (gl_T_in (by decide +kernel) (by decide +kernel))
theorem kl_X7_hall : gl_Lk yX7_hall 0 := ⟨by decide +kernel, by decide +kernel, by decide +kernel⟩
set_option maxRecDepth 20000 in
theorem ki_X7_hall : Cond.initialized yX7_hall.cls ∈ gl_T := (gl_T_in (by decide +kernel) (by decide +kernel))
set_option maxRecDepth 20000 in
theorem kn_X7_hall : Cond.instanceMethod yX7_hall ∈ gl_T := (gl_T_in (by decide +kernel) (by decide +kernel))
set_option maxRecDepth 20000 in
theorem kv_X7_hall : Cond.selects RX7 yX7_hall yX7_hall ∈ gl_T := (gl_T_in (by decide +kernel) (by decide +kernel))
set_option maxRecDepth 20000 in
theorem kw_L_75 : Cond.methodLink RL 75 yX7_hall ∈ gl_T ∧ Cond.instanceMethod yX7_hall ∈ gl_T ∧ Cond.selects RX7 yX7_hall yX7_hall ∈ gl_T ∧ Cond.initialized yX7_hall.cls ∈ gl_T ∧ Cond.code yX7_hall cX7_hall 8 (some .int) ∈ gl_T ∧ gl_Lk yX7_hall 0 := ⟨(gl_T_in (by decide +kernel) (by decide +kernel)), kn_X7_hall, kv_X7_hall, ki_X7_hall, kc_X7_hall, kl_X7_hall⟩
set_option maxRecDepth 20000 in
theorem kc_X6_day : Cond.code yX6_day cX6_day 2 (some .int) ∈ gl_T := (gl_T_in (by decide +kernel) (by decide +kernel))
theorem kl_X6_day : gl_Lk yX6_day 0 := ⟨by decide +kernel, by decide +kernel, by decide +kernel⟩
set_option maxRecDepth 20000 in
theorem ki_X6_day : Cond.initialized yX6_day.cls ∈ gl_T := (gl_T_in (by decide +kernel) (by decide +kernel))
set_option maxRecDepth 20000 in
theorem kn_X6_day : Cond.instanceMethod yX6_day ∈ gl_T := (gl_T_in (by decide +kernel) (by decide +kernel))
set_option maxRecDepth 20000 in
theorem kv_X6_day : Cond.selects RX6 yX6_day yX6_day ∈ gl_T := (gl_T_in (by decide +kernel) (by decide +kernel))
set_option maxRecDepth 20000 in
theorem kw_L_76 : Cond.methodLink RL 76 yX6_day ∈ gl_T ∧ Cond.instanceMethod yX6_day ∈ gl_T ∧ Cond.selects RX6 yX6_day yX6_day ∈ gl_T ∧ Cond.initialized yX6_day.cls ∈ gl_T ∧ Cond.code yX6_day cX6_day 2 (some .int) ∈ gl_T ∧ gl_Lk yX6_day 0 := ⟨(gl_T_in (by decide +kernel) (by decide +kernel)), kn_X6_day, kv_X6_day, ki_X6_day, kc_X6_day, kl_X6_day⟩
set_option maxRecDepth 20000 in
theorem kc_X7_day : Cond.code yX7_day cX7_day 2 (some .int) ∈ gl_T := (gl_T_in (by decide +kernel) (by decide +kernel))
theorem kl_X7_day : gl_Lk yX7_day 0 := ⟨by decide +kernel, by decide +kernel, by decide +kernel⟩
set_option maxRecDepth 20000 in
theorem ki_X7_day : Cond.initialized yX7_day.cls ∈ gl_T := (gl_T_in (by decide +kernel) (by decide +kernel))
set_option maxRecDepth 20000 in
theorem kn_X7_day : Cond.instanceMethod yX7_day ∈ gl_T := (gl_T_in (by decide +kernel) (by decide +kernel))
set_option maxRecDepth 20000 in
theorem kv_X7_day : Cond.selects RX7 yX7_day yX7_day ∈ gl_T := (gl_T_in (by decide +kernel) (by decide +kernel))
set_option maxRecDepth 20000 in
theorem kw_L_79 : Cond.methodLink RL 79 yX7_day ∈ gl_T ∧ Cond.instanceMethod yX7_day ∈ gl_T ∧ Cond.selects RX7 yX7_day yX7_day ∈ gl_T ∧ Cond.initialized yX7_day.cls ∈ gl_T ∧ Cond.code yX7_day cX7_day 2 (some .int) ∈ gl_T ∧ gl_Lk yX7_day 0 := ⟨(gl_T_in (by decide +kernel) (by decide +kernel)), kn_X7_day, kv_X7_day, ki_X7_day, kc_X7_day, kl_X7_day⟩
set_option maxRecDepth 20000 in
theorem kc_X6_pay : Cond.code yX6_pay cX6_pay 3 (some .long) ∈ gl_T := (gl_T_in (by decide +kernel) (by decide +kernel))
theorem kl_X6_pay : gl_Lk yX6_pay 1 := ⟨by decide +kernel, by decide +kernel, by decide +kernel⟩
set_option maxRecDepth 20000 in
theorem ki_X6_pay : Cond.initialized yX6_pay.cls ∈ gl_T := (gl_T_in (by decide +kernel) (by decide +kernel))
set_option maxRecDepth 20000 in
theorem kn_X6_pay : Cond.instanceMethod yX6_pay ∈ gl_T := (gl_T_in (by decide +kernel) (by decide +kernel))
set_option maxRecDepth 20000 in
theorem kv_X6_pay : Cond.selects RX6 yX6_pay yX6_pay ∈ gl_T := (gl_T_in (by decide +kernel) (by decide +kernel))
set_option maxRecDepth 20000 in
theorem kw_L_80 : Cond.methodLink RL 80 yX6_pay ∈ gl_T ∧ Cond.instanceMethod yX6_pay ∈ gl_T ∧ Cond.selects RX6 yX6_pay yX6_pay ∈ gl_T ∧ Cond.initialized yX6_pay.cls ∈ gl_T ∧ Cond.code yX6_pay cX6_pay 3 (some .long) ∈ gl_T ∧ gl_Lk yX6_pay 1 := ⟨(gl_T_in (by decide +kernel) (by decide +kernel)), kn_X6_pay, kv_X6_pay, ki_X6_pay, kc_X6_pay, kl_X6_pay⟩
set_option maxRecDepth 20000 in
theorem kc_X7_pay : Cond.code yX7_pay cX7_pay 2 (some .long) ∈ gl_T := (gl_T_in (by decide +kernel) (by decide +kernel))
theorem kl_X7_pay : gl_Lk yX7_pay 1 := ⟨by decide +kernel, by decide +kernel, by decide +kernel⟩
set_option maxRecDepth 20000 in
theorem ki_X7_pay : Cond.initialized yX7_pay.cls ∈ gl_T := (gl_T_in (by decide +kernel) (by decide +kernel))
set_option maxRecDepth 20000 in
theorem kn_X7_pay : Cond.instanceMethod yX7_pay ∈ gl_T := (gl_T_in (by decide +kernel) (by decide +kernel))
set_option maxRecDepth 20000 in
theorem kv_X7_pay : Cond.selects RX7 yX7_pay yX7_pay ∈ gl_T := (gl_T_in (by decide +kernel) (by decide +kernel))
set_option maxRecDepth 20000 in
theorem kw_L_84 : Cond.methodLink RL 84 yX7_pay ∈ gl_T ∧ Cond.instanceMethod yX7_pay ∈ gl_T ∧ Cond.selects RX7 yX7_pay yX7_pay ∈ gl_T ∧ Cond.initialized yX7_pay.cls ∈ gl_T ∧ Cond.code yX7_pay cX7_pay 2 (some .long) ∈ gl_T ∧ gl_Lk yX7_pay 1 := ⟨(gl_T_in (by decide +kernel) (by decide +kernel)), kn_X7_pay, kv_X7_pay, ki_X7_pay, kc_X7_pay, kl_X7_pay⟩
set_option maxRecDepth 20000 in
theorem kc_X6_strangers : Cond.code yX6_strangers cX6_strangers 3 (some .int) ∈ gl_T := (gl_T_in (by decide +kernel) (by decide +kernel))
theorem kl_X6_strangers : gl_Lk yX6_strangers 2 := ⟨by decide +kernel, by decide +kernel, by decide +kernel⟩
set_option maxRecDepth 20000 in
theorem ki_X6_strangers : Cond.initialized yX6_strangers.cls ∈ gl_T := (gl_T_in (by decide +kernel) (by decide +kernel))
set_option maxRecDepth 20000 in
theorem kn_X6_strangers : Cond.instanceMethod yX6_strangers ∈ gl_T := (gl_T_in (by decide +kernel) (by decide +kernel))
set_option maxRecDepth 20000 in
theorem kv_X6_strangers : Cond.selects RX6 yX6_strangers yX6_strangers ∈ gl_T := (gl_T_in (by decide +kernel) (by decide +kernel))
set_option maxRecDepth 20000 in
theorem kw_L_85 : Cond.methodLink RL 85 yX6_strangers ∈ gl_T ∧ Cond.instanceMethod yX6_strangers ∈ gl_T ∧ Cond.selects RX6 yX6_strangers yX6_strangers ∈ gl_T ∧ Cond.initialized yX6_strangers.cls ∈ gl_T ∧ Cond.code yX6_strangers cX6_strangers 3 (some .int) ∈ gl_T ∧ gl_Lk yX6_strangers 2 := ⟨(gl_T_in (by decide +kernel) (by decide +kernel)), kn_X6_strangers, kv_X6_strangers, ki_X6_strangers, kc_X6_strangers, kl_X6_strangers⟩
set_option maxRecDepth 20000 in
theorem kc_X7_strangers : Cond.code yX7_strangers cX7_strangers 5 (some .int) ∈ gl_T := (gl_T_in (by decide +kernel) (by decide +kernel))
theorem kl_X7_strangers : gl_Lk yX7_strangers 2 := ⟨by decide +kernel, by decide +kernel, by decide +kernel⟩
set_option maxRecDepth 20000 in
theorem ki_X7_strangers : Cond.initialized yX7_strangers.cls ∈ gl_T := (gl_T_in (by decide +kernel) (by decide +kernel))
set_option maxRecDepth 20000 in
theorem kn_X7_strangers : Cond.instanceMethod yX7_strangers ∈ gl_T := (gl_T_in (by decide +kernel) (by decide +kernel))
set_option maxRecDepth 20000 in
theorem kv_X7_strangers : Cond.selects RX7 yX7_strangers yX7_strangers ∈ gl_T := (gl_T_in (by decide +kernel) (by decide +kernel))
set_option maxRecDepth 20000 in
theorem kw_L_88 : Cond.methodLink RL 88 yX7_strangers ∈ gl_T ∧ Cond.instanceMethod yX7_strangers ∈ gl_T ∧ Cond.selects RX7 yX7_strangers yX7_strangers ∈ gl_T ∧ Cond.initialized yX7_strangers.cls ∈ gl_T ∧ Cond.code yX7_strangers cX7_strangers 5 (some .int) ∈ gl_T ∧ gl_Lk yX7_strangers 2 := ⟨(gl_T_in (by decide +kernel) (by decide +kernel)), kn_X7_strangers, kv_X7_strangers, ki_X7_strangers, kc_X7_strangers, kl_X7_strangers⟩
set_option maxRecDepth 20000 in
theorem kc_X6_look : Cond.code yX6_look cX6_look 4 (some .int) ∈ gl_T := (gl_T_in (by decide +kernel) (by decide +kernel))
theorem kl_X6_look : gl_Lk yX6_look 2 := ⟨by decide +kernel, by decide +kernel, by decide +kernel⟩
set_option maxRecDepth 20000 in
theorem ki_X6_look : Cond.initialized yX6_look.cls ∈ gl_T := (gl_T_in (by decide +kernel) (by decide +kernel))
set_option maxRecDepth 20000 in
theorem kn_X6_look : Cond.instanceMethod yX6_look ∈ gl_T := (gl_T_in (by decide +kernel) (by decide +kernel))
set_option maxRecDepth 20000 in
theorem kv_X6_look : Cond.selects RX6 yX6_look yX6_look ∈ gl_T := (gl_T_in (by decide +kernel) (by decide +kernel))
set_option maxRecDepth 20000 in
theorem kw_L_89 : Cond.methodLink RL 89 yX6_look ∈ gl_T ∧ Cond.instanceMethod yX6_look ∈ gl_T ∧ Cond.selects RX6 yX6_look yX6_look ∈ gl_T ∧ Cond.initialized yX6_look.cls ∈ gl_T ∧ Cond.code yX6_look cX6_look 4 (some .int) ∈ gl_T ∧ gl_Lk yX6_look 2 := ⟨(gl_T_in (by decide +kernel) (by decide +kernel)), kn_X6_look, kv_X6_look, ki_X6_look, kc_X6_look, kl_X6_look⟩
set_option maxRecDepth 20000 in
theorem kc_X7_look : Cond.code yX7_look cX7_look 3 (some .int) ∈ gl_T := (gl_T_in (by decide +kernel) (by decide +kernel))
theorem kl_X7_look : gl_Lk yX7_look 2 := ⟨by decide +kernel, by decide +kernel, by decide +kernel⟩
set_option maxRecDepth 20000 in
theorem ki_X7_look : Cond.initialized yX7_look.cls ∈ gl_T := (gl_T_in (by decide +kernel) (by decide +kernel))
set_option maxRecDepth 20000 in
theorem kn_X7_look : Cond.instanceMethod yX7_look ∈ gl_T := (gl_T_in (by decide +kernel) (by decide +kernel))
set_option maxRecDepth 20000 in
theorem kv_X7_look : Cond.selects RX7 yX7_look yX7_look ∈ gl_T := (gl_T_in (by decide +kernel) (by decide +kernel))
set_option maxRecDepth 20000 in
theorem kw_L_92 : Cond.methodLink RL 92 yX7_look ∈ gl_T ∧ Cond.instanceMethod yX7_look ∈ gl_T ∧ Cond.selects RX7 yX7_look yX7_look ∈ gl_T ∧ Cond.initialized yX7_look.cls ∈ gl_T ∧ Cond.code yX7_look cX7_look 3 (some .int) ∈ gl_T ∧ gl_Lk yX7_look 2 := ⟨(gl_T_in (by decide +kernel) (by decide +kernel)), kn_X7_look, kv_X7_look, ki_X7_look, kc_X7_look, kl_X7_look⟩
set_option maxRecDepth 20000 in
theorem kc_X6_about : Cond.code yX6_about cX6_about 4 (some .int) ∈ gl_T := (gl_T_in (by decide +kernel) (by decide +kernel))
theorem kl_X6_about : gl_Lk yX6_about 2 := ⟨by decide +kernel, by decide +kernel, by decide +kernel⟩
set_option maxRecDepth 20000 in
theorem ki_X6_about : Cond.initialized yX6_about.cls ∈ gl_T := (gl_T_in (by decide +kernel) (by decide +kernel))
set_option maxRecDepth 20000 in
theorem kn_X6_about : Cond.instanceMethod yX6_about ∈ gl_T := (gl_T_in (by decide +kernel) (by decide +kernel))
set_option maxRecDepth 20000 in
theorem kv_X6_about : Cond.selects RX6 yX6_about yX6_about ∈ gl_T := (gl_T_in (by decide +kernel) (by decide +kernel))
set_option maxRecDepth 20000 in
theorem kw_L_93 : Cond.methodLink RL 93 yX6_about ∈ gl_T ∧ Cond.instanceMethod yX6_about ∈ gl_T ∧ Cond.selects RX6 yX6_about yX6_about ∈ gl_T ∧ Cond.initialized yX6_about.cls ∈ gl_T ∧ Cond.code yX6_about cX6_about 4 (some .int) ∈ gl_T ∧ gl_Lk yX6_about 2 := ⟨(gl_T_in (by decide +kernel) (by decide +kernel)), kn_X6_about, kv_X6_about, ki_X6_about, kc_X6_about, kl_X6_about⟩
set_option maxRecDepth 20000 in
theorem kc_X7_about : Cond.code yX7_about cX7_about 3 (some .int) ∈ gl_T := (gl_T_in (by decide +kernel) (by decide +kernel))
theorem kl_X7_about : gl_Lk yX7_about 2 := ⟨by decide +kernel, by decide +kernel, by decide +kernel⟩
set_option maxRecDepth 20000 in
theorem ki_X7_about : Cond.initialized yX7_about.cls ∈ gl_T := (gl_T_in (by decide +kernel) (by decide +kernel))
set_option maxRecDepth 20000 in
theorem kn_X7_about : Cond.instanceMethod yX7_about ∈ gl_T := (gl_T_in (by decide +kernel) (by decide +kernel))
set_option maxRecDepth 20000 in
theorem kv_X7_about : Cond.selects RX7 yX7_about yX7_about ∈ gl_T := (gl_T_in (by decide +kernel) (by decide +kernel))
set_option maxRecDepth 20000 in
theorem kw_L_96 : Cond.methodLink RL 96 yX7_about ∈ gl_T ∧ Cond.instanceMethod yX7_about ∈ gl_T ∧ Cond.selects RX7 yX7_about yX7_about ∈ gl_T ∧ Cond.initialized yX7_about.cls ∈ gl_T ∧ Cond.code yX7_about cX7_about 3 (some .int) ∈ gl_T ∧ gl_Lk yX7_about 2 := ⟨(gl_T_in (by decide +kernel) (by decide +kernel)), kn_X7_about, kv_X7_about, ki_X7_about, kc_X7_about, kl_X7_about⟩
set_option maxRecDepth 20000 in
theorem kc_X6_count : Cond.code yX6_count cX6_count 2 (some .int) ∈ gl_T := (gl_T_in (by decide +kernel) (by decide +kernel))
theorem kl_X6_count : gl_Lk yX6_count 1 := ⟨by decide +kernel, by decide +kernel, by decide +kernel⟩
set_option maxRecDepth 20000 in
theorem ki_X6_count : Cond.initialized yX6_count.cls ∈ gl_T := (gl_T_in (by decide +kernel) (by decide +kernel))
set_option maxRecDepth 20000 in
theorem kn_X6_count : Cond.instanceMethod yX6_count ∈ gl_T := (gl_T_in (by decide +kernel) (by decide +kernel))
set_option maxRecDepth 20000 in
theorem kv_X6_count : Cond.selects RX6 yX6_count yX6_count ∈ gl_T := (gl_T_in (by decide +kernel) (by decide +kernel))
set_option maxRecDepth 20000 in
theorem kw_L_97 : Cond.methodLink RL 97 yX6_count ∈ gl_T ∧ Cond.instanceMethod yX6_count ∈ gl_T ∧ Cond.selects RX6 yX6_count yX6_count ∈ gl_T ∧ Cond.initialized yX6_count.cls ∈ gl_T ∧ Cond.code yX6_count cX6_count 2 (some .int) ∈ gl_T ∧ gl_Lk yX6_count 1 := ⟨(gl_T_in (by decide +kernel) (by decide +kernel)), kn_X6_count, kv_X6_count, ki_X6_count, kc_X6_count, kl_X6_count⟩
set_option maxRecDepth 20000 in
theorem kc_X7_count : Cond.code yX7_count cX7_count 2 (some .int) ∈ gl_T := (gl_T_in (by decide +kernel) (by decide +kernel))
theorem kl_X7_count : gl_Lk yX7_count 1 := ⟨by decide +kernel, by decide +kernel, by decide +kernel⟩
set_option maxRecDepth 20000 in
theorem ki_X7_count : Cond.initialized yX7_count.cls ∈ gl_T := (gl_T_in (by decide +kernel) (by decide +kernel))
set_option maxRecDepth 20000 in
theorem kn_X7_count : Cond.instanceMethod yX7_count ∈ gl_T := (gl_T_in (by decide +kernel) (by decide +kernel))
set_option maxRecDepth 20000 in
theorem kv_X7_count : Cond.selects RX7 yX7_count yX7_count ∈ gl_T := (gl_T_in (by decide +kernel) (by decide +kernel))
set_option maxRecDepth 20000 in
theorem kw_L_100 : Cond.methodLink RL 100 yX7_count ∈ gl_T ∧ Cond.instanceMethod yX7_count ∈ gl_T ∧ Cond.selects RX7 yX7_count yX7_count ∈ gl_T ∧ Cond.initialized yX7_count.cls ∈ gl_T ∧ Cond.code yX7_count cX7_count 2 (some .int) ∈ gl_T ∧ gl_Lk yX7_count 1 := ⟨(gl_T_in (by decide +kernel) (by decide +kernel)), kn_X7_count, kv_X7_count, ki_X7_count, kc_X7_count, kl_X7_count⟩
set_option maxRecDepth 20000 in
theorem kw_X0_1 : Cond.methodLink RX0 1 Lib.objectInit ∈ gl_T ∧ Cond.instanceMethod Lib.objectInit ∈ gl_T ∧ Cond.code Lib.objectInit ⟨#[0xb1]⟩ 1 none ∈ gl_T := ⟨(gl_T_in (by decide +kernel) (by decide +kernel)), (gl_T_in (by decide +kernel) (by decide +kernel)), (gl_T_in (by decide +kernel) (by decide +kernel))⟩
set_option maxRecDepth 20000 in
theorem kw_X1_5 : Cond.methodLink RX1 5 Lib.objectInit ∈ gl_T ∧ Cond.instanceMethod Lib.objectInit ∈ gl_T ∧ Cond.code Lib.objectInit ⟨#[0xb1]⟩ 1 none ∈ gl_T := ⟨(gl_T_in (by decide +kernel) (by decide +kernel)), (gl_T_in (by decide +kernel) (by decide +kernel)), (gl_T_in (by decide +kernel) (by decide +kernel))⟩
set_option maxRecDepth 20000 in
theorem kc_J7_fill_d0a16 : Cond.code yJ7_fill_d0a16 cJ7_fill_d0a16 5 none ∈ gl_T := (gl_T_in (by decide +kernel) (by decide +kernel))
theorem kl_J7_fill_d0a16 : gl_Lk yJ7_fill_d0a16 2 := ⟨by decide +kernel, by decide +kernel, by decide +kernel⟩
set_option maxRecDepth 20000 in
theorem ki_J7_fill_d0a16 : Cond.initialized yJ7_fill_d0a16.cls ∈ gl_T := (gl_T_in (by decide +kernel) (by decide +kernel))
set_option maxRecDepth 20000 in
theorem ks_J7_fill_d0a16 : Cond.static yJ7_fill_d0a16 ∈ gl_T := (gl_T_in (by decide +kernel) (by decide +kernel))
set_option maxRecDepth 20000 in
theorem kw_X1_32 : Cond.methodLink RX1 32 yJ7_fill_d0a16 ∈ gl_T ∧ Cond.static yJ7_fill_d0a16 ∈ gl_T ∧ Cond.initialized yJ7_fill_d0a16.cls ∈ gl_T ∧ Cond.code yJ7_fill_d0a16 cJ7_fill_d0a16 5 none ∈ gl_T ∧ gl_Lk yJ7_fill_d0a16 2 := ⟨(gl_T_in (by decide +kernel) (by decide +kernel)), ks_J7_fill_d0a16, ki_J7_fill_d0a16, kc_J7_fill_d0a16, kl_J7_fill_d0a16⟩
set_option maxRecDepth 20000 in
theorem kc_J7_fill_53178 : Cond.code yJ7_fill_53178 cJ7_fill_53178 4 none ∈ gl_T := (gl_T_in (by decide +kernel) (by decide +kernel))
theorem kl_J7_fill_53178 : gl_Lk yJ7_fill_53178 2 := ⟨by decide +kernel, by decide +kernel, by decide +kernel⟩
set_option maxRecDepth 20000 in
theorem ki_J7_fill_53178 : Cond.initialized yJ7_fill_53178.cls ∈ gl_T := (gl_T_in (by decide +kernel) (by decide +kernel))
set_option maxRecDepth 20000 in
theorem ks_J7_fill_53178 : Cond.static yJ7_fill_53178 ∈ gl_T := (gl_T_in (by decide +kernel) (by decide +kernel))
set_option maxRecDepth 20000 in
theorem kw_X1_38 : Cond.methodLink RX1 38 yJ7_fill_53178 ∈ gl_T ∧ Cond.static yJ7_fill_53178 ∈ gl_T ∧ Cond.initialized yJ7_fill_53178.cls ∈ gl_T ∧ Cond.code yJ7_fill_53178 cJ7_fill_53178 4 none ∈ gl_T ∧ gl_Lk yJ7_fill_53178 2 := ⟨(gl_T_in (by decide +kernel) (by decide +kernel)), ks_J7_fill_53178, ki_J7_fill_53178, kc_J7_fill_53178, kl_J7_fill_53178⟩
set_option maxRecDepth 20000 in
theorem kc_X1_isGap : Cond.code yX1_isGap cX1_isGap 1 (some .boolean) ∈ gl_T := (gl_T_in (by decide +kernel) (by decide +kernel))
theorem kl_X1_isGap : gl_Lk yX1_isGap 1 := ⟨by decide +kernel, by decide +kernel, by decide +kernel⟩
set_option maxRecDepth 20000 in
theorem ki_X1_isGap : Cond.initialized yX1_isGap.cls ∈ gl_T := (gl_T_in (by decide +kernel) (by decide +kernel))
set_option maxRecDepth 20000 in
theorem ks_X1_isGap : Cond.static yX1_isGap ∈ gl_T := (gl_T_in (by decide +kernel) (by decide +kernel))
set_option maxRecDepth 20000 in
theorem kw_X1_48 : Cond.methodLink RX1 48 yX1_isGap ∈ gl_T ∧ Cond.static yX1_isGap ∈ gl_T ∧ Cond.initialized yX1_isGap.cls ∈ gl_T ∧ Cond.code yX1_isGap cX1_isGap 1 (some .boolean) ∈ gl_T ∧ gl_Lk yX1_isGap 1 := ⟨(gl_T_in (by decide +kernel) (by decide +kernel)), ks_X1_isGap, ki_X1_isGap, kc_X1_isGap, kl_X1_isGap⟩
set_option maxRecDepth 20000 in
theorem kc_X1_digit : Cond.code yX1_digit cX1_digit 2 (some .long) ∈ gl_T := (gl_T_in (by decide +kernel) (by decide +kernel))
theorem kl_X1_digit : gl_Lk yX1_digit 2 := ⟨by decide +kernel, by decide +kernel, by decide +kernel⟩
set_option maxRecDepth 20000 in
theorem ki_X1_digit : Cond.initialized yX1_digit.cls ∈ gl_T := (gl_T_in (by decide +kernel) (by decide +kernel))
set_option maxRecDepth 20000 in
theorem ks_X1_digit : Cond.static yX1_digit ∈ gl_T := (gl_T_in (by decide +kernel) (by decide +kernel))
set_option maxRecDepth 20000 in
theorem kw_X1_54 : Cond.methodLink RX1 54 yX1_digit ∈ gl_T ∧ Cond.static yX1_digit ∈ gl_T ∧ Cond.initialized yX1_digit.cls ∈ gl_T ∧ Cond.code yX1_digit cX1_digit 2 (some .long) ∈ gl_T ∧ gl_Lk yX1_digit 2 := ⟨(gl_T_in (by decide +kernel) (by decide +kernel)), ks_X1_digit, ki_X1_digit, kc_X1_digit, kl_X1_digit⟩
set_option maxRecDepth 20000 in
theorem kc_X6_hasBit : Cond.code yX6_hasBit cX6_hasBit 2 (some .boolean) ∈ gl_T := (gl_T_in (by decide +kernel) (by decide +kernel))
theorem kl_X6_hasBit : gl_Lk yX6_hasBit 2 := ⟨by decide +kernel, by decide +kernel, by decide +kernel⟩
set_option maxRecDepth 20000 in
theorem ki_X6_hasBit : Cond.initialized yX6_hasBit.cls ∈ gl_T := (gl_T_in (by decide +kernel) (by decide +kernel))
set_option maxRecDepth 20000 in
theorem ks_X6_hasBit : Cond.static yX6_hasBit ∈ gl_T := (gl_T_in (by decide +kernel) (by decide +kernel))
set_option maxRecDepth 20000 in
theorem kw_X1_58 : Cond.static yX6_hasBit ∈ gl_T ∧ Cond.initialized yX6_hasBit.cls ∈ gl_T ∧ Cond.code yX6_hasBit cX6_hasBit 2 (some .boolean) ∈ gl_T ∧ gl_Lk yX6_hasBit 2 := ⟨ks_X6_hasBit, ki_X6_hasBit, kc_X6_hasBit, kl_X6_hasBit⟩
set_option maxRecDepth 20000 in
theorem kc_X1_bringIn : Cond.code yX1_bringIn cX1_bringIn 8 none ∈ gl_T := (gl_T_in (by decide +kernel) (by decide +kernel))
theorem kl_X1_bringIn : gl_Lk yX1_bringIn 1 := ⟨by decide +kernel, by decide +kernel, by decide +kernel⟩
set_option maxRecDepth 20000 in
theorem ki_X1_bringIn : Cond.initialized yX1_bringIn.cls ∈ gl_T := (gl_T_in (by decide +kernel) (by decide +kernel))
set_option maxRecDepth 20000 in
theorem kn_X1_bringIn : Cond.instanceMethod yX1_bringIn ∈ gl_T := (gl_T_in (by decide +kernel) (by decide +kernel))
set_option maxRecDepth 20000 in
theorem kv_X1_bringIn : Cond.selects RX1 yX1_bringIn yX1_bringIn ∈ gl_T := (gl_T_in (by decide +kernel) (by decide +kernel))
set_option maxRecDepth 20000 in
theorem kw_X1_62 : Cond.methodLink RX1 62 yX1_bringIn ∈ gl_T ∧ Cond.instanceMethod yX1_bringIn ∈ gl_T ∧ Cond.selects RX1 yX1_bringIn yX1_bringIn ∈ gl_T ∧ Cond.initialized yX1_bringIn.cls ∈ gl_T ∧ Cond.code yX1_bringIn cX1_bringIn 8 none ∈ gl_T ∧ gl_Lk yX1_bringIn 1 := ⟨(gl_T_in (by decide +kernel) (by decide +kernel)), kn_X1_bringIn, kv_X1_bringIn, ki_X1_bringIn, kc_X1_bringIn, kl_X1_bringIn⟩
set_option maxRecDepth 20000 in
theorem kc_X1_weightOf : Cond.code yX1_weightOf cX1_weightOf 3 (some .long) ∈ gl_T := (gl_T_in (by decide +kernel) (by decide +kernel))
theorem kl_X1_weightOf : gl_Lk yX1_weightOf 2 := ⟨by decide +kernel, by decide +kernel, by decide +kernel⟩
set_option maxRecDepth 20000 in
theorem ki_X1_weightOf : Cond.initialized yX1_weightOf.cls ∈ gl_T := (gl_T_in (by decide +kernel) (by decide +kernel))
set_option maxRecDepth 20000 in
theorem kn_X1_weightOf : Cond.instanceMethod yX1_weightOf ∈ gl_T := (gl_T_in (by decide +kernel) (by decide +kernel))
set_option maxRecDepth 20000 in
theorem kv_X1_weightOf : Cond.selects RX1 yX1_weightOf yX1_weightOf ∈ gl_T := (gl_T_in (by decide +kernel) (by decide +kernel))
set_option maxRecDepth 20000 in
theorem kw_X1_66 : Cond.methodLink RX1 66 yX1_weightOf ∈ gl_T ∧ Cond.instanceMethod yX1_weightOf ∈ gl_T ∧ Cond.selects RX1 yX1_weightOf yX1_weightOf ∈ gl_T ∧ Cond.initialized yX1_weightOf.cls ∈ gl_T ∧ Cond.code yX1_weightOf cX1_weightOf 3 (some .long) ∈ gl_T ∧ gl_Lk yX1_weightOf 2 := ⟨(gl_T_in (by decide +kernel) (by decide +kernel)), kn_X1_weightOf, kv_X1_weightOf, ki_X1_weightOf, kc_X1_weightOf, kl_X1_weightOf⟩
set_option maxRecDepth 20000 in
theorem kc_J6_bitCount_0f7a4 : Cond.code yJ6_bitCount_0f7a4 cJ6_bitCount_0f7a4 1 (some .int) ∈ gl_T := (gl_T_in (by decide +kernel) (by decide +kernel))
theorem kl_J6_bitCount_0f7a4 : gl_Lk yJ6_bitCount_0f7a4 1 := ⟨by decide +kernel, by decide +kernel, by decide +kernel⟩
set_option maxRecDepth 20000 in
theorem ki_J6_bitCount_0f7a4 : Cond.initialized yJ6_bitCount_0f7a4.cls ∈ gl_T := (gl_T_in (by decide +kernel) (by decide +kernel))
set_option maxRecDepth 20000 in
theorem ks_J6_bitCount_0f7a4 : Cond.static yJ6_bitCount_0f7a4 ∈ gl_T := (gl_T_in (by decide +kernel) (by decide +kernel))
set_option maxRecDepth 20000 in
theorem kw_X1_69 : Cond.methodLink RX1 69 yJ6_bitCount_0f7a4 ∈ gl_T ∧ Cond.static yJ6_bitCount_0f7a4 ∈ gl_T ∧ Cond.initialized yJ6_bitCount_0f7a4.cls ∈ gl_T ∧ Cond.code yJ6_bitCount_0f7a4 cJ6_bitCount_0f7a4 1 (some .int) ∈ gl_T ∧ gl_Lk yJ6_bitCount_0f7a4 1 := ⟨(gl_T_in (by decide +kernel) (by decide +kernel)), ks_J6_bitCount_0f7a4, ki_J6_bitCount_0f7a4, kc_J6_bitCount_0f7a4, kl_J6_bitCount_0f7a4⟩
set_option maxRecDepth 20000 in
theorem kc_X1_takersOf : Cond.code yX1_takersOf cX1_takersOf 4 (some .int) ∈ gl_T := (gl_T_in (by decide +kernel) (by decide +kernel))
theorem kl_X1_takersOf : gl_Lk yX1_takersOf 1 := ⟨by decide +kernel, by decide +kernel, by decide +kernel⟩
set_option maxRecDepth 20000 in
theorem ki_X1_takersOf : Cond.initialized yX1_takersOf.cls ∈ gl_T := (gl_T_in (by decide +kernel) (by decide +kernel))
set_option maxRecDepth 20000 in
theorem kn_X1_takersOf : Cond.instanceMethod yX1_takersOf ∈ gl_T := (gl_T_in (by decide +kernel) (by decide +kernel))
set_option maxRecDepth 20000 in
theorem kv_X1_takersOf : Cond.selects RX1 yX1_takersOf yX1_takersOf ∈ gl_T := (gl_T_in (by decide +kernel) (by decide +kernel))
set_option maxRecDepth 20000 in
theorem kw_X1_75 : Cond.methodLink RX1 75 yX1_takersOf ∈ gl_T ∧ Cond.instanceMethod yX1_takersOf ∈ gl_T ∧ Cond.selects RX1 yX1_takersOf yX1_takersOf ∈ gl_T ∧ Cond.initialized yX1_takersOf.cls ∈ gl_T ∧ Cond.code yX1_takersOf cX1_takersOf 4 (some .int) ∈ gl_T ∧ gl_Lk yX1_takersOf 1 := ⟨(gl_T_in (by decide +kernel) (by decide +kernel)), kn_X1_takersOf, kv_X1_takersOf, ki_X1_takersOf, kc_X1_takersOf, kl_X1_takersOf⟩
set_option maxRecDepth 20000 in
theorem kc_X1_findChains : Cond.code yX1_findChains cX1_findChains 5 none ∈ gl_T := (gl_T_in (by decide +kernel) (by decide +kernel))
theorem kl_X1_findChains : gl_Lk yX1_findChains 1 := ⟨by decide +kernel, by decide +kernel, by decide +kernel⟩
set_option maxRecDepth 20000 in
theorem ki_X1_findChains : Cond.initialized yX1_findChains.cls ∈ gl_T := (gl_T_in (by decide +kernel) (by decide +kernel))
set_option maxRecDepth 20000 in
theorem kn_X1_findChains : Cond.instanceMethod yX1_findChains ∈ gl_T := (gl_T_in (by decide +kernel) (by decide +kernel))
set_option maxRecDepth 20000 in
theorem kv_X1_findChains : Cond.selects RX1 yX1_findChains yX1_findChains ∈ gl_T := (gl_T_in (by decide +kernel) (by decide +kernel))
set_option maxRecDepth 20000 in
theorem kw_X1_78 : Cond.methodLink RX1 78 yX1_findChains ∈ gl_T ∧ Cond.instanceMethod yX1_findChains ∈ gl_T ∧ Cond.selects RX1 yX1_findChains yX1_findChains ∈ gl_T ∧ Cond.initialized yX1_findChains.cls ∈ gl_T ∧ Cond.code yX1_findChains cX1_findChains 5 none ∈ gl_T ∧ gl_Lk yX1_findChains 1 := ⟨(gl_T_in (by decide +kernel) (by decide +kernel)), kn_X1_findChains, kv_X1_findChains, ki_X1_findChains, kc_X1_findChains, kl_X1_findChains⟩
set_option maxRecDepth 20000 in
theorem kc_X1_cheapestEnd : Cond.code yX1_cheapestEnd cX1_cheapestEnd 5 (some .int) ∈ gl_T := (gl_T_in (by decide +kernel) (by decide +kernel))
theorem kl_X1_cheapestEnd : gl_Lk yX1_cheapestEnd 1 := ⟨by decide +kernel, by decide +kernel, by decide +kernel⟩
set_option maxRecDepth 20000 in
theorem ki_X1_cheapestEnd : Cond.initialized yX1_cheapestEnd.cls ∈ gl_T := (gl_T_in (by decide +kernel) (by decide +kernel))
set_option maxRecDepth 20000 in
theorem kn_X1_cheapestEnd : Cond.instanceMethod yX1_cheapestEnd ∈ gl_T := (gl_T_in (by decide +kernel) (by decide +kernel))
set_option maxRecDepth 20000 in
theorem kv_X1_cheapestEnd : Cond.selects RX1 yX1_cheapestEnd yX1_cheapestEnd ∈ gl_T := (gl_T_in (by decide +kernel) (by decide +kernel))
set_option maxRecDepth 20000 in
theorem kw_X1_83 : Cond.methodLink RX1 83 yX1_cheapestEnd ∈ gl_T ∧ Cond.instanceMethod yX1_cheapestEnd ∈ gl_T ∧ Cond.selects RX1 yX1_cheapestEnd yX1_cheapestEnd ∈ gl_T ∧ Cond.initialized yX1_cheapestEnd.cls ∈ gl_T ∧ Cond.code yX1_cheapestEnd cX1_cheapestEnd 5 (some .int) ∈ gl_T ∧ gl_Lk yX1_cheapestEnd 1 := ⟨(gl_T_in (by decide +kernel) (by decide +kernel)), kn_X1_cheapestEnd, kv_X1_cheapestEnd, ki_X1_cheapestEnd, kc_X1_cheapestEnd, kl_X1_cheapestEnd⟩
set_option maxRecDepth 20000 in
theorem kc_X1_shiftAlong : Cond.code yX1_shiftAlong cX1_shiftAlong 8 none ∈ gl_T := (gl_T_in (by decide +kernel) (by decide +kernel))
theorem kl_X1_shiftAlong : gl_Lk yX1_shiftAlong 3 := ⟨by decide +kernel, by decide +kernel, by decide +kernel⟩
set_option maxRecDepth 20000 in
theorem ki_X1_shiftAlong : Cond.initialized yX1_shiftAlong.cls ∈ gl_T := (gl_T_in (by decide +kernel) (by decide +kernel))
set_option maxRecDepth 20000 in
theorem kn_X1_shiftAlong : Cond.instanceMethod yX1_shiftAlong ∈ gl_T := (gl_T_in (by decide +kernel) (by decide +kernel))
set_option maxRecDepth 20000 in
theorem kv_X1_shiftAlong : Cond.selects RX1 yX1_shiftAlong yX1_shiftAlong ∈ gl_T := (gl_T_in (by decide +kernel) (by decide +kernel))
set_option maxRecDepth 20000 in
theorem kw_X1_86 : Cond.methodLink RX1 86 yX1_shiftAlong ∈ gl_T ∧ Cond.instanceMethod yX1_shiftAlong ∈ gl_T ∧ Cond.selects RX1 yX1_shiftAlong yX1_shiftAlong ∈ gl_T ∧ Cond.initialized yX1_shiftAlong.cls ∈ gl_T ∧ Cond.code yX1_shiftAlong cX1_shiftAlong 8 none ∈ gl_T ∧ gl_Lk yX1_shiftAlong 3 := ⟨(gl_T_in (by decide +kernel) (by decide +kernel)), kn_X1_shiftAlong, kv_X1_shiftAlong, ki_X1_shiftAlong, kc_X1_shiftAlong, kl_X1_shiftAlong⟩
set_option maxRecDepth 20000 in
theorem kc_X1_lengthenChains : Cond.code yX1_lengthenChains cX1_lengthenChains 8 (some .boolean) ∈ gl_T := (gl_T_in (by decide +kernel) (by decide +kernel))
theorem kl_X1_lengthenChains : gl_Lk yX1_lengthenChains 2 := ⟨by decide +kernel, by decide +kernel, by decide +kernel⟩
set_option maxRecDepth 20000 in
theorem ki_X1_lengthenChains : Cond.initialized yX1_lengthenChains.cls ∈ gl_T := (gl_T_in (by decide +kernel) (by decide +kernel))
set_option maxRecDepth 20000 in
theorem kn_X1_lengthenChains : Cond.instanceMethod yX1_lengthenChains ∈ gl_T := (gl_T_in (by decide +kernel) (by decide +kernel))
set_option maxRecDepth 20000 in
theorem kv_X1_lengthenChains : Cond.selects RX1 yX1_lengthenChains yX1_lengthenChains ∈ gl_T := (gl_T_in (by decide +kernel) (by decide +kernel))
set_option maxRecDepth 20000 in
theorem kw_X1_90 : Cond.methodLink RX1 90 yX1_lengthenChains ∈ gl_T ∧ Cond.instanceMethod yX1_lengthenChains ∈ gl_T ∧ Cond.selects RX1 yX1_lengthenChains yX1_lengthenChains ∈ gl_T ∧ Cond.initialized yX1_lengthenChains.cls ∈ gl_T ∧ Cond.code yX1_lengthenChains cX1_lengthenChains 8 (some .boolean) ∈ gl_T ∧ gl_Lk yX1_lengthenChains 2 := ⟨(gl_T_in (by decide +kernel) (by decide +kernel)), kn_X1_lengthenChains, kv_X1_lengthenChains, ki_X1_lengthenChains, kc_X1_lengthenChains, kl_X1_lengthenChains⟩
set_option maxRecDepth 20000 in
theorem kw_X2_3 : Cond.methodLink RX2 3 Lib.objectInit ∈ gl_T ∧ Cond.instanceMethod Lib.objectInit ∈ gl_T ∧ Cond.code Lib.objectInit ⟨#[0xb1]⟩ 1 none ∈ gl_T := ⟨(gl_T_in (by decide +kernel) (by decide +kernel)), (gl_T_in (by decide +kernel) (by decide +kernel)), (gl_T_in (by decide +kernel) (by decide +kernel))⟩
set_option maxRecDepth 20000 in
theorem kw_X2_21 : Cond.methodLink RX2 21 arraycopyName ∈ gl_T ∧ Cond.native arraycopyName ∈ gl_T ∧ Cond.static arraycopyName ∈ gl_T ∧ Cond.initialized "java/lang/System" ∈ gl_T := ⟨(gl_T_in (by decide +kernel) (by decide +kernel)), (gl_T_in (by decide +kernel) (by decide +kernel)), (gl_T_in (by decide +kernel) (by decide +kernel)), (gl_T_in (by decide +kernel) (by decide +kernel))⟩
set_option maxRecDepth 20000 in
theorem kc_X2_readClause : Cond.code yX2_readClause cX2_readClause 6 (some .int) ∈ gl_T := (gl_T_in (by decide +kernel) (by decide +kernel))
theorem kl_X2_readClause : gl_Lk yX2_readClause 2 := ⟨by decide +kernel, by decide +kernel, by decide +kernel⟩
set_option maxRecDepth 20000 in
theorem ki_X2_readClause : Cond.initialized yX2_readClause.cls ∈ gl_T := (gl_T_in (by decide +kernel) (by decide +kernel))
set_option maxRecDepth 20000 in
theorem kn_X2_readClause : Cond.instanceMethod yX2_readClause ∈ gl_T := (gl_T_in (by decide +kernel) (by decide +kernel))
set_option maxRecDepth 20000 in
theorem kv_X2_readClause : Cond.selects RX2 yX2_readClause yX2_readClause ∈ gl_T := (gl_T_in (by decide +kernel) (by decide +kernel))
set_option maxRecDepth 20000 in
theorem kw_X2_31 : Cond.methodLink RX2 31 yX2_readClause ∈ gl_T ∧ Cond.instanceMethod yX2_readClause ∈ gl_T ∧ Cond.selects RX2 yX2_readClause yX2_readClause ∈ gl_T ∧ Cond.initialized yX2_readClause.cls ∈ gl_T ∧ Cond.code yX2_readClause cX2_readClause 6 (some .int) ∈ gl_T ∧ gl_Lk yX2_readClause 2 := ⟨(gl_T_in (by decide +kernel) (by decide +kernel)), kn_X2_readClause, kv_X2_readClause, ki_X2_readClause, kc_X2_readClause, kl_X2_readClause⟩
set_option maxRecDepth 20000 in
theorem kc_X3_signAt : Cond.code yX3_signAt cX3_signAt 3 (some .int) ∈ gl_T := (gl_T_in (by decide +kernel) (by decide +kernel))
theorem kl_X3_signAt : gl_Lk yX3_signAt 2 := ⟨by decide +kernel, by decide +kernel, by decide +kernel⟩
set_option maxRecDepth 20000 in
theorem ki_X3_signAt : Cond.initialized yX3_signAt.cls ∈ gl_T := (gl_T_in (by decide +kernel) (by decide +kernel))
set_option maxRecDepth 20000 in
theorem kn_X3_signAt : Cond.instanceMethod yX3_signAt ∈ gl_T := (gl_T_in (by decide +kernel) (by decide +kernel))
set_option maxRecDepth 20000 in
theorem kv_X3_signAt : Cond.selects RX3 yX3_signAt yX3_signAt ∈ gl_T := (gl_T_in (by decide +kernel) (by decide +kernel))
set_option maxRecDepth 20000 in
theorem kw_X2_35 : Cond.methodLink RX2 35 yX3_signAt ∈ gl_T ∧ Cond.instanceMethod yX3_signAt ∈ gl_T ∧ Cond.selects RX3 yX3_signAt yX3_signAt ∈ gl_T ∧ Cond.initialized yX3_signAt.cls ∈ gl_T ∧ Cond.code yX3_signAt cX3_signAt 3 (some .int) ∈ gl_T ∧ gl_Lk yX3_signAt 2 := ⟨(gl_T_in (by decide +kernel) (by decide +kernel)), kn_X3_signAt, kv_X3_signAt, ki_X3_signAt, kc_X3_signAt, kl_X3_signAt⟩
set_option maxRecDepth 20000 in
theorem kc_X2_kindOf : Cond.code yX2_kindOf cX2_kindOf 2 (some .int) ∈ gl_T := (gl_T_in (by decide +kernel) (by decide +kernel))
theorem kl_X2_kindOf : gl_Lk yX2_kindOf 1 := ⟨by decide +kernel, by decide +kernel, by decide +kernel⟩
set_option maxRecDepth 20000 in
theorem ki_X2_kindOf : Cond.initialized yX2_kindOf.cls ∈ gl_T := (gl_T_in (by decide +kernel) (by decide +kernel))
set_option maxRecDepth 20000 in
theorem ks_X2_kindOf : Cond.static yX2_kindOf ∈ gl_T := (gl_T_in (by decide +kernel) (by decide +kernel))
set_option maxRecDepth 20000 in
theorem kw_X2_41 : Cond.methodLink RX2 41 yX2_kindOf ∈ gl_T ∧ Cond.static yX2_kindOf ∈ gl_T ∧ Cond.initialized yX2_kindOf.cls ∈ gl_T ∧ Cond.code yX2_kindOf cX2_kindOf 2 (some .int) ∈ gl_T ∧ gl_Lk yX2_kindOf 1 := ⟨(gl_T_in (by decide +kernel) (by decide +kernel)), ks_X2_kindOf, ki_X2_kindOf, kc_X2_kindOf, kl_X2_kindOf⟩
set_option maxRecDepth 20000 in
theorem kc_X2_isDigit : Cond.code yX2_isDigit cX2_isDigit 1 (some .boolean) ∈ gl_T := (gl_T_in (by decide +kernel) (by decide +kernel))
theorem kl_X2_isDigit : gl_Lk yX2_isDigit 1 := ⟨by decide +kernel, by decide +kernel, by decide +kernel⟩
set_option maxRecDepth 20000 in
theorem ki_X2_isDigit : Cond.initialized yX2_isDigit.cls ∈ gl_T := (gl_T_in (by decide +kernel) (by decide +kernel))
set_option maxRecDepth 20000 in
theorem ks_X2_isDigit : Cond.static yX2_isDigit ∈ gl_T := (gl_T_in (by decide +kernel) (by decide +kernel))
set_option maxRecDepth 20000 in
theorem kw_X2_45 : Cond.methodLink RX2 45 yX2_isDigit ∈ gl_T ∧ Cond.static yX2_isDigit ∈ gl_T ∧ Cond.initialized yX2_isDigit.cls ∈ gl_T ∧ Cond.code yX2_isDigit cX2_isDigit 1 (some .boolean) ∈ gl_T ∧ gl_Lk yX2_isDigit 1 := ⟨(gl_T_in (by decide +kernel) (by decide +kernel)), ks_X2_isDigit, ki_X2_isDigit, kc_X2_isDigit, kl_X2_isDigit⟩
set_option maxRecDepth 20000 in
theorem kc_X2_readDigits : Cond.code yX2_readDigits cX2_readDigits 5 (some .int) ∈ gl_T := (gl_T_in (by decide +kernel) (by decide +kernel))
theorem kl_X2_readDigits : gl_Lk yX2_readDigits 2 := ⟨by decide +kernel, by decide +kernel, by decide +kernel⟩
set_option maxRecDepth 20000 in
theorem ki_X2_readDigits : Cond.initialized yX2_readDigits.cls ∈ gl_T := (gl_T_in (by decide +kernel) (by decide +kernel))
set_option maxRecDepth 20000 in
theorem kn_X2_readDigits : Cond.instanceMethod yX2_readDigits ∈ gl_T := (gl_T_in (by decide +kernel) (by decide +kernel))
set_option maxRecDepth 20000 in
theorem kv_X2_readDigits : Cond.selects RX2 yX2_readDigits yX2_readDigits ∈ gl_T := (gl_T_in (by decide +kernel) (by decide +kernel))
set_option maxRecDepth 20000 in
theorem kw_X2_49 : Cond.methodLink RX2 49 yX2_readDigits ∈ gl_T ∧ Cond.instanceMethod yX2_readDigits ∈ gl_T ∧ Cond.selects RX2 yX2_readDigits yX2_readDigits ∈ gl_T ∧ Cond.initialized yX2_readDigits.cls ∈ gl_T ∧ Cond.code yX2_readDigits cX2_readDigits 5 (some .int) ∈ gl_T ∧ gl_Lk yX2_readDigits 2 := ⟨(gl_T_in (by decide +kernel) (by decide +kernel)), kn_X2_readDigits, kv_X2_readDigits, ki_X2_readDigits, kc_X2_readDigits, kl_X2_readDigits⟩
set_option maxRecDepth 20000 in
theorem kw_X3_3 : Cond.methodLink RX3 3 Lib.objectInit ∈ gl_T ∧ Cond.instanceMethod Lib.objectInit ∈ gl_T ∧ Cond.code Lib.objectInit ⟨#[0xb1]⟩ 1 none ∈ gl_T := ⟨(gl_T_in (by decide +kernel) (by decide +kernel)), (gl_T_in (by decide +kernel) (by decide +kernel)), (gl_T_in (by decide +kernel) (by decide +kernel))⟩
set_option maxRecDepth 20000 in
theorem kw_X4_3 : Cond.methodLink RX4 3 Lib.objectInit ∈ gl_T ∧ Cond.instanceMethod Lib.objectInit ∈ gl_T ∧ Cond.code Lib.objectInit ⟨#[0xb1]⟩ 1 none ∈ gl_T := ⟨(gl_T_in (by decide +kernel) (by decide +kernel)), (gl_T_in (by decide +kernel) (by decide +kernel)), (gl_T_in (by decide +kernel) (by decide +kernel))⟩
set_option maxRecDepth 20000 in
theorem kw_X4_25 : Cond.methodLink RX4 25 yJ7_fill_53178 ∈ gl_T ∧ Cond.static yJ7_fill_53178 ∈ gl_T ∧ Cond.initialized yJ7_fill_53178.cls ∈ gl_T ∧ Cond.code yJ7_fill_53178 cJ7_fill_53178 4 none ∈ gl_T ∧ gl_Lk yJ7_fill_53178 2 := ⟨(gl_T_in (by decide +kernel) (by decide +kernel)), ks_J7_fill_53178, ki_J7_fill_53178, kc_J7_fill_53178, kl_J7_fill_53178⟩
set_option maxRecDepth 20000 in
theorem kc_X4_startDay : Cond.code yX4_startDay cX4_startDay 1 none ∈ gl_T := (gl_T_in (by decide +kernel) (by decide +kernel))
theorem kl_X4_startDay : gl_Lk yX4_startDay 0 := ⟨by decide +kernel, by decide +kernel, by decide +kernel⟩
set_option maxRecDepth 20000 in
theorem ki_X4_startDay : Cond.initialized yX4_startDay.cls ∈ gl_T := (gl_T_in (by decide +kernel) (by decide +kernel))
set_option maxRecDepth 20000 in
theorem kn_X4_startDay : Cond.instanceMethod yX4_startDay ∈ gl_T := (gl_T_in (by decide +kernel) (by decide +kernel))
set_option maxRecDepth 20000 in
theorem kv_X4_startDay : Cond.selects RX4 yX4_startDay yX4_startDay ∈ gl_T := (gl_T_in (by decide +kernel) (by decide +kernel))
set_option maxRecDepth 20000 in
theorem kw_X4_31 : Cond.methodLink RX4 31 yX4_startDay ∈ gl_T ∧ Cond.instanceMethod yX4_startDay ∈ gl_T ∧ Cond.selects RX4 yX4_startDay yX4_startDay ∈ gl_T ∧ Cond.initialized yX4_startDay.cls ∈ gl_T ∧ Cond.code yX4_startDay cX4_startDay 1 none ∈ gl_T ∧ gl_Lk yX4_startDay 0 := ⟨(gl_T_in (by decide +kernel) (by decide +kernel)), kn_X4_startDay, kv_X4_startDay, ki_X4_startDay, kc_X4_startDay, kl_X4_startDay⟩
set_option maxRecDepth 20000 in
theorem kw_X4_48 : Cond.static yX6_hasBit ∈ gl_T ∧ Cond.initialized yX6_hasBit.cls ∈ gl_T ∧ Cond.code yX6_hasBit cX6_hasBit 2 (some .boolean) ∈ gl_T ∧ gl_Lk yX6_hasBit 2 := ⟨ks_X6_hasBit, ki_X6_hasBit, kc_X6_hasBit, kl_X6_hasBit⟩
set_option maxRecDepth 20000 in
theorem kc_X4_minutesTo : Cond.code yX4_minutesTo cX4_minutesTo 2 (some .int) ∈ gl_T := (gl_T_in (by decide +kernel) (by decide +kernel))
theorem kl_X4_minutesTo : gl_Lk yX4_minutesTo 1 := ⟨by decide +kernel, by decide +kernel, by decide +kernel⟩
set_option maxRecDepth 20000 in
theorem ki_X4_minutesTo : Cond.initialized yX4_minutesTo.cls ∈ gl_T := (gl_T_in (by decide +kernel) (by decide +kernel))
set_option maxRecDepth 20000 in
theorem kn_X4_minutesTo : Cond.instanceMethod yX4_minutesTo ∈ gl_T := (gl_T_in (by decide +kernel) (by decide +kernel))
set_option maxRecDepth 20000 in
theorem kv_X4_minutesTo : Cond.selects RX4 yX4_minutesTo yX4_minutesTo ∈ gl_T := (gl_T_in (by decide +kernel) (by decide +kernel))
set_option maxRecDepth 20000 in
theorem kw_X4_58 : Cond.methodLink RX4 58 yX4_minutesTo ∈ gl_T ∧ Cond.instanceMethod yX4_minutesTo ∈ gl_T ∧ Cond.selects RX4 yX4_minutesTo yX4_minutesTo ∈ gl_T ∧ Cond.initialized yX4_minutesTo.cls ∈ gl_T ∧ Cond.code yX4_minutesTo cX4_minutesTo 2 (some .int) ∈ gl_T ∧ gl_Lk yX4_minutesTo 1 := ⟨(gl_T_in (by decide +kernel) (by decide +kernel)), kn_X4_minutesTo, kv_X4_minutesTo, ki_X4_minutesTo, kc_X4_minutesTo, kl_X4_minutesTo⟩
set_option maxRecDepth 20000 in
theorem kc_X2_number : Cond.code yX2_number cX2_number 2 (some .int) ∈ gl_T := (gl_T_in (by decide +kernel) (by decide +kernel))
theorem kl_X2_number : gl_Lk yX2_number 1 := ⟨by decide +kernel, by decide +kernel, by decide +kernel⟩
set_option maxRecDepth 20000 in
theorem ki_X2_number : Cond.initialized yX2_number.cls ∈ gl_T := (gl_T_in (by decide +kernel) (by decide +kernel))
set_option maxRecDepth 20000 in
theorem kn_X2_number : Cond.instanceMethod yX2_number ∈ gl_T := (gl_T_in (by decide +kernel) (by decide +kernel))
set_option maxRecDepth 20000 in
theorem kv_X2_number : Cond.selects RX2 yX2_number yX2_number ∈ gl_T := (gl_T_in (by decide +kernel) (by decide +kernel))
set_option maxRecDepth 20000 in
theorem kw_X4_64 : Cond.methodLink RX4 64 yX2_number ∈ gl_T ∧ Cond.instanceMethod yX2_number ∈ gl_T ∧ Cond.selects RX2 yX2_number yX2_number ∈ gl_T ∧ Cond.initialized yX2_number.cls ∈ gl_T ∧ Cond.code yX2_number cX2_number 2 (some .int) ∈ gl_T ∧ gl_Lk yX2_number 1 := ⟨(gl_T_in (by decide +kernel) (by decide +kernel)), kn_X2_number, kv_X2_number, ki_X2_number, kc_X2_number, kl_X2_number⟩
set_option maxRecDepth 20000 in
theorem kw_X4_76 : Cond.methodLink RX4 76 Lib.Math.max.name ∈ gl_T ∧ Cond.static Lib.Math.max.name ∈ gl_T ∧ Cond.initialized "java/lang/Math" ∈ gl_T ∧ Cond.code Lib.Math.max.name Lib.Math.max.code 2 (some .int) ∈ gl_T := ⟨(gl_T_in (by decide +kernel) (by decide +kernel)), (gl_T_in (by decide +kernel) (by decide +kernel)), (gl_T_in (by decide +kernel) (by decide +kernel)), (gl_T_in (by decide +kernel) (by decide +kernel))⟩
set_option maxRecDepth 20000 in
theorem kw_X5_3 : Cond.methodLink RX5 3 Lib.objectInit ∈ gl_T ∧ Cond.instanceMethod Lib.objectInit ∈ gl_T ∧ Cond.code Lib.objectInit ⟨#[0xb1]⟩ 1 none ∈ gl_T := ⟨(gl_T_in (by decide +kernel) (by decide +kernel)), (gl_T_in (by decide +kernel) (by decide +kernel)), (gl_T_in (by decide +kernel) (by decide +kernel))⟩
set_option maxRecDepth 20000 in
theorem kc_X5_roomOf : Cond.code yX5_roomOf cX5_roomOf 2 (some .int) ∈ gl_T := (gl_T_in (by decide +kernel) (by decide +kernel))
theorem kl_X5_roomOf : gl_Lk yX5_roomOf 2 := ⟨by decide +kernel, by decide +kernel, by decide +kernel⟩
set_option maxRecDepth 20000 in
theorem ki_X5_roomOf : Cond.initialized yX5_roomOf.cls ∈ gl_T := (gl_T_in (by decide +kernel) (by decide +kernel))
set_option maxRecDepth 20000 in
theorem ks_X5_roomOf : Cond.static yX5_roomOf ∈ gl_T := (gl_T_in (by decide +kernel) (by decide +kernel))
set_option maxRecDepth 20000 in
theorem kw_X5_34 : Cond.methodLink RX5 34 yX5_roomOf ∈ gl_T ∧ Cond.static yX5_roomOf ∈ gl_T ∧ Cond.initialized yX5_roomOf.cls ∈ gl_T ∧ Cond.code yX5_roomOf cX5_roomOf 2 (some .int) ∈ gl_T ∧ gl_Lk yX5_roomOf 2 := ⟨(gl_T_in (by decide +kernel) (by decide +kernel)), ks_X5_roomOf, ki_X5_roomOf, kc_X5_roomOf, kl_X5_roomOf⟩
set_option maxRecDepth 20000 in
theorem kw_X5_41 : Cond.methodLink RX5 41 Lib.Math.min.name ∈ gl_T ∧ Cond.static Lib.Math.min.name ∈ gl_T ∧ Cond.initialized "java/lang/Math" ∈ gl_T ∧ Cond.code Lib.Math.min.name Lib.Math.min.code 2 (some .int) ∈ gl_T := ⟨(gl_T_in (by decide +kernel) (by decide +kernel)), (gl_T_in (by decide +kernel) (by decide +kernel)), (gl_T_in (by decide +kernel) (by decide +kernel)), (gl_T_in (by decide +kernel) (by decide +kernel))⟩
set_option maxRecDepth 20000 in
theorem kw_X5_46 : Cond.methodLink RX5 46 yJ6_bitCount_0f7a4 ∈ gl_T ∧ Cond.static yJ6_bitCount_0f7a4 ∈ gl_T ∧ Cond.initialized yJ6_bitCount_0f7a4.cls ∈ gl_T ∧ Cond.code yJ6_bitCount_0f7a4 cJ6_bitCount_0f7a4 1 (some .int) ∈ gl_T ∧ gl_Lk yJ6_bitCount_0f7a4 1 := ⟨(gl_T_in (by decide +kernel) (by decide +kernel)), ks_J6_bitCount_0f7a4, ki_J6_bitCount_0f7a4, kc_J6_bitCount_0f7a4, kl_J6_bitCount_0f7a4⟩
set_option maxRecDepth 20000 in
theorem kw_X6_1 : Cond.methodLink RX6 1 Lib.objectInit ∈ gl_T ∧ Cond.instanceMethod Lib.objectInit ∈ gl_T ∧ Cond.code Lib.objectInit ⟨#[0xb1]⟩ 1 none ∈ gl_T := ⟨(gl_T_in (by decide +kernel) (by decide +kernel)), (gl_T_in (by decide +kernel) (by decide +kernel)), (gl_T_in (by decide +kernel) (by decide +kernel))⟩
set_option maxRecDepth 20000 in
theorem kc_X3_init : Cond.code yX3_init cX3_init 1 none ∈ gl_T := (gl_T_in (by decide +kernel) (by decide +kernel))
theorem kl_X3_init : gl_Lk yX3_init 0 := ⟨by decide +kernel, by decide +kernel, by decide +kernel⟩
set_option maxRecDepth 20000 in
theorem ki_X3_init : Cond.initialized yX3_init.cls ∈ gl_T := (gl_T_in (by decide +kernel) (by decide +kernel))
set_option maxRecDepth 20000 in
theorem kn_X3_init : Cond.instanceMethod yX3_init ∈ gl_T := (gl_T_in (by decide +kernel) (by decide +kernel))
set_option maxRecDepth 20000 in
theorem kw_X6_9 : Cond.instanceMethod yX3_init ∈ gl_T ∧ Cond.initialized yX3_init.cls ∈ gl_T ∧ Cond.code yX3_init cX3_init 1 none ∈ gl_T ∧ gl_Lk yX3_init 0 := ⟨kn_X3_init, ki_X3_init, kc_X3_init, kl_X3_init⟩
set_option maxRecDepth 20000 in
theorem kc_X2_init : Cond.code yX2_init cX2_init 1 none ∈ gl_T := (gl_T_in (by decide +kernel) (by decide +kernel))
theorem kl_X2_init : gl_Lk yX2_init 0 := ⟨by decide +kernel, by decide +kernel, by decide +kernel⟩
set_option maxRecDepth 20000 in
theorem ki_X2_init : Cond.initialized yX2_init.cls ∈ gl_T := (gl_T_in (by decide +kernel) (by decide +kernel))
set_option maxRecDepth 20000 in
theorem kn_X2_init : Cond.instanceMethod yX2_init ∈ gl_T := (gl_T_in (by decide +kernel) (by decide +kernel))
set_option maxRecDepth 20000 in
theorem kw_X6_18 : Cond.methodLink RX6 18 yX2_init ∈ gl_T ∧ Cond.instanceMethod yX2_init ∈ gl_T ∧ Cond.initialized yX2_init.cls ∈ gl_T ∧ Cond.code yX2_init cX2_init 1 none ∈ gl_T ∧ gl_Lk yX2_init 0 := ⟨(gl_T_in (by decide +kernel) (by decide +kernel)), kn_X2_init, ki_X2_init, kc_X2_init, kl_X2_init⟩
set_option maxRecDepth 20000 in
theorem kc_X5_init : Cond.code yX5_init cX5_init 1 none ∈ gl_T := (gl_T_in (by decide +kernel) (by decide +kernel))
theorem kl_X5_init : gl_Lk yX5_init 0 := ⟨by decide +kernel, by decide +kernel, by decide +kernel⟩
set_option maxRecDepth 20000 in
theorem ki_X5_init : Cond.initialized yX5_init.cls ∈ gl_T := (gl_T_in (by decide +kernel) (by decide +kernel))
set_option maxRecDepth 20000 in
theorem kn_X5_init : Cond.instanceMethod yX5_init ∈ gl_T := (gl_T_in (by decide +kernel) (by decide +kernel))
set_option maxRecDepth 20000 in
theorem kw_X6_37 : Cond.instanceMethod yX5_init ∈ gl_T ∧ Cond.initialized yX5_init.cls ∈ gl_T ∧ Cond.code yX5_init cX5_init 1 none ∈ gl_T ∧ gl_Lk yX5_init 0 := ⟨kn_X5_init, ki_X5_init, kc_X5_init, kl_X5_init⟩
set_option maxRecDepth 20000 in
theorem kc_X1_init : Cond.code yX1_init cX1_init 1 none ∈ gl_T := (gl_T_in (by decide +kernel) (by decide +kernel))
theorem kl_X1_init : gl_Lk yX1_init 0 := ⟨by decide +kernel, by decide +kernel, by decide +kernel⟩
set_option maxRecDepth 20000 in
theorem ki_X1_init : Cond.initialized yX1_init.cls ∈ gl_T := (gl_T_in (by decide +kernel) (by decide +kernel))
set_option maxRecDepth 20000 in
theorem kn_X1_init : Cond.instanceMethod yX1_init ∈ gl_T := (gl_T_in (by decide +kernel) (by decide +kernel))
set_option maxRecDepth 20000 in
theorem kw_X6_44 : Cond.instanceMethod yX1_init ∈ gl_T ∧ Cond.initialized yX1_init.cls ∈ gl_T ∧ Cond.code yX1_init cX1_init 1 none ∈ gl_T ∧ gl_Lk yX1_init 0 := ⟨kn_X1_init, ki_X1_init, kc_X1_init, kl_X1_init⟩
set_option maxRecDepth 20000 in
theorem kc_X3_hasRoom : Cond.code yX3_hasRoom cX3_hasRoom 1 (some .boolean) ∈ gl_T := (gl_T_in (by decide +kernel) (by decide +kernel))
theorem kl_X3_hasRoom : gl_Lk yX3_hasRoom 0 := ⟨by decide +kernel, by decide +kernel, by decide +kernel⟩
set_option maxRecDepth 20000 in
theorem ki_X3_hasRoom : Cond.initialized yX3_hasRoom.cls ∈ gl_T := (gl_T_in (by decide +kernel) (by decide +kernel))
set_option maxRecDepth 20000 in
theorem kn_X3_hasRoom : Cond.instanceMethod yX3_hasRoom ∈ gl_T := (gl_T_in (by decide +kernel) (by decide +kernel))
set_option maxRecDepth 20000 in
theorem kv_X3_hasRoom : Cond.selects RX3 yX3_hasRoom yX3_hasRoom ∈ gl_T := (gl_T_in (by decide +kernel) (by decide +kernel))
set_option maxRecDepth 20000 in
theorem kw_X6_49 : Cond.methodLink RX6 49 yX3_hasRoom ∈ gl_T ∧ Cond.instanceMethod yX3_hasRoom ∈ gl_T ∧ Cond.selects RX3 yX3_hasRoom yX3_hasRoom ∈ gl_T ∧ Cond.initialized yX3_hasRoom.cls ∈ gl_T ∧ Cond.code yX3_hasRoom cX3_hasRoom 1 (some .boolean) ∈ gl_T ∧ gl_Lk yX3_hasRoom 0 := ⟨(gl_T_in (by decide +kernel) (by decide +kernel)), kn_X3_hasRoom, kv_X3_hasRoom, ki_X3_hasRoom, kc_X3_hasRoom, kl_X3_hasRoom⟩
set_option maxRecDepth 20000 in
theorem kc_X3_append : Cond.code yX3_append cX3_append 3 none ∈ gl_T := (gl_T_in (by decide +kernel) (by decide +kernel))
theorem kl_X3_append : gl_Lk yX3_append 1 := ⟨by decide +kernel, by decide +kernel, by decide +kernel⟩
set_option maxRecDepth 20000 in
theorem ki_X3_append : Cond.initialized yX3_append.cls ∈ gl_T := (gl_T_in (by decide +kernel) (by decide +kernel))
set_option maxRecDepth 20000 in
theorem kn_X3_append : Cond.instanceMethod yX3_append ∈ gl_T := (gl_T_in (by decide +kernel) (by decide +kernel))
set_option maxRecDepth 20000 in
theorem kv_X3_append : Cond.selects RX3 yX3_append yX3_append ∈ gl_T := (gl_T_in (by decide +kernel) (by decide +kernel))
set_option maxRecDepth 20000 in
theorem kw_X6_53 : Cond.methodLink RX6 53 yX3_append ∈ gl_T ∧ Cond.instanceMethod yX3_append ∈ gl_T ∧ Cond.selects RX3 yX3_append yX3_append ∈ gl_T ∧ Cond.initialized yX3_append.cls ∈ gl_T ∧ Cond.code yX3_append cX3_append 3 none ∈ gl_T ∧ gl_Lk yX3_append 1 := ⟨(gl_T_in (by decide +kernel) (by decide +kernel)), kn_X3_append, kv_X3_append, ki_X3_append, kc_X3_append, kl_X3_append⟩
set_option maxRecDepth 20000 in
theorem kc_X6_within : Cond.code yX6_within cX6_within 3 (some .boolean) ∈ gl_T := (gl_T_in (by decide +kernel) (by decide +kernel))
theorem kl_X6_within : gl_Lk yX6_within 3 := ⟨by decide +kernel, by decide +kernel, by decide +kernel⟩
set_option maxRecDepth 20000 in
theorem ki_X6_within : Cond.initialized yX6_within.cls ∈ gl_T := (gl_T_in (by decide +kernel) (by decide +kernel))
set_option maxRecDepth 20000 in
theorem ks_X6_within : Cond.static yX6_within ∈ gl_T := (gl_T_in (by decide +kernel) (by decide +kernel))
set_option maxRecDepth 20000 in
theorem kw_X6_61 : Cond.methodLink RX6 61 yX6_within ∈ gl_T ∧ Cond.static yX6_within ∈ gl_T ∧ Cond.initialized yX6_within.cls ∈ gl_T ∧ Cond.code yX6_within cX6_within 3 (some .boolean) ∈ gl_T ∧ gl_Lk yX6_within 3 := ⟨(gl_T_in (by decide +kernel) (by decide +kernel)), ks_X6_within, ki_X6_within, kc_X6_within, kl_X6_within⟩
set_option maxRecDepth 20000 in
theorem kc_X2_read : Cond.code yX2_read cX2_read 5 (some .int) ∈ gl_T := (gl_T_in (by decide +kernel) (by decide +kernel))
theorem kl_X2_read : gl_Lk yX2_read 2 := ⟨by decide +kernel, by decide +kernel, by decide +kernel⟩
set_option maxRecDepth 20000 in
theorem ki_X2_read : Cond.initialized yX2_read.cls ∈ gl_T := (gl_T_in (by decide +kernel) (by decide +kernel))
set_option maxRecDepth 20000 in
theorem kn_X2_read : Cond.instanceMethod yX2_read ∈ gl_T := (gl_T_in (by decide +kernel) (by decide +kernel))
set_option maxRecDepth 20000 in
theorem kv_X2_read : Cond.selects RX2 yX2_read yX2_read ∈ gl_T := (gl_T_in (by decide +kernel) (by decide +kernel))
set_option maxRecDepth 20000 in
theorem kw_X6_65 : Cond.methodLink RX6 65 yX2_read ∈ gl_T ∧ Cond.instanceMethod yX2_read ∈ gl_T ∧ Cond.selects RX2 yX2_read yX2_read ∈ gl_T ∧ Cond.initialized yX2_read.cls ∈ gl_T ∧ Cond.code yX2_read cX2_read 5 (some .int) ∈ gl_T ∧ gl_Lk yX2_read 2 := ⟨(gl_T_in (by decide +kernel) (by decide +kernel)), kn_X2_read, kv_X2_read, ki_X2_read, kc_X2_read, kl_X2_read⟩
set_option maxRecDepth 20000 in
theorem kc_X4_init : Cond.code yX4_init cX4_init 4 none ∈ gl_T := (gl_T_in (by decide +kernel) (by decide +kernel))
theorem kl_X4_init : gl_Lk yX4_init 3 := ⟨by decide +kernel, by decide +kernel, by decide +kernel⟩
set_option maxRecDepth 20000 in
theorem ki_X4_init : Cond.initialized yX4_init.cls ∈ gl_T := (gl_T_in (by decide +kernel) (by decide +kernel))
set_option maxRecDepth 20000 in
theorem kn_X4_init : Cond.instanceMethod yX4_init ∈ gl_T := (gl_T_in (by decide +kernel) (by decide +kernel))
set_option maxRecDepth 20000 in
theorem kw_X6_72 : Cond.methodLink RX6 72 yX4_init ∈ gl_T ∧ Cond.instanceMethod yX4_init ∈ gl_T ∧ Cond.initialized yX4_init.cls ∈ gl_T ∧ Cond.code yX4_init cX4_init 4 none ∈ gl_T ∧ gl_Lk yX4_init 3 := ⟨(gl_T_in (by decide +kernel) (by decide +kernel)), kn_X4_init, ki_X4_init, kc_X4_init, kl_X4_init⟩
set_option maxRecDepth 20000 in
theorem kc_X6_teacherAt : Cond.code yX6_teacherAt cX6_teacherAt 2 (some (.object "MorningDesk$Teacher")) ∈ gl_T := (gl_T_in (by decide +kernel) (by decide +kernel))
theorem kl_X6_teacherAt : gl_Lk yX6_teacherAt 1 := ⟨by decide +kernel, by decide +kernel, by decide +kernel⟩
set_option maxRecDepth 20000 in
theorem ki_X6_teacherAt : Cond.initialized yX6_teacherAt.cls ∈ gl_T := (gl_T_in (by decide +kernel) (by decide +kernel))
set_option maxRecDepth 20000 in
theorem kn_X6_teacherAt : Cond.instanceMethod yX6_teacherAt ∈ gl_T := (gl_T_in (by decide +kernel) (by decide +kernel))
set_option maxRecDepth 20000 in
theorem kv_X6_teacherAt : Cond.selects RX6 yX6_teacherAt yX6_teacherAt ∈ gl_T := (gl_T_in (by decide +kernel) (by decide +kernel))
set_option maxRecDepth 20000 in
theorem kw_X6_75 : Cond.methodLink RX6 75 yX6_teacherAt ∈ gl_T ∧ Cond.instanceMethod yX6_teacherAt ∈ gl_T ∧ Cond.selects RX6 yX6_teacherAt yX6_teacherAt ∈ gl_T ∧ Cond.initialized yX6_teacherAt.cls ∈ gl_T ∧ Cond.code yX6_teacherAt cX6_teacherAt 2 (some (.object "MorningDesk$Teacher")) ∈ gl_T ∧ gl_Lk yX6_teacherAt 1 := ⟨(gl_T_in (by decide +kernel) (by decide +kernel)), kn_X6_teacherAt, kv_X6_teacherAt, ki_X6_teacherAt, kc_X6_teacherAt, kl_X6_teacherAt⟩
set_option maxRecDepth 20000 in
theorem kc_X6_isSchool : Cond.code yX6_isSchool cX6_isSchool 1 (some .boolean) ∈ gl_T := (gl_T_in (by decide +kernel) (by decide +kernel))
theorem kl_X6_isSchool : gl_Lk yX6_isSchool 1 := ⟨by decide +kernel, by decide +kernel, by decide +kernel⟩
set_option maxRecDepth 20000 in
theorem ki_X6_isSchool : Cond.initialized yX6_isSchool.cls ∈ gl_T := (gl_T_in (by decide +kernel) (by decide +kernel))
set_option maxRecDepth 20000 in
theorem ks_X6_isSchool : Cond.static yX6_isSchool ∈ gl_T := (gl_T_in (by decide +kernel) (by decide +kernel))
set_option maxRecDepth 20000 in
theorem kw_X6_79 : Cond.methodLink RX6 79 yX6_isSchool ∈ gl_T ∧ Cond.static yX6_isSchool ∈ gl_T ∧ Cond.initialized yX6_isSchool.cls ∈ gl_T ∧ Cond.code yX6_isSchool cX6_isSchool 1 (some .boolean) ∈ gl_T ∧ gl_Lk yX6_isSchool 1 := ⟨(gl_T_in (by decide +kernel) (by decide +kernel)), ks_X6_isSchool, ki_X6_isSchool, kc_X6_isSchool, kl_X6_isSchool⟩
set_option maxRecDepth 20000 in
theorem kc_X6_isClass : Cond.code yX6_isClass cX6_isClass 1 (some .boolean) ∈ gl_T := (gl_T_in (by decide +kernel) (by decide +kernel))
theorem kl_X6_isClass : gl_Lk yX6_isClass 1 := ⟨by decide +kernel, by decide +kernel, by decide +kernel⟩
set_option maxRecDepth 20000 in
theorem ki_X6_isClass : Cond.initialized yX6_isClass.cls ∈ gl_T := (gl_T_in (by decide +kernel) (by decide +kernel))
set_option maxRecDepth 20000 in
theorem ks_X6_isClass : Cond.static yX6_isClass ∈ gl_T := (gl_T_in (by decide +kernel) (by decide +kernel))
set_option maxRecDepth 20000 in
theorem kw_X6_96 : Cond.methodLink RX6 96 yX6_isClass ∈ gl_T ∧ Cond.static yX6_isClass ∈ gl_T ∧ Cond.initialized yX6_isClass.cls ∈ gl_T ∧ Cond.code yX6_isClass cX6_isClass 1 (some .boolean) ∈ gl_T ∧ gl_Lk yX6_isClass 1 := ⟨(gl_T_in (by decide +kernel) (by decide +kernel)), ks_X6_isClass, ki_X6_isClass, kc_X6_isClass, kl_X6_isClass⟩
set_option maxRecDepth 20000 in
theorem kc_X0_init : Cond.code yX0_init cX0_init 6 none ∈ gl_T := (gl_T_in (by decide +kernel) (by decide +kernel))
theorem kl_X0_init : gl_Lk yX0_init 5 := ⟨by decide +kernel, by decide +kernel, by decide +kernel⟩
set_option maxRecDepth 20000 in
theorem ki_X0_init : Cond.initialized yX0_init.cls ∈ gl_T := (gl_T_in (by decide +kernel) (by decide +kernel))
set_option maxRecDepth 20000 in
theorem kn_X0_init : Cond.instanceMethod yX0_init ∈ gl_T := (gl_T_in (by decide +kernel) (by decide +kernel))
set_option maxRecDepth 20000 in
theorem kw_X6_99 : Cond.methodLink RX6 99 yX0_init ∈ gl_T ∧ Cond.instanceMethod yX0_init ∈ gl_T ∧ Cond.initialized yX0_init.cls ∈ gl_T ∧ Cond.code yX0_init cX0_init 6 none ∈ gl_T ∧ gl_Lk yX0_init 5 := ⟨(gl_T_in (by decide +kernel) (by decide +kernel)), kn_X0_init, ki_X0_init, kc_X0_init, kl_X0_init⟩
set_option maxRecDepth 20000 in
theorem kc_X6_gapAt : Cond.code yX6_gapAt cX6_gapAt 2 (some (.object "MorningDesk$Gap")) ∈ gl_T := (gl_T_in (by decide +kernel) (by decide +kernel))
theorem kl_X6_gapAt : gl_Lk yX6_gapAt 1 := ⟨by decide +kernel, by decide +kernel, by decide +kernel⟩
set_option maxRecDepth 20000 in
theorem ki_X6_gapAt : Cond.initialized yX6_gapAt.cls ∈ gl_T := (gl_T_in (by decide +kernel) (by decide +kernel))
set_option maxRecDepth 20000 in
theorem kn_X6_gapAt : Cond.instanceMethod yX6_gapAt ∈ gl_T := (gl_T_in (by decide +kernel) (by decide +kernel))
set_option maxRecDepth 20000 in
theorem kv_X6_gapAt : Cond.selects RX6 yX6_gapAt yX6_gapAt ∈ gl_T := (gl_T_in (by decide +kernel) (by decide +kernel))
set_option maxRecDepth 20000 in
theorem kw_X6_102 : Cond.methodLink RX6 102 yX6_gapAt ∈ gl_T ∧ Cond.instanceMethod yX6_gapAt ∈ gl_T ∧ Cond.selects RX6 yX6_gapAt yX6_gapAt ∈ gl_T ∧ Cond.initialized yX6_gapAt.cls ∈ gl_T ∧ Cond.code yX6_gapAt cX6_gapAt 2 (some (.object "MorningDesk$Gap")) ∈ gl_T ∧ gl_Lk yX6_gapAt 1 := ⟨(gl_T_in (by decide +kernel) (by decide +kernel)), kn_X6_gapAt, kv_X6_gapAt, ki_X6_gapAt, kc_X6_gapAt, kl_X6_gapAt⟩
set_option maxRecDepth 20000 in
theorem kc_X4_fills : Cond.code yX4_fills cX4_fills 4 (some .boolean) ∈ gl_T := (gl_T_in (by decide +kernel) (by decide +kernel))
theorem kl_X4_fills : gl_Lk yX4_fills 3 := ⟨by decide +kernel, by decide +kernel, by decide +kernel⟩
set_option maxRecDepth 20000 in
theorem ki_X4_fills : Cond.initialized yX4_fills.cls ∈ gl_T := (gl_T_in (by decide +kernel) (by decide +kernel))
set_option maxRecDepth 20000 in
theorem kn_X4_fills : Cond.instanceMethod yX4_fills ∈ gl_T := (gl_T_in (by decide +kernel) (by decide +kernel))
set_option maxRecDepth 20000 in
theorem kv_X4_fills : Cond.selects RX4 yX4_fills yX4_fills ∈ gl_T := (gl_T_in (by decide +kernel) (by decide +kernel))
set_option maxRecDepth 20000 in
theorem kw_X6_109 : Cond.methodLink RX6 109 yX4_fills ∈ gl_T ∧ Cond.instanceMethod yX4_fills ∈ gl_T ∧ Cond.selects RX4 yX4_fills yX4_fills ∈ gl_T ∧ Cond.initialized yX4_fills.cls ∈ gl_T ∧ Cond.code yX4_fills cX4_fills 4 (some .boolean) ∈ gl_T ∧ gl_Lk yX4_fills 3 := ⟨(gl_T_in (by decide +kernel) (by decide +kernel)), kn_X4_fills, kv_X4_fills, ki_X4_fills, kc_X4_fills, kl_X4_fills⟩
set_option maxRecDepth 20000 in
theorem kc_X4_costFor : Cond.code yX4_costFor cX4_costFor 4 (some .int) ∈ gl_T := (gl_T_in (by decide +kernel) (by decide +kernel))
theorem kl_X4_costFor : gl_Lk yX4_costFor 2 := ⟨by decide +kernel, by decide +kernel, by decide +kernel⟩
set_option maxRecDepth 20000 in
theorem ki_X4_costFor : Cond.initialized yX4_costFor.cls ∈ gl_T := (gl_T_in (by decide +kernel) (by decide +kernel))
set_option maxRecDepth 20000 in
theorem kn_X4_costFor : Cond.instanceMethod yX4_costFor ∈ gl_T := (gl_T_in (by decide +kernel) (by decide +kernel))
set_option maxRecDepth 20000 in
theorem kv_X4_costFor : Cond.selects RX4 yX4_costFor yX4_costFor ∈ gl_T := (gl_T_in (by decide +kernel) (by decide +kernel))
set_option maxRecDepth 20000 in
theorem kw_X6_113 : Cond.methodLink RX6 113 yX4_costFor ∈ gl_T ∧ Cond.instanceMethod yX4_costFor ∈ gl_T ∧ Cond.selects RX4 yX4_costFor yX4_costFor ∈ gl_T ∧ Cond.initialized yX4_costFor.cls ∈ gl_T ∧ Cond.code yX4_costFor cX4_costFor 4 (some .int) ∈ gl_T ∧ gl_Lk yX4_costFor 2 := ⟨(gl_T_in (by decide +kernel) (by decide +kernel)), kn_X4_costFor, kv_X4_costFor, ki_X4_costFor, kc_X4_costFor, kl_X4_costFor⟩
set_option maxRecDepth 20000 in
theorem kc_X6_findMatch : Cond.code yX6_findMatch cX6_findMatch 1 none ∈ gl_T := (gl_T_in (by decide +kernel) (by decide +kernel))
theorem kl_X6_findMatch : gl_Lk yX6_findMatch 0 := ⟨by decide +kernel, by decide +kernel, by decide +kernel⟩
set_option maxRecDepth 20000 in
theorem ki_X6_findMatch : Cond.initialized yX6_findMatch.cls ∈ gl_T := (gl_T_in (by decide +kernel) (by decide +kernel))
set_option maxRecDepth 20000 in
theorem kn_X6_findMatch : Cond.instanceMethod yX6_findMatch ∈ gl_T := (gl_T_in (by decide +kernel) (by decide +kernel))
set_option maxRecDepth 20000 in
theorem kv_X6_findMatch : Cond.selects RX6 yX6_findMatch yX6_findMatch ∈ gl_T := (gl_T_in (by decide +kernel) (by decide +kernel))
set_option maxRecDepth 20000 in
theorem kw_X6_117 : Cond.methodLink RX6 117 yX6_findMatch ∈ gl_T ∧ Cond.instanceMethod yX6_findMatch ∈ gl_T ∧ Cond.selects RX6 yX6_findMatch yX6_findMatch ∈ gl_T ∧ Cond.initialized yX6_findMatch.cls ∈ gl_T ∧ Cond.code yX6_findMatch cX6_findMatch 1 none ∈ gl_T ∧ gl_Lk yX6_findMatch 0 := ⟨(gl_T_in (by decide +kernel) (by decide +kernel)), kn_X6_findMatch, kv_X6_findMatch, ki_X6_findMatch, kc_X6_findMatch, kl_X6_findMatch⟩
set_option maxRecDepth 20000 in
theorem kc_X1_filled : Cond.code yX1_filled cX1_filled 3 (some .int) ∈ gl_T := (gl_T_in (by decide +kernel) (by decide +kernel))
theorem kl_X1_filled : gl_Lk yX1_filled 0 := ⟨by decide +kernel, by decide +kernel, by decide +kernel⟩
set_option maxRecDepth 20000 in
theorem ki_X1_filled : Cond.initialized yX1_filled.cls ∈ gl_T := (gl_T_in (by decide +kernel) (by decide +kernel))
set_option maxRecDepth 20000 in
theorem kn_X1_filled : Cond.instanceMethod yX1_filled ∈ gl_T := (gl_T_in (by decide +kernel) (by decide +kernel))
set_option maxRecDepth 20000 in
theorem kv_X1_filled : Cond.selects RX1 yX1_filled yX1_filled ∈ gl_T := (gl_T_in (by decide +kernel) (by decide +kernel))
set_option maxRecDepth 20000 in
theorem kw_X6_120 : Cond.methodLink RX6 120 yX1_filled ∈ gl_T ∧ Cond.instanceMethod yX1_filled ∈ gl_T ∧ Cond.selects RX1 yX1_filled yX1_filled ∈ gl_T ∧ Cond.initialized yX1_filled.cls ∈ gl_T ∧ Cond.code yX1_filled cX1_filled 3 (some .int) ∈ gl_T ∧ gl_Lk yX1_filled 0 := ⟨(gl_T_in (by decide +kernel) (by decide +kernel)), kn_X1_filled, kv_X1_filled, ki_X1_filled, kc_X1_filled, kl_X1_filled⟩
set_option maxRecDepth 20000 in
theorem kc_X1_costInAll : Cond.code yX1_costInAll cX1_costInAll 3 (some .int) ∈ gl_T := (gl_T_in (by decide +kernel) (by decide +kernel))
theorem kl_X1_costInAll : gl_Lk yX1_costInAll 0 := ⟨by decide +kernel, by decide +kernel, by decide +kernel⟩
set_option maxRecDepth 20000 in
theorem ki_X1_costInAll : Cond.initialized yX1_costInAll.cls ∈ gl_T := (gl_T_in (by decide +kernel) (by decide +kernel))
set_option maxRecDepth 20000 in
theorem kn_X1_costInAll : Cond.instanceMethod yX1_costInAll ∈ gl_T := (gl_T_in (by decide +kernel) (by decide +kernel))
set_option maxRecDepth 20000 in
theorem kv_X1_costInAll : Cond.selects RX1 yX1_costInAll yX1_costInAll ∈ gl_T := (gl_T_in (by decide +kernel) (by decide +kernel))
set_option maxRecDepth 20000 in
theorem kw_X6_124 : Cond.methodLink RX6 124 yX1_costInAll ∈ gl_T ∧ Cond.instanceMethod yX1_costInAll ∈ gl_T ∧ Cond.selects RX1 yX1_costInAll yX1_costInAll ∈ gl_T ∧ Cond.initialized yX1_costInAll.cls ∈ gl_T ∧ Cond.code yX1_costInAll cX1_costInAll 3 (some .int) ∈ gl_T ∧ gl_Lk yX1_costInAll 0 := ⟨(gl_T_in (by decide +kernel) (by decide +kernel)), kn_X1_costInAll, kv_X1_costInAll, ki_X1_costInAll, kc_X1_costInAll, kl_X1_costInAll⟩
set_option maxRecDepth 20000 in
theorem kc_X6_sentTo : Cond.code yX6_sentTo cX6_sentTo 4 (some .int) ∈ gl_T := (gl_T_in (by decide +kernel) (by decide +kernel))
theorem kl_X6_sentTo : gl_Lk yX6_sentTo 1 := ⟨by decide +kernel, by decide +kernel, by decide +kernel⟩
set_option maxRecDepth 20000 in
theorem ki_X6_sentTo : Cond.initialized yX6_sentTo.cls ∈ gl_T := (gl_T_in (by decide +kernel) (by decide +kernel))
set_option maxRecDepth 20000 in
theorem kn_X6_sentTo : Cond.instanceMethod yX6_sentTo ∈ gl_T := (gl_T_in (by decide +kernel) (by decide +kernel))
set_option maxRecDepth 20000 in
theorem kv_X6_sentTo : Cond.selects RX6 yX6_sentTo yX6_sentTo ∈ gl_T := (gl_T_in (by decide +kernel) (by decide +kernel))
set_option maxRecDepth 20000 in
theorem kw_X6_127 : Cond.methodLink RX6 127 yX6_sentTo ∈ gl_T ∧ Cond.instanceMethod yX6_sentTo ∈ gl_T ∧ Cond.selects RX6 yX6_sentTo yX6_sentTo ∈ gl_T ∧ Cond.initialized yX6_sentTo.cls ∈ gl_T ∧ Cond.code yX6_sentTo cX6_sentTo 4 (some .int) ∈ gl_T ∧ gl_Lk yX6_sentTo 1 := ⟨(gl_T_in (by decide +kernel) (by decide +kernel)), kn_X6_sentTo, kv_X6_sentTo, ki_X6_sentTo, kc_X6_sentTo, kl_X6_sentTo⟩
set_option maxRecDepth 20000 in
theorem kc_X1_teacherFor : Cond.code yX1_teacherFor cX1_teacherFor 2 (some .int) ∈ gl_T := (gl_T_in (by decide +kernel) (by decide +kernel))
theorem kl_X1_teacherFor : gl_Lk yX1_teacherFor 1 := ⟨by decide +kernel, by decide +kernel, by decide +kernel⟩
set_option maxRecDepth 20000 in
theorem ki_X1_teacherFor : Cond.initialized yX1_teacherFor.cls ∈ gl_T := (gl_T_in (by decide +kernel) (by decide +kernel))
set_option maxRecDepth 20000 in
theorem kn_X1_teacherFor : Cond.instanceMethod yX1_teacherFor ∈ gl_T := (gl_T_in (by decide +kernel) (by decide +kernel))
set_option maxRecDepth 20000 in
theorem kv_X1_teacherFor : Cond.selects RX1 yX1_teacherFor yX1_teacherFor ∈ gl_T := (gl_T_in (by decide +kernel) (by decide +kernel))
set_option maxRecDepth 20000 in
theorem kw_X6_131 : Cond.methodLink RX6 131 yX1_teacherFor ∈ gl_T ∧ Cond.instanceMethod yX1_teacherFor ∈ gl_T ∧ Cond.selects RX1 yX1_teacherFor yX1_teacherFor ∈ gl_T ∧ Cond.initialized yX1_teacherFor.cls ∈ gl_T ∧ Cond.code yX1_teacherFor cX1_teacherFor 2 (some .int) ∈ gl_T ∧ gl_Lk yX1_teacherFor 1 := ⟨(gl_T_in (by decide +kernel) (by decide +kernel)), kn_X1_teacherFor, kv_X1_teacherFor, ki_X1_teacherFor, kc_X1_teacherFor, kl_X1_teacherFor⟩
set_option maxRecDepth 20000 in
theorem kc_X6_isCalledAhead : Cond.code yX6_isCalledAhead cX6_isCalledAhead 7 (some .boolean) ∈ gl_T := (gl_T_in (by decide +kernel) (by decide +kernel))
theorem kl_X6_isCalledAhead : gl_Lk yX6_isCalledAhead 2 := ⟨by decide +kernel, by decide +kernel, by decide +kernel⟩
set_option maxRecDepth 20000 in
theorem ki_X6_isCalledAhead : Cond.initialized yX6_isCalledAhead.cls ∈ gl_T := (gl_T_in (by decide +kernel) (by decide +kernel))
set_option maxRecDepth 20000 in
theorem kn_X6_isCalledAhead : Cond.instanceMethod yX6_isCalledAhead ∈ gl_T := (gl_T_in (by decide +kernel) (by decide +kernel))
set_option maxRecDepth 20000 in
theorem kv_X6_isCalledAhead : Cond.selects RX6 yX6_isCalledAhead yX6_isCalledAhead ∈ gl_T := (gl_T_in (by decide +kernel) (by decide +kernel))
set_option maxRecDepth 20000 in
theorem kw_X6_134 : Cond.methodLink RX6 134 yX6_isCalledAhead ∈ gl_T ∧ Cond.instanceMethod yX6_isCalledAhead ∈ gl_T ∧ Cond.selects RX6 yX6_isCalledAhead yX6_isCalledAhead ∈ gl_T ∧ Cond.initialized yX6_isCalledAhead.cls ∈ gl_T ∧ Cond.code yX6_isCalledAhead cX6_isCalledAhead 7 (some .boolean) ∈ gl_T ∧ gl_Lk yX6_isCalledAhead 2 := ⟨(gl_T_in (by decide +kernel) (by decide +kernel)), kn_X6_isCalledAhead, kv_X6_isCalledAhead, ki_X6_isCalledAhead, kc_X6_isCalledAhead, kl_X6_isCalledAhead⟩
set_option maxRecDepth 20000 in
theorem kc_X1_gapFor : Cond.code yX1_gapFor cX1_gapFor 3 (some .int) ∈ gl_T := (gl_T_in (by decide +kernel) (by decide +kernel))
theorem kl_X1_gapFor : gl_Lk yX1_gapFor 1 := ⟨by decide +kernel, by decide +kernel, by decide +kernel⟩
set_option maxRecDepth 20000 in
theorem ki_X1_gapFor : Cond.initialized yX1_gapFor.cls ∈ gl_T := (gl_T_in (by decide +kernel) (by decide +kernel))
set_option maxRecDepth 20000 in
theorem kn_X1_gapFor : Cond.instanceMethod yX1_gapFor ∈ gl_T := (gl_T_in (by decide +kernel) (by decide +kernel))
set_option maxRecDepth 20000 in
theorem kv_X1_gapFor : Cond.selects RX1 yX1_gapFor yX1_gapFor ∈ gl_T := (gl_T_in (by decide +kernel) (by decide +kernel))
set_option maxRecDepth 20000 in
theorem kw_X6_138 : Cond.methodLink RX6 138 yX1_gapFor ∈ gl_T ∧ Cond.instanceMethod yX1_gapFor ∈ gl_T ∧ Cond.selects RX1 yX1_gapFor yX1_gapFor ∈ gl_T ∧ Cond.initialized yX1_gapFor.cls ∈ gl_T ∧ Cond.code yX1_gapFor cX1_gapFor 3 (some .int) ∈ gl_T ∧ gl_Lk yX1_gapFor 1 := ⟨(gl_T_in (by decide +kernel) (by decide +kernel)), kn_X1_gapFor, kv_X1_gapFor, ki_X1_gapFor, kc_X1_gapFor, kl_X1_gapFor⟩
set_option maxRecDepth 20000 in
theorem kw_X6_141 : Cond.methodLink RX6 141 yX2_number ∈ gl_T ∧ Cond.instanceMethod yX2_number ∈ gl_T ∧ Cond.selects RX2 yX2_number yX2_number ∈ gl_T ∧ Cond.initialized yX2_number.cls ∈ gl_T ∧ Cond.code yX2_number cX2_number 2 (some .int) ∈ gl_T ∧ gl_Lk yX2_number 1 := ⟨(gl_T_in (by decide +kernel) (by decide +kernel)), kn_X2_number, kv_X2_number, ki_X2_number, kc_X2_number, kl_X2_number⟩
set_option maxRecDepth 20000 in
theorem kc_X4_takeAnswer : Cond.code yX4_takeAnswer cX4_takeAnswer 4 none ∈ gl_T := (gl_T_in (by decide +kernel) (by decide +kernel))
theorem kl_X4_takeAnswer : gl_Lk yX4_takeAnswer 3 := ⟨by decide +kernel, by decide +kernel, by decide +kernel⟩
set_option maxRecDepth 20000 in
theorem ki_X4_takeAnswer : Cond.initialized yX4_takeAnswer.cls ∈ gl_T := (gl_T_in (by decide +kernel) (by decide +kernel))
set_option maxRecDepth 20000 in
theorem kn_X4_takeAnswer : Cond.instanceMethod yX4_takeAnswer ∈ gl_T := (gl_T_in (by decide +kernel) (by decide +kernel))
set_option maxRecDepth 20000 in
theorem kv_X4_takeAnswer : Cond.selects RX4 yX4_takeAnswer yX4_takeAnswer ∈ gl_T := (gl_T_in (by decide +kernel) (by decide +kernel))
set_option maxRecDepth 20000 in
theorem kw_X6_144 : Cond.methodLink RX6 144 yX4_takeAnswer ∈ gl_T ∧ Cond.instanceMethod yX4_takeAnswer ∈ gl_T ∧ Cond.selects RX4 yX4_takeAnswer yX4_takeAnswer ∈ gl_T ∧ Cond.initialized yX4_takeAnswer.cls ∈ gl_T ∧ Cond.code yX4_takeAnswer cX4_takeAnswer 4 none ∈ gl_T ∧ gl_Lk yX4_takeAnswer 3 := ⟨(gl_T_in (by decide +kernel) (by decide +kernel)), kn_X4_takeAnswer, kv_X4_takeAnswer, ki_X4_takeAnswer, kc_X4_takeAnswer, kl_X4_takeAnswer⟩
set_option maxRecDepth 20000 in
theorem kc_X6_offerAll : Cond.code yX6_offerAll cX6_offerAll 3 none ∈ gl_T := (gl_T_in (by decide +kernel) (by decide +kernel))
theorem kl_X6_offerAll : gl_Lk yX6_offerAll 0 := ⟨by decide +kernel, by decide +kernel, by decide +kernel⟩
set_option maxRecDepth 20000 in
theorem ki_X6_offerAll : Cond.initialized yX6_offerAll.cls ∈ gl_T := (gl_T_in (by decide +kernel) (by decide +kernel))
set_option maxRecDepth 20000 in
theorem kn_X6_offerAll : Cond.instanceMethod yX6_offerAll ∈ gl_T := (gl_T_in (by decide +kernel) (by decide +kernel))
set_option maxRecDepth 20000 in
theorem kv_X6_offerAll : Cond.selects RX6 yX6_offerAll yX6_offerAll ∈ gl_T := (gl_T_in (by decide +kernel) (by decide +kernel))
set_option maxRecDepth 20000 in
theorem kw_X6_147 : Cond.methodLink RX6 147 yX6_offerAll ∈ gl_T ∧ Cond.instanceMethod yX6_offerAll ∈ gl_T ∧ Cond.selects RX6 yX6_offerAll yX6_offerAll ∈ gl_T ∧ Cond.initialized yX6_offerAll.cls ∈ gl_T ∧ Cond.code yX6_offerAll cX6_offerAll 3 none ∈ gl_T ∧ gl_Lk yX6_offerAll 0 := ⟨(gl_T_in (by decide +kernel) (by decide +kernel)), kn_X6_offerAll, kv_X6_offerAll, ki_X6_offerAll, kc_X6_offerAll, kl_X6_offerAll⟩
set_option maxRecDepth 20000 in
theorem kc_X1_fewestUnfillable : Cond.code yX1_fewestUnfillable cX1_fewestUnfillable 5 (some .int) ∈ gl_T := (gl_T_in (by decide +kernel) (by decide +kernel))
theorem kl_X1_fewestUnfillable : gl_Lk yX1_fewestUnfillable 0 := ⟨by decide +kernel, by decide +kernel, by decide +kernel⟩
set_option maxRecDepth 20000 in
theorem ki_X1_fewestUnfillable : Cond.initialized yX1_fewestUnfillable.cls ∈ gl_T := (gl_T_in (by decide +kernel) (by decide +kernel))
set_option maxRecDepth 20000 in
theorem kn_X1_fewestUnfillable : Cond.instanceMethod yX1_fewestUnfillable ∈ gl_T := (gl_T_in (by decide +kernel) (by decide +kernel))
set_option maxRecDepth 20000 in
theorem kv_X1_fewestUnfillable : Cond.selects RX1 yX1_fewestUnfillable yX1_fewestUnfillable ∈ gl_T := (gl_T_in (by decide +kernel) (by decide +kernel))
set_option maxRecDepth 20000 in
theorem kw_X6_150 : Cond.methodLink RX6 150 yX1_fewestUnfillable ∈ gl_T ∧ Cond.instanceMethod yX1_fewestUnfillable ∈ gl_T ∧ Cond.selects RX1 yX1_fewestUnfillable yX1_fewestUnfillable ∈ gl_T ∧ Cond.initialized yX1_fewestUnfillable.cls ∈ gl_T ∧ Cond.code yX1_fewestUnfillable cX1_fewestUnfillable 5 (some .int) ∈ gl_T ∧ gl_Lk yX1_fewestUnfillable 0 := ⟨(gl_T_in (by decide +kernel) (by decide +kernel)), kn_X1_fewestUnfillable, kv_X1_fewestUnfillable, ki_X1_fewestUnfillable, kc_X1_fewestUnfillable, kl_X1_fewestUnfillable⟩
set_option maxRecDepth 20000 in
theorem kc_X6_endDayOf : Cond.code yX6_endDayOf cX6_endDayOf 4 none ∈ gl_T := (gl_T_in (by decide +kernel) (by decide +kernel))
theorem kl_X6_endDayOf : gl_Lk yX6_endDayOf 1 := ⟨by decide +kernel, by decide +kernel, by decide +kernel⟩
set_option maxRecDepth 20000 in
theorem ki_X6_endDayOf : Cond.initialized yX6_endDayOf.cls ∈ gl_T := (gl_T_in (by decide +kernel) (by decide +kernel))
set_option maxRecDepth 20000 in
theorem kn_X6_endDayOf : Cond.instanceMethod yX6_endDayOf ∈ gl_T := (gl_T_in (by decide +kernel) (by decide +kernel))
set_option maxRecDepth 20000 in
theorem kv_X6_endDayOf : Cond.selects RX6 yX6_endDayOf yX6_endDayOf ∈ gl_T := (gl_T_in (by decide +kernel) (by decide +kernel))
set_option maxRecDepth 20000 in
theorem kw_X6_153 : Cond.methodLink RX6 153 yX6_endDayOf ∈ gl_T ∧ Cond.instanceMethod yX6_endDayOf ∈ gl_T ∧ Cond.selects RX6 yX6_endDayOf yX6_endDayOf ∈ gl_T ∧ Cond.initialized yX6_endDayOf.cls ∈ gl_T ∧ Cond.code yX6_endDayOf cX6_endDayOf 4 none ∈ gl_T ∧ gl_Lk yX6_endDayOf 1 := ⟨(gl_T_in (by decide +kernel) (by decide +kernel)), kn_X6_endDayOf, kv_X6_endDayOf, ki_X6_endDayOf, kc_X6_endDayOf, kl_X6_endDayOf⟩
set_option maxRecDepth 20000 in
theorem kc_X5_teachersSeen : Cond.code yX5_teachersSeen cX5_teachersSeen 7 (some .int) ∈ gl_T := (gl_T_in (by decide +kernel) (by decide +kernel))
theorem kl_X5_teachersSeen : gl_Lk yX5_teachersSeen 3 := ⟨by decide +kernel, by decide +kernel, by decide +kernel⟩
set_option maxRecDepth 20000 in
theorem ki_X5_teachersSeen : Cond.initialized yX5_teachersSeen.cls ∈ gl_T := (gl_T_in (by decide +kernel) (by decide +kernel))
set_option maxRecDepth 20000 in
theorem kn_X5_teachersSeen : Cond.instanceMethod yX5_teachersSeen ∈ gl_T := (gl_T_in (by decide +kernel) (by decide +kernel))
set_option maxRecDepth 20000 in
theorem kv_X5_teachersSeen : Cond.selects RX5 yX5_teachersSeen yX5_teachersSeen ∈ gl_T := (gl_T_in (by decide +kernel) (by decide +kernel))
set_option maxRecDepth 20000 in
theorem kw_X6_160 : Cond.methodLink RX6 160 yX5_teachersSeen ∈ gl_T ∧ Cond.instanceMethod yX5_teachersSeen ∈ gl_T ∧ Cond.selects RX5 yX5_teachersSeen yX5_teachersSeen ∈ gl_T ∧ Cond.initialized yX5_teachersSeen.cls ∈ gl_T ∧ Cond.code yX5_teachersSeen cX5_teachersSeen 7 (some .int) ∈ gl_T ∧ gl_Lk yX5_teachersSeen 3 := ⟨(gl_T_in (by decide +kernel) (by decide +kernel)), kn_X5_teachersSeen, kv_X5_teachersSeen, ki_X5_teachersSeen, kc_X5_teachersSeen, kl_X5_teachersSeen⟩
set_option maxRecDepth 20000 in
theorem kw_X6_185 : Cond.methodLink RX6 185 yX4_minutesTo ∈ gl_T ∧ Cond.instanceMethod yX4_minutesTo ∈ gl_T ∧ Cond.selects RX4 yX4_minutesTo yX4_minutesTo ∈ gl_T ∧ Cond.initialized yX4_minutesTo.cls ∈ gl_T ∧ Cond.code yX4_minutesTo cX4_minutesTo 2 (some .int) ∈ gl_T ∧ gl_Lk yX4_minutesTo 1 := ⟨(gl_T_in (by decide +kernel) (by decide +kernel)), kn_X4_minutesTo, kv_X4_minutesTo, ki_X4_minutesTo, kc_X4_minutesTo, kl_X4_minutesTo⟩
set_option maxRecDepth 20000 in
theorem kc_X6_countInState : Cond.code yX6_countInState cX6_countInState 5 (some .int) ∈ gl_T := (gl_T_in (by decide +kernel) (by decide +kernel))
theorem kl_X6_countInState : gl_Lk yX6_countInState 1 := ⟨by decide +kernel, by decide +kernel, by decide +kernel⟩
set_option maxRecDepth 20000 in
theorem ki_X6_countInState : Cond.initialized yX6_countInState.cls ∈ gl_T := (gl_T_in (by decide +kernel) (by decide +kernel))
set_option maxRecDepth 20000 in
theorem kn_X6_countInState : Cond.instanceMethod yX6_countInState ∈ gl_T := (gl_T_in (by decide +kernel) (by decide +kernel))
set_option maxRecDepth 20000 in
theorem kv_X6_countInState : Cond.selects RX6 yX6_countInState yX6_countInState ∈ gl_T := (gl_T_in (by decide +kernel) (by decide +kernel))
set_option maxRecDepth 20000 in
theorem kw_X6_203 : Cond.methodLink RX6 203 yX6_countInState ∈ gl_T ∧ Cond.instanceMethod yX6_countInState ∈ gl_T ∧ Cond.selects RX6 yX6_countInState yX6_countInState ∈ gl_T ∧ Cond.initialized yX6_countInState.cls ∈ gl_T ∧ Cond.code yX6_countInState cX6_countInState 5 (some .int) ∈ gl_T ∧ gl_Lk yX6_countInState 1 := ⟨(gl_T_in (by decide +kernel) (by decide +kernel)), kn_X6_countInState, kv_X6_countInState, ki_X6_countInState, kc_X6_countInState, kl_X6_countInState⟩
set_option maxRecDepth 20000 in
theorem kc_X1_solve : Cond.code yX1_solve cX1_solve 2 none ∈ gl_T := (gl_T_in (by decide +kernel) (by decide +kernel))
theorem kl_X1_solve : gl_Lk yX1_solve 0 := ⟨by decide +kernel, by decide +kernel, by decide +kernel⟩
set_option maxRecDepth 20000 in
theorem ki_X1_solve : Cond.initialized yX1_solve.cls ∈ gl_T := (gl_T_in (by decide +kernel) (by decide +kernel))
set_option maxRecDepth 20000 in
theorem kn_X1_solve : Cond.instanceMethod yX1_solve ∈ gl_T := (gl_T_in (by decide +kernel) (by decide +kernel))
set_option maxRecDepth 20000 in
theorem kv_X1_solve : Cond.selects RX1 yX1_solve yX1_solve ∈ gl_T := (gl_T_in (by decide +kernel) (by decide +kernel))
set_option maxRecDepth 20000 in
theorem kw_X6_209 : Cond.methodLink RX6 209 yX1_solve ∈ gl_T ∧ Cond.instanceMethod yX1_solve ∈ gl_T ∧ Cond.selects RX1 yX1_solve yX1_solve ∈ gl_T ∧ Cond.initialized yX1_solve.cls ∈ gl_T ∧ Cond.code yX1_solve cX1_solve 2 none ∈ gl_T ∧ gl_Lk yX1_solve 0 := ⟨(gl_T_in (by decide +kernel) (by decide +kernel)), kn_X1_solve, kv_X1_solve, ki_X1_solve, kc_X1_solve, kl_X1_solve⟩
set_option maxRecDepth 20000 in
theorem kc_X1_clear : Cond.code yX1_clear cX1_clear 2 none ∈ gl_T := (gl_T_in (by decide +kernel) (by decide +kernel))
theorem kl_X1_clear : gl_Lk yX1_clear 0 := ⟨by decide +kernel, by decide +kernel, by decide +kernel⟩
set_option maxRecDepth 20000 in
theorem ki_X1_clear : Cond.initialized yX1_clear.cls ∈ gl_T := (gl_T_in (by decide +kernel) (by decide +kernel))
set_option maxRecDepth 20000 in
theorem kn_X1_clear : Cond.instanceMethod yX1_clear ∈ gl_T := (gl_T_in (by decide +kernel) (by decide +kernel))
set_option maxRecDepth 20000 in
theorem kv_X1_clear : Cond.selects RX1 yX1_clear yX1_clear ∈ gl_T := (gl_T_in (by decide +kernel) (by decide +kernel))
set_option maxRecDepth 20000 in
theorem kw_X6_212 : Cond.methodLink RX6 212 yX1_clear ∈ gl_T ∧ Cond.instanceMethod yX1_clear ∈ gl_T ∧ Cond.selects RX1 yX1_clear yX1_clear ∈ gl_T ∧ Cond.initialized yX1_clear.cls ∈ gl_T ∧ Cond.code yX1_clear cX1_clear 2 none ∈ gl_T ∧ gl_Lk yX1_clear 0 := ⟨(gl_T_in (by decide +kernel) (by decide +kernel)), kn_X1_clear, kv_X1_clear, ki_X1_clear, kc_X1_clear, kl_X1_clear⟩
set_option maxRecDepth 20000 in
theorem kc_X1_open : Cond.code yX1_open cX1_open 2 none ∈ gl_T := (gl_T_in (by decide +kernel) (by decide +kernel))
theorem kl_X1_open : gl_Lk yX1_open 1 := ⟨by decide +kernel, by decide +kernel, by decide +kernel⟩
set_option maxRecDepth 20000 in
theorem ki_X1_open : Cond.initialized yX1_open.cls ∈ gl_T := (gl_T_in (by decide +kernel) (by decide +kernel))
set_option maxRecDepth 20000 in
theorem kn_X1_open : Cond.instanceMethod yX1_open ∈ gl_T := (gl_T_in (by decide +kernel) (by decide +kernel))
set_option maxRecDepth 20000 in
theorem kv_X1_open : Cond.selects RX1 yX1_open yX1_open ∈ gl_T := (gl_T_in (by decide +kernel) (by decide +kernel))
set_option maxRecDepth 20000 in
theorem kw_X6_215 : Cond.methodLink RX6 215 yX1_open ∈ gl_T ∧ Cond.instanceMethod yX1_open ∈ gl_T ∧ Cond.selects RX1 yX1_open yX1_open ∈ gl_T ∧ Cond.initialized yX1_open.cls ∈ gl_T ∧ Cond.code yX1_open cX1_open 2 none ∈ gl_T ∧ gl_Lk yX1_open 1 := ⟨(gl_T_in (by decide +kernel) (by decide +kernel)), kn_X1_open, kv_X1_open, ki_X1_open, kc_X1_open, kl_X1_open⟩
set_option maxRecDepth 20000 in
theorem kc_X6_offerTeachers : Cond.code yX6_offerTeachers cX6_offerTeachers 5 none ∈ gl_T := (gl_T_in (by decide +kernel) (by decide +kernel))
theorem kl_X6_offerTeachers : gl_Lk yX6_offerTeachers 2 := ⟨by decide +kernel, by decide +kernel, by decide +kernel⟩
set_option maxRecDepth 20000 in
theorem ki_X6_offerTeachers : Cond.initialized yX6_offerTeachers.cls ∈ gl_T := (gl_T_in (by decide +kernel) (by decide +kernel))
set_option maxRecDepth 20000 in
theorem kn_X6_offerTeachers : Cond.instanceMethod yX6_offerTeachers ∈ gl_T := (gl_T_in (by decide +kernel) (by decide +kernel))
set_option maxRecDepth 20000 in
theorem kv_X6_offerTeachers : Cond.selects RX6 yX6_offerTeachers yX6_offerTeachers ∈ gl_T := (gl_T_in (by decide +kernel) (by decide +kernel))
set_option maxRecDepth 20000 in
theorem kw_X6_218 : Cond.methodLink RX6 218 yX6_offerTeachers ∈ gl_T ∧ Cond.instanceMethod yX6_offerTeachers ∈ gl_T ∧ Cond.selects RX6 yX6_offerTeachers yX6_offerTeachers ∈ gl_T ∧ Cond.initialized yX6_offerTeachers.cls ∈ gl_T ∧ Cond.code yX6_offerTeachers cX6_offerTeachers 5 none ∈ gl_T ∧ gl_Lk yX6_offerTeachers 2 := ⟨(gl_T_in (by decide +kernel) (by decide +kernel)), kn_X6_offerTeachers, kv_X6_offerTeachers, ki_X6_offerTeachers, kc_X6_offerTeachers, kl_X6_offerTeachers⟩
set_option maxRecDepth 20000 in
theorem kc_X1_offer : Cond.code yX1_offer cX1_offer 4 none ∈ gl_T := (gl_T_in (by decide +kernel) (by decide +kernel))
theorem kl_X1_offer : gl_Lk yX1_offer 3 := ⟨by decide +kernel, by decide +kernel, by decide +kernel⟩
set_option maxRecDepth 20000 in
theorem ki_X1_offer : Cond.initialized yX1_offer.cls ∈ gl_T := (gl_T_in (by decide +kernel) (by decide +kernel))
set_option maxRecDepth 20000 in
theorem kn_X1_offer : Cond.instanceMethod yX1_offer ∈ gl_T := (gl_T_in (by decide +kernel) (by decide +kernel))
set_option maxRecDepth 20000 in
theorem kv_X1_offer : Cond.selects RX1 yX1_offer yX1_offer ∈ gl_T := (gl_T_in (by decide +kernel) (by decide +kernel))
set_option maxRecDepth 20000 in
theorem kw_X6_222 : Cond.methodLink RX6 222 yX1_offer ∈ gl_T ∧ Cond.instanceMethod yX1_offer ∈ gl_T ∧ Cond.selects RX1 yX1_offer yX1_offer ∈ gl_T ∧ Cond.initialized yX1_offer.cls ∈ gl_T ∧ Cond.code yX1_offer cX1_offer 4 none ∈ gl_T ∧ gl_Lk yX1_offer 3 := ⟨(gl_T_in (by decide +kernel) (by decide +kernel)), kn_X1_offer, kv_X1_offer, ki_X1_offer, kc_X1_offer, kl_X1_offer⟩
set_option maxRecDepth 20000 in
theorem kc_X4_workAt : Cond.code yX4_workAt cX4_workAt 4 none ∈ gl_T := (gl_T_in (by decide +kernel) (by decide +kernel))
theorem kl_X4_workAt : gl_Lk yX4_workAt 2 := ⟨by decide +kernel, by decide +kernel, by decide +kernel⟩
set_option maxRecDepth 20000 in
theorem ki_X4_workAt : Cond.initialized yX4_workAt.cls ∈ gl_T := (gl_T_in (by decide +kernel) (by decide +kernel))
set_option maxRecDepth 20000 in
theorem kn_X4_workAt : Cond.instanceMethod yX4_workAt ∈ gl_T := (gl_T_in (by decide +kernel) (by decide +kernel))
set_option maxRecDepth 20000 in
theorem kv_X4_workAt : Cond.selects RX4 yX4_workAt yX4_workAt ∈ gl_T := (gl_T_in (by decide +kernel) (by decide +kernel))
set_option maxRecDepth 20000 in
theorem kw_X6_225 : Cond.methodLink RX6 225 yX4_workAt ∈ gl_T ∧ Cond.instanceMethod yX4_workAt ∈ gl_T ∧ Cond.selects RX4 yX4_workAt yX4_workAt ∈ gl_T ∧ Cond.initialized yX4_workAt.cls ∈ gl_T ∧ Cond.code yX4_workAt cX4_workAt 4 none ∈ gl_T ∧ gl_Lk yX4_workAt 2 := ⟨(gl_T_in (by decide +kernel) (by decide +kernel)), kn_X4_workAt, kv_X4_workAt, ki_X4_workAt, kc_X4_workAt, kl_X4_workAt⟩
set_option maxRecDepth 20000 in
theorem kc_X5_keep : Cond.code yX5_keep cX5_keep 4 none ∈ gl_T := (gl_T_in (by decide +kernel) (by decide +kernel))
theorem kl_X5_keep : gl_Lk yX5_keep 3 := ⟨by decide +kernel, by decide +kernel, by decide +kernel⟩
set_option maxRecDepth 20000 in
theorem ki_X5_keep : Cond.initialized yX5_keep.cls ∈ gl_T := (gl_T_in (by decide +kernel) (by decide +kernel))
set_option maxRecDepth 20000 in
theorem kn_X5_keep : Cond.instanceMethod yX5_keep ∈ gl_T := (gl_T_in (by decide +kernel) (by decide +kernel))
set_option maxRecDepth 20000 in
theorem kv_X5_keep : Cond.selects RX5 yX5_keep yX5_keep ∈ gl_T := (gl_T_in (by decide +kernel) (by decide +kernel))
set_option maxRecDepth 20000 in
theorem kw_X6_229 : Cond.methodLink RX6 229 yX5_keep ∈ gl_T ∧ Cond.instanceMethod yX5_keep ∈ gl_T ∧ Cond.selects RX5 yX5_keep yX5_keep ∈ gl_T ∧ Cond.initialized yX5_keep.cls ∈ gl_T ∧ Cond.code yX5_keep cX5_keep 4 none ∈ gl_T ∧ gl_Lk yX5_keep 3 := ⟨(gl_T_in (by decide +kernel) (by decide +kernel)), kn_X5_keep, kv_X5_keep, ki_X5_keep, kc_X5_keep, kl_X5_keep⟩
set_option maxRecDepth 20000 in
theorem kw_X6_233 : Cond.methodLink RX6 233 yX4_startDay ∈ gl_T ∧ Cond.instanceMethod yX4_startDay ∈ gl_T ∧ Cond.selects RX4 yX4_startDay yX4_startDay ∈ gl_T ∧ Cond.initialized yX4_startDay.cls ∈ gl_T ∧ Cond.code yX4_startDay cX4_startDay 1 none ∈ gl_T ∧ gl_Lk yX4_startDay 0 := ⟨(gl_T_in (by decide +kernel) (by decide +kernel)), kn_X4_startDay, kv_X4_startDay, ki_X4_startDay, kc_X4_startDay, kl_X4_startDay⟩
set_option maxRecDepth 20000 in
theorem kw_X7_1 : Cond.methodLink RX7 1 Lib.objectInit ∈ gl_T ∧ Cond.instanceMethod Lib.objectInit ∈ gl_T ∧ Cond.code Lib.objectInit ⟨#[0xb1]⟩ 1 none ∈ gl_T := ⟨(gl_T_in (by decide +kernel) (by decide +kernel)), (gl_T_in (by decide +kernel) (by decide +kernel)), (gl_T_in (by decide +kernel) (by decide +kernel))⟩
set_option maxRecDepth 20000 in
theorem kc_X7_asAtFirst : Cond.code yX7_asAtFirst cX7_asAtFirst 1 none ∈ gl_T := (gl_T_in (by decide +kernel) (by decide +kernel))
theorem kl_X7_asAtFirst : gl_Lk yX7_asAtFirst 1 := ⟨by decide +kernel, by decide +kernel, by decide +kernel⟩
set_option maxRecDepth 20000 in
theorem ki_X7_asAtFirst : Cond.initialized yX7_asAtFirst.cls ∈ gl_T := (gl_T_in (by decide +kernel) (by decide +kernel))
set_option maxRecDepth 20000 in
theorem ks_X7_asAtFirst : Cond.static yX7_asAtFirst ∈ gl_T := (gl_T_in (by decide +kernel) (by decide +kernel))
set_option maxRecDepth 20000 in
theorem kw_X7_85 : Cond.methodLink RX7 85 yX7_asAtFirst ∈ gl_T ∧ Cond.static yX7_asAtFirst ∈ gl_T ∧ Cond.initialized yX7_asAtFirst.cls ∈ gl_T ∧ Cond.code yX7_asAtFirst cX7_asAtFirst 1 none ∈ gl_T ∧ gl_Lk yX7_asAtFirst 1 := ⟨(gl_T_in (by decide +kernel) (by decide +kernel)), ks_X7_asAtFirst, ki_X7_asAtFirst, kc_X7_asAtFirst, kl_X7_asAtFirst⟩
set_option maxRecDepth 20000 in
theorem kc_X7_push : Cond.code yX7_push cX7_push 3 none ∈ gl_T := (gl_T_in (by decide +kernel) (by decide +kernel))
theorem kl_X7_push : gl_Lk yX7_push 1 := ⟨by decide +kernel, by decide +kernel, by decide +kernel⟩
set_option maxRecDepth 20000 in
theorem ki_X7_push : Cond.initialized yX7_push.cls ∈ gl_T := (gl_T_in (by decide +kernel) (by decide +kernel))
set_option maxRecDepth 20000 in
theorem kn_X7_push : Cond.instanceMethod yX7_push ∈ gl_T := (gl_T_in (by decide +kernel) (by decide +kernel))
set_option maxRecDepth 20000 in
theorem kv_X7_push : Cond.selects RX7 yX7_push yX7_push ∈ gl_T := (gl_T_in (by decide +kernel) (by decide +kernel))
set_option maxRecDepth 20000 in
theorem kw_X7_93 : Cond.methodLink RX7 93 yX7_push ∈ gl_T ∧ Cond.instanceMethod yX7_push ∈ gl_T ∧ Cond.selects RX7 yX7_push yX7_push ∈ gl_T ∧ Cond.initialized yX7_push.cls ∈ gl_T ∧ Cond.code yX7_push cX7_push 3 none ∈ gl_T ∧ gl_Lk yX7_push 1 := ⟨(gl_T_in (by decide +kernel) (by decide +kernel)), kn_X7_push, kv_X7_push, ki_X7_push, kc_X7_push, kl_X7_push⟩
set_option maxRecDepth 20000 in
theorem kc_X7_lies : Cond.code yX7_lies cX7_lies 3 (some .boolean) ∈ gl_T := (gl_T_in (by decide +kernel) (by decide +kernel))
theorem kl_X7_lies : gl_Lk yX7_lies 3 := ⟨by decide +kernel, by decide +kernel, by decide +kernel⟩
set_option maxRecDepth 20000 in
theorem ki_X7_lies : Cond.initialized yX7_lies.cls ∈ gl_T := (gl_T_in (by decide +kernel) (by decide +kernel))
set_option maxRecDepth 20000 in
theorem ks_X7_lies : Cond.static yX7_lies ∈ gl_T := (gl_T_in (by decide +kernel) (by decide +kernel))
set_option maxRecDepth 20000 in
theorem kw_X7_97 : Cond.methodLink RX7 97 yX7_lies ∈ gl_T ∧ Cond.static yX7_lies ∈ gl_T ∧ Cond.initialized yX7_lies.cls ∈ gl_T ∧ Cond.code yX7_lies cX7_lies 3 (some .boolean) ∈ gl_T ∧ gl_Lk yX7_lies 3 := ⟨(gl_T_in (by decide +kernel) (by decide +kernel)), ks_X7_lies, ki_X7_lies, kc_X7_lies, kl_X7_lies⟩
set_option maxRecDepth 20000 in
theorem kc_X7_at : Cond.code yX7_at cX7_at 3 (some .int) ∈ gl_T := (gl_T_in (by decide +kernel) (by decide +kernel))
theorem kl_X7_at : gl_Lk yX7_at 2 := ⟨by decide +kernel, by decide +kernel, by decide +kernel⟩
set_option maxRecDepth 20000 in
theorem ki_X7_at : Cond.initialized yX7_at.cls ∈ gl_T := (gl_T_in (by decide +kernel) (by decide +kernel))
set_option maxRecDepth 20000 in
theorem kn_X7_at : Cond.instanceMethod yX7_at ∈ gl_T := (gl_T_in (by decide +kernel) (by decide +kernel))
set_option maxRecDepth 20000 in
theorem kv_X7_at : Cond.selects RX7 yX7_at yX7_at ∈ gl_T := (gl_T_in (by decide +kernel) (by decide +kernel))
set_option maxRecDepth 20000 in
theorem kw_X7_101 : Cond.methodLink RX7 101 yX7_at ∈ gl_T ∧ Cond.instanceMethod yX7_at ∈ gl_T ∧ Cond.selects RX7 yX7_at yX7_at ∈ gl_T ∧ Cond.initialized yX7_at.cls ∈ gl_T ∧ Cond.code yX7_at cX7_at 3 (some .int) ∈ gl_T ∧ gl_Lk yX7_at 2 := ⟨(gl_T_in (by decide +kernel) (by decide +kernel)), kn_X7_at, kv_X7_at, ki_X7_at, kc_X7_at, kl_X7_at⟩
set_option maxRecDepth 20000 in
theorem kc_X7_letter : Cond.code yX7_letter cX7_letter 1 (some .int) ∈ gl_T := (gl_T_in (by decide +kernel) (by decide +kernel))
theorem kl_X7_letter : gl_Lk yX7_letter 1 := ⟨by decide +kernel, by decide +kernel, by decide +kernel⟩
set_option maxRecDepth 20000 in
theorem ki_X7_letter : Cond.initialized yX7_letter.cls ∈ gl_T := (gl_T_in (by decide +kernel) (by decide +kernel))
set_option maxRecDepth 20000 in
theorem ks_X7_letter : Cond.static yX7_letter ∈ gl_T := (gl_T_in (by decide +kernel) (by decide +kernel))
set_option maxRecDepth 20000 in
theorem kw_X7_105 : Cond.methodLink RX7 105 yX7_letter ∈ gl_T ∧ Cond.static yX7_letter ∈ gl_T ∧ Cond.initialized yX7_letter.cls ∈ gl_T ∧ Cond.code yX7_letter cX7_letter 1 (some .int) ∈ gl_T ∧ gl_Lk yX7_letter 1 := ⟨(gl_T_in (by decide +kernel) (by decide +kernel)), ks_X7_letter, ki_X7_letter, kc_X7_letter, kl_X7_letter⟩
set_option maxRecDepth 20000 in
theorem kc_X7_canBe : Cond.code yX7_canBe cX7_canBe 2 (some .boolean) ∈ gl_T := (gl_T_in (by decide +kernel) (by decide +kernel))
theorem kl_X7_canBe : gl_Lk yX7_canBe 2 := ⟨by decide +kernel, by decide +kernel, by decide +kernel⟩
set_option maxRecDepth 20000 in
theorem ki_X7_canBe : Cond.initialized yX7_canBe.cls ∈ gl_T := (gl_T_in (by decide +kernel) (by decide +kernel))
set_option maxRecDepth 20000 in
theorem ks_X7_canBe : Cond.static yX7_canBe ∈ gl_T := (gl_T_in (by decide +kernel) (by decide +kernel))
set_option maxRecDepth 20000 in
theorem kw_X7_109 : Cond.methodLink RX7 109 yX7_canBe ∈ gl_T ∧ Cond.static yX7_canBe ∈ gl_T ∧ Cond.initialized yX7_canBe.cls ∈ gl_T ∧ Cond.code yX7_canBe cX7_canBe 2 (some .boolean) ∈ gl_T ∧ gl_Lk yX7_canBe 2 := ⟨(gl_T_in (by decide +kernel) (by decide +kernel)), ks_X7_canBe, ki_X7_canBe, kc_X7_canBe, kl_X7_canBe⟩
set_option maxRecDepth 20000 in
theorem kc_X7_reads : Cond.code yX7_reads cX7_reads 7 (some .int) ∈ gl_T := (gl_T_in (by decide +kernel) (by decide +kernel))
theorem kl_X7_reads : gl_Lk yX7_reads 1 := ⟨by decide +kernel, by decide +kernel, by decide +kernel⟩
set_option maxRecDepth 20000 in
theorem ki_X7_reads : Cond.initialized yX7_reads.cls ∈ gl_T := (gl_T_in (by decide +kernel) (by decide +kernel))
set_option maxRecDepth 20000 in
theorem kn_X7_reads : Cond.instanceMethod yX7_reads ∈ gl_T := (gl_T_in (by decide +kernel) (by decide +kernel))
set_option maxRecDepth 20000 in
theorem kv_X7_reads : Cond.selects RX7 yX7_reads yX7_reads ∈ gl_T := (gl_T_in (by decide +kernel) (by decide +kernel))
set_option maxRecDepth 20000 in
theorem kw_X7_113 : Cond.methodLink RX7 113 yX7_reads ∈ gl_T ∧ Cond.instanceMethod yX7_reads ∈ gl_T ∧ Cond.selects RX7 yX7_reads yX7_reads ∈ gl_T ∧ Cond.initialized yX7_reads.cls ∈ gl_T ∧ Cond.code yX7_reads cX7_reads 7 (some .int) ∈ gl_T ∧ gl_Lk yX7_reads 1 := ⟨(gl_T_in (by decide +kernel) (by decide +kernel)), kn_X7_reads, kv_X7_reads, ki_X7_reads, kc_X7_reads, kl_X7_reads⟩
set_option maxRecDepth 20000 in
theorem kc_X7_isTeacher : Cond.code yX7_isTeacher cX7_isTeacher 2 (some .boolean) ∈ gl_T := (gl_T_in (by decide +kernel) (by decide +kernel))
theorem kl_X7_isTeacher : gl_Lk yX7_isTeacher 1 := ⟨by decide +kernel, by decide +kernel, by decide +kernel⟩
set_option maxRecDepth 20000 in
theorem ki_X7_isTeacher : Cond.initialized yX7_isTeacher.cls ∈ gl_T := (gl_T_in (by decide +kernel) (by decide +kernel))
set_option maxRecDepth 20000 in
theorem kn_X7_isTeacher : Cond.instanceMethod yX7_isTeacher ∈ gl_T := (gl_T_in (by decide +kernel) (by decide +kernel))
set_option maxRecDepth 20000 in
theorem kv_X7_isTeacher : Cond.selects RX7 yX7_isTeacher yX7_isTeacher ∈ gl_T := (gl_T_in (by decide +kernel) (by decide +kernel))
set_option maxRecDepth 20000 in
theorem kw_X7_126 : Cond.methodLink RX7 126 yX7_isTeacher ∈ gl_T ∧ Cond.instanceMethod yX7_isTeacher ∈ gl_T ∧ Cond.selects RX7 yX7_isTeacher yX7_isTeacher ∈ gl_T ∧ Cond.initialized yX7_isTeacher.cls ∈ gl_T ∧ Cond.code yX7_isTeacher cX7_isTeacher 2 (some .boolean) ∈ gl_T ∧ gl_Lk yX7_isTeacher 1 := ⟨(gl_T_in (by decide +kernel) (by decide +kernel)), kn_X7_isTeacher, kv_X7_isTeacher, ki_X7_isTeacher, kc_X7_isTeacher, kl_X7_isTeacher⟩
set_option maxRecDepth 20000 in
theorem kc_X7_has : Cond.code yX7_has cX7_has 2 (some .boolean) ∈ gl_T := (gl_T_in (by decide +kernel) (by decide +kernel))
theorem kl_X7_has : gl_Lk yX7_has 2 := ⟨by decide +kernel, by decide +kernel, by decide +kernel⟩
set_option maxRecDepth 20000 in
theorem ki_X7_has : Cond.initialized yX7_has.cls ∈ gl_T := (gl_T_in (by decide +kernel) (by decide +kernel))
set_option maxRecDepth 20000 in
theorem ks_X7_has : Cond.static yX7_has ∈ gl_T := (gl_T_in (by decide +kernel) (by decide +kernel))
set_option maxRecDepth 20000 in
theorem kw_X7_130 : Cond.methodLink RX7 130 yX7_has ∈ gl_T ∧ Cond.static yX7_has ∈ gl_T ∧ Cond.initialized yX7_has.cls ∈ gl_T ∧ Cond.code yX7_has cX7_has 2 (some .boolean) ∈ gl_T ∧ gl_Lk yX7_has 2 := ⟨(gl_T_in (by decide +kernel) (by decide +kernel)), ks_X7_has, ki_X7_has, kc_X7_has, kl_X7_has⟩
set_option maxRecDepth 20000 in
theorem kc_X7_isGap : Cond.code yX7_isGap cX7_isGap 2 (some .boolean) ∈ gl_T := (gl_T_in (by decide +kernel) (by decide +kernel))
theorem kl_X7_isGap : gl_Lk yX7_isGap 1 := ⟨by decide +kernel, by decide +kernel, by decide +kernel⟩
set_option maxRecDepth 20000 in
theorem ki_X7_isGap : Cond.initialized yX7_isGap.cls ∈ gl_T := (gl_T_in (by decide +kernel) (by decide +kernel))
set_option maxRecDepth 20000 in
theorem kn_X7_isGap : Cond.instanceMethod yX7_isGap ∈ gl_T := (gl_T_in (by decide +kernel) (by decide +kernel))
set_option maxRecDepth 20000 in
theorem kv_X7_isGap : Cond.selects RX7 yX7_isGap yX7_isGap ∈ gl_T := (gl_T_in (by decide +kernel) (by decide +kernel))
set_option maxRecDepth 20000 in
theorem kw_X7_136 : Cond.methodLink RX7 136 yX7_isGap ∈ gl_T ∧ Cond.instanceMethod yX7_isGap ∈ gl_T ∧ Cond.selects RX7 yX7_isGap yX7_isGap ∈ gl_T ∧ Cond.initialized yX7_isGap.cls ∈ gl_T ∧ Cond.code yX7_isGap cX7_isGap 2 (some .boolean) ∈ gl_T ∧ gl_Lk yX7_isGap 1 := ⟨(gl_T_in (by decide +kernel) (by decide +kernel)), kn_X7_isGap, kv_X7_isGap, ki_X7_isGap, kc_X7_isGap, kl_X7_isGap⟩
set_option maxRecDepth 20000 in
theorem kc_X7_canFill : Cond.code yX7_canFill cX7_canFill 3 (some .boolean) ∈ gl_T := (gl_T_in (by decide +kernel) (by decide +kernel))
theorem kl_X7_canFill : gl_Lk yX7_canFill 2 := ⟨by decide +kernel, by decide +kernel, by decide +kernel⟩
set_option maxRecDepth 20000 in
theorem ki_X7_canFill : Cond.initialized yX7_canFill.cls ∈ gl_T := (gl_T_in (by decide +kernel) (by decide +kernel))
set_option maxRecDepth 20000 in
theorem kn_X7_canFill : Cond.instanceMethod yX7_canFill ∈ gl_T := (gl_T_in (by decide +kernel) (by decide +kernel))
set_option maxRecDepth 20000 in
theorem kv_X7_canFill : Cond.selects RX7 yX7_canFill yX7_canFill ∈ gl_T := (gl_T_in (by decide +kernel) (by decide +kernel))
set_option maxRecDepth 20000 in
theorem kw_X7_139 : Cond.methodLink RX7 139 yX7_canFill ∈ gl_T ∧ Cond.instanceMethod yX7_canFill ∈ gl_T ∧ Cond.selects RX7 yX7_canFill yX7_canFill ∈ gl_T ∧ Cond.initialized yX7_canFill.cls ∈ gl_T ∧ Cond.code yX7_canFill cX7_canFill 3 (some .boolean) ∈ gl_T ∧ gl_Lk yX7_canFill 2 := ⟨(gl_T_in (by decide +kernel) (by decide +kernel)), kn_X7_canFill, kv_X7_canFill, ki_X7_canFill, kc_X7_canFill, kl_X7_canFill⟩
set_option maxRecDepth 20000 in
theorem kc_X7_costOf : Cond.code yX7_costOf cX7_costOf 4 (some .int) ∈ gl_T := (gl_T_in (by decide +kernel) (by decide +kernel))
theorem kl_X7_costOf : gl_Lk yX7_costOf 2 := ⟨by decide +kernel, by decide +kernel, by decide +kernel⟩
set_option maxRecDepth 20000 in
theorem ki_X7_costOf : Cond.initialized yX7_costOf.cls ∈ gl_T := (gl_T_in (by decide +kernel) (by decide +kernel))
set_option maxRecDepth 20000 in
theorem kn_X7_costOf : Cond.instanceMethod yX7_costOf ∈ gl_T := (gl_T_in (by decide +kernel) (by decide +kernel))
set_option maxRecDepth 20000 in
theorem kv_X7_costOf : Cond.selects RX7 yX7_costOf yX7_costOf ∈ gl_T := (gl_T_in (by decide +kernel) (by decide +kernel))
set_option maxRecDepth 20000 in
theorem kw_X7_142 : Cond.methodLink RX7 142 yX7_costOf ∈ gl_T ∧ Cond.instanceMethod yX7_costOf ∈ gl_T ∧ Cond.selects RX7 yX7_costOf yX7_costOf ∈ gl_T ∧ Cond.initialized yX7_costOf.cls ∈ gl_T ∧ Cond.code yX7_costOf cX7_costOf 4 (some .int) ∈ gl_T ∧ gl_Lk yX7_costOf 2 := ⟨(gl_T_in (by decide +kernel) (by decide +kernel)), kn_X7_costOf, kv_X7_costOf, ki_X7_costOf, kc_X7_costOf, kl_X7_costOf⟩
set_option maxRecDepth 20000 in
theorem kc_X7_senderOf : Cond.code yX7_senderOf cX7_senderOf 3 (some .int) ∈ gl_T := (gl_T_in (by decide +kernel) (by decide +kernel))
theorem kl_X7_senderOf : gl_Lk yX7_senderOf 1 := ⟨by decide +kernel, by decide +kernel, by decide +kernel⟩
set_option maxRecDepth 20000 in
theorem ki_X7_senderOf : Cond.initialized yX7_senderOf.cls ∈ gl_T := (gl_T_in (by decide +kernel) (by decide +kernel))
set_option maxRecDepth 20000 in
theorem kn_X7_senderOf : Cond.instanceMethod yX7_senderOf ∈ gl_T := (gl_T_in (by decide +kernel) (by decide +kernel))
set_option maxRecDepth 20000 in
theorem kv_X7_senderOf : Cond.selects RX7 yX7_senderOf yX7_senderOf ∈ gl_T := (gl_T_in (by decide +kernel) (by decide +kernel))
set_option maxRecDepth 20000 in
theorem kw_X7_146 : Cond.methodLink RX7 146 yX7_senderOf ∈ gl_T ∧ Cond.instanceMethod yX7_senderOf ∈ gl_T ∧ Cond.selects RX7 yX7_senderOf yX7_senderOf ∈ gl_T ∧ Cond.initialized yX7_senderOf.cls ∈ gl_T ∧ Cond.code yX7_senderOf cX7_senderOf 3 (some .int) ∈ gl_T ∧ gl_Lk yX7_senderOf 1 := ⟨(gl_T_in (by decide +kernel) (by decide +kernel)), kn_X7_senderOf, kv_X7_senderOf, ki_X7_senderOf, kc_X7_senderOf, kl_X7_senderOf⟩
set_option maxRecDepth 20000 in
theorem kc_X7_goes : Cond.code yX7_goes cX7_goes 3 (some .boolean) ∈ gl_T := (gl_T_in (by decide +kernel) (by decide +kernel))
theorem kl_X7_goes : gl_Lk yX7_goes 2 := ⟨by decide +kernel, by decide +kernel, by decide +kernel⟩
set_option maxRecDepth 20000 in
theorem ki_X7_goes : Cond.initialized yX7_goes.cls ∈ gl_T := (gl_T_in (by decide +kernel) (by decide +kernel))
set_option maxRecDepth 20000 in
theorem kn_X7_goes : Cond.instanceMethod yX7_goes ∈ gl_T := (gl_T_in (by decide +kernel) (by decide +kernel))
set_option maxRecDepth 20000 in
theorem kv_X7_goes : Cond.selects RX7 yX7_goes yX7_goes ∈ gl_T := (gl_T_in (by decide +kernel) (by decide +kernel))
set_option maxRecDepth 20000 in
theorem kw_X7_149 : Cond.methodLink RX7 149 yX7_goes ∈ gl_T ∧ Cond.instanceMethod yX7_goes ∈ gl_T ∧ Cond.selects RX7 yX7_goes yX7_goes ∈ gl_T ∧ Cond.initialized yX7_goes.cls ∈ gl_T ∧ Cond.code yX7_goes cX7_goes 3 (some .boolean) ∈ gl_T ∧ gl_Lk yX7_goes 2 := ⟨(gl_T_in (by decide +kernel) (by decide +kernel)), kn_X7_goes, kv_X7_goes, ki_X7_goes, kc_X7_goes, kl_X7_goes⟩
set_option maxRecDepth 20000 in
theorem kc_X7_worth : Cond.code yX7_worth cX7_worth 4 (some .int) ∈ gl_T := (gl_T_in (by decide +kernel) (by decide +kernel))
theorem kl_X7_worth : gl_Lk yX7_worth 3 := ⟨by decide +kernel, by decide +kernel, by decide +kernel⟩
set_option maxRecDepth 20000 in
theorem ki_X7_worth : Cond.initialized yX7_worth.cls ∈ gl_T := (gl_T_in (by decide +kernel) (by decide +kernel))
set_option maxRecDepth 20000 in
theorem kn_X7_worth : Cond.instanceMethod yX7_worth ∈ gl_T := (gl_T_in (by decide +kernel) (by decide +kernel))
set_option maxRecDepth 20000 in
theorem kv_X7_worth : Cond.selects RX7 yX7_worth yX7_worth ∈ gl_T := (gl_T_in (by decide +kernel) (by decide +kernel))
set_option maxRecDepth 20000 in
theorem kw_X7_152 : Cond.methodLink RX7 152 yX7_worth ∈ gl_T ∧ Cond.instanceMethod yX7_worth ∈ gl_T ∧ Cond.selects RX7 yX7_worth yX7_worth ∈ gl_T ∧ Cond.initialized yX7_worth.cls ∈ gl_T ∧ Cond.code yX7_worth cX7_worth 4 (some .int) ∈ gl_T ∧ gl_Lk yX7_worth 3 := ⟨(gl_T_in (by decide +kernel) (by decide +kernel)), kn_X7_worth, kv_X7_worth, ki_X7_worth, kc_X7_worth, kl_X7_worth⟩
set_option maxRecDepth 20000 in
theorem kc_X7_works : Cond.code yX7_works cX7_works 7 none ∈ gl_T := (gl_T_in (by decide +kernel) (by decide +kernel))
theorem kl_X7_works : gl_Lk yX7_works 0 := ⟨by decide +kernel, by decide +kernel, by decide +kernel⟩
set_option maxRecDepth 20000 in
theorem ki_X7_works : Cond.initialized yX7_works.cls ∈ gl_T := (gl_T_in (by decide +kernel) (by decide +kernel))
set_option maxRecDepth 20000 in
theorem kn_X7_works : Cond.instanceMethod yX7_works ∈ gl_T := (gl_T_in (by decide +kernel) (by decide +kernel))
set_option maxRecDepth 20000 in
theorem kv_X7_works : Cond.selects RX7 yX7_works yX7_works ∈ gl_T := (gl_T_in (by decide +kernel) (by decide +kernel))
set_option maxRecDepth 20000 in
theorem kw_X7_162 : Cond.methodLink RX7 162 yX7_works ∈ gl_T ∧ Cond.instanceMethod yX7_works ∈ gl_T ∧ Cond.selects RX7 yX7_works yX7_works ∈ gl_T ∧ Cond.initialized yX7_works.cls ∈ gl_T ∧ Cond.code yX7_works cX7_works 7 none ∈ gl_T ∧ gl_Lk yX7_works 0 := ⟨(gl_T_in (by decide +kernel) (by decide +kernel)), kn_X7_works, kv_X7_works, ki_X7_works, kc_X7_works, kl_X7_works⟩
set_option maxRecDepth 20000 in
theorem kc_X7_sizeOf : Cond.code yX7_sizeOf cX7_sizeOf 3 (some .int) ∈ gl_T := (gl_T_in (by decide +kernel) (by decide +kernel))
theorem kl_X7_sizeOf : gl_Lk yX7_sizeOf 1 := ⟨by decide +kernel, by decide +kernel, by decide +kernel⟩
set_option maxRecDepth 20000 in
theorem ki_X7_sizeOf : Cond.initialized yX7_sizeOf.cls ∈ gl_T := (gl_T_in (by decide +kernel) (by decide +kernel))
set_option maxRecDepth 20000 in
theorem ks_X7_sizeOf : Cond.static yX7_sizeOf ∈ gl_T := (gl_T_in (by decide +kernel) (by decide +kernel))
set_option maxRecDepth 20000 in
theorem kw_X7_165 : Cond.methodLink RX7 165 yX7_sizeOf ∈ gl_T ∧ Cond.static yX7_sizeOf ∈ gl_T ∧ Cond.initialized yX7_sizeOf.cls ∈ gl_T ∧ Cond.code yX7_sizeOf cX7_sizeOf 3 (some .int) ∈ gl_T ∧ gl_Lk yX7_sizeOf 1 := ⟨(gl_T_in (by decide +kernel) (by decide +kernel)), ks_X7_sizeOf, ki_X7_sizeOf, kc_X7_sizeOf, kl_X7_sizeOf⟩
set_option maxRecDepth 20000 in
theorem kc_X7_goesBy : Cond.code yX7_goesBy cX7_goesBy 4 none ∈ gl_T := (gl_T_in (by decide +kernel) (by decide +kernel))
theorem kl_X7_goesBy : gl_Lk yX7_goesBy 1 := ⟨by decide +kernel, by decide +kernel, by decide +kernel⟩
set_option maxRecDepth 20000 in
theorem ki_X7_goesBy : Cond.initialized yX7_goesBy.cls ∈ gl_T := (gl_T_in (by decide +kernel) (by decide +kernel))
set_option maxRecDepth 20000 in
theorem kn_X7_goesBy : Cond.instanceMethod yX7_goesBy ∈ gl_T := (gl_T_in (by decide +kernel) (by decide +kernel))
set_option maxRecDepth 20000 in
theorem kv_X7_goesBy : Cond.selects RX7 yX7_goesBy yX7_goesBy ∈ gl_T := (gl_T_in (by decide +kernel) (by decide +kernel))
set_option maxRecDepth 20000 in
theorem kw_X7_171 : Cond.methodLink RX7 171 yX7_goesBy ∈ gl_T ∧ Cond.instanceMethod yX7_goesBy ∈ gl_T ∧ Cond.selects RX7 yX7_goesBy yX7_goesBy ∈ gl_T ∧ Cond.initialized yX7_goesBy.cls ∈ gl_T ∧ Cond.code yX7_goesBy cX7_goesBy 4 none ∈ gl_T ∧ gl_Lk yX7_goesBy 1 := ⟨(gl_T_in (by decide +kernel) (by decide +kernel)), kn_X7_goesBy, kv_X7_goesBy, ki_X7_goesBy, kc_X7_goesBy, kl_X7_goesBy⟩
set_option maxRecDepth 20000 in
theorem kc_X7_kept : Cond.code yX7_kept cX7_kept 1 (some .int) ∈ gl_T := (gl_T_in (by decide +kernel) (by decide +kernel))
theorem kl_X7_kept : gl_Lk yX7_kept 0 := ⟨by decide +kernel, by decide +kernel, by decide +kernel⟩
set_option maxRecDepth 20000 in
theorem ki_X7_kept : Cond.initialized yX7_kept.cls ∈ gl_T := (gl_T_in (by decide +kernel) (by decide +kernel))
set_option maxRecDepth 20000 in
theorem kn_X7_kept : Cond.instanceMethod yX7_kept ∈ gl_T := (gl_T_in (by decide +kernel) (by decide +kernel))
set_option maxRecDepth 20000 in
theorem kv_X7_kept : Cond.selects RX7 yX7_kept yX7_kept ∈ gl_T := (gl_T_in (by decide +kernel) (by decide +kernel))
set_option maxRecDepth 20000 in
theorem kw_X7_174 : Cond.methodLink RX7 174 yX7_kept ∈ gl_T ∧ Cond.instanceMethod yX7_kept ∈ gl_T ∧ Cond.selects RX7 yX7_kept yX7_kept ∈ gl_T ∧ Cond.initialized yX7_kept.cls ∈ gl_T ∧ Cond.code yX7_kept cX7_kept 1 (some .int) ∈ gl_T ∧ gl_Lk yX7_kept 0 := ⟨(gl_T_in (by decide +kernel) (by decide +kernel)), kn_X7_kept, kv_X7_kept, ki_X7_kept, kc_X7_kept, kl_X7_kept⟩
set_option maxRecDepth 20000 in
theorem kc_X7_thoseWho : Cond.code yX7_thoseWho cX7_thoseWho 4 (some .int) ∈ gl_T := (gl_T_in (by decide +kernel) (by decide +kernel))
theorem kl_X7_thoseWho : gl_Lk yX7_thoseWho 1 := ⟨by decide +kernel, by decide +kernel, by decide +kernel⟩
set_option maxRecDepth 20000 in
theorem ki_X7_thoseWho : Cond.initialized yX7_thoseWho.cls ∈ gl_T := (gl_T_in (by decide +kernel) (by decide +kernel))
set_option maxRecDepth 20000 in
theorem kn_X7_thoseWho : Cond.instanceMethod yX7_thoseWho ∈ gl_T := (gl_T_in (by decide +kernel) (by decide +kernel))
set_option maxRecDepth 20000 in
theorem kv_X7_thoseWho : Cond.selects RX7 yX7_thoseWho yX7_thoseWho ∈ gl_T := (gl_T_in (by decide +kernel) (by decide +kernel))
set_option maxRecDepth 20000 in
theorem kw_X7_178 : Cond.methodLink RX7 178 yX7_thoseWho ∈ gl_T ∧ Cond.instanceMethod yX7_thoseWho ∈ gl_T ∧ Cond.selects RX7 yX7_thoseWho yX7_thoseWho ∈ gl_T ∧ Cond.initialized yX7_thoseWho.cls ∈ gl_T ∧ Cond.code yX7_thoseWho cX7_thoseWho 4 (some .int) ∈ gl_T ∧ gl_Lk yX7_thoseWho 1 := ⟨(gl_T_in (by decide +kernel) (by decide +kernel)), kn_X7_thoseWho, kv_X7_thoseWho, ki_X7_thoseWho, kc_X7_thoseWho, kl_X7_thoseWho⟩
