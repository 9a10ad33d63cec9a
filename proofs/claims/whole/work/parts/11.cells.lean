/-! rows that touch cells -/
section GC
variable {M : gl_M} {x : gl_X} {Z : State → Prop} {pc : Nat} {ls : List (Option Value)} {st : List Value} {S : gl_H} {k : Nat × Nat}
theorem gl_at {D : va_G} {K : Nat → ClassId} {A : Nat → Prop} {ad : Nat → Nat} {H : Heap} {pl : Nat} {c : gl_C} (hR : gl_R D K A ad S H) (hS : S pl = some c) : ∃ (L : List Nat) (j : Nat), (∀ p, S p ≠ none ↔ p ∈ L) ∧ L.Nodup ∧ va_P D gl_cl (gl_wl K ad S L) H ∧ va_D A (gl_wl K ad S L) ∧ gl_wf S ∧ (∀ p, S p ≠ none → ¬ gl_xt p) ∧ L[j]? = some pl ∧ (gl_wl K ad S L)[j]? = some (ad pl, gl_mE K ad c) := by
  obtain ⟨L, h1, h2, h3, h4, h5, h6⟩ := hR
  obtain ⟨j, hj⟩ := List.getElem?_of_mem ((h1 pl).mp (gl_some hS))
  exact ⟨L, j, h1, h2, h3, h4, h5, h6, hj, gl_wl_at hj hS⟩
theorem gl_Ag.pu {S0 : gl_H} {ad0 ad : Nat → Nat} {pl : Nat} {c : gl_C} (h : gl_Ag S0 ad0 S ad) : gl_Ag S0 ad0 (gl_pu S pl c) ad := fun p => ⟨fun q => by
  by_cases e : p = pl
  · rw [e, gl_pu_s]; exact fun z => by cases z
  · rw [gl_pu_n S c e]; exact (h p).1 q, (h p).2⟩
theorem gl_bd.pu {v : Value} {pl : Nat} {c : gl_C} (h : gl_bd S v) : gl_bd (gl_pu S pl c) v := fun r e => by
  rcases h r e with q | q
  · refine Or.inl ?_
    by_cases z : r = pl
    · rw [z, gl_pu_s]; exact fun y => by cases y
    · rw [gl_pu_n S c z]; exact q
  · exact Or.inr q
theorem gl_bds.pu {pl : Nat} {c : gl_C} (h : ∀ v ∈ st, gl_bd S v) : ∀ v ∈ st, gl_bd (gl_pu S pl c) v := fun v hv => (h v hv).pu
theorem gl_bdq.pu {pl : Nat} {c : gl_C} {l : List (Nat × Value)} (h : ∀ q ∈ l, gl_bd S q.2) : ∀ q ∈ l, gl_bd (gl_pu S pl c) q.2 := fun v hv => (h v hv).pu
theorem gl_fs {ad : Nat → Nat} {fs : List Value} {i : Nat} {v : Value} (h : fs[i]? = some v) : (fs.map (gl_mv ad))[i]? = some (gl_mv ad v) := by rw [List.getElem?_map, h]; rfl
theorem gg_get {C ref : String} {T : u_T} {N ci idx pl : Nat} {fs : List Value} {v : Value} (f : Nat) (hd : decode M.1 pc = .ok (.getfield idx, 3)) (hin : ∀ w ∈ u_ws C T N, w ∈ gl_T) (hc : gl_cl[ci]? = some (C, T, N)) (hf : f < N) (hl : Cond.fieldLink M.2.1 idx ref (T f).2.1 (T f).2.2.1 ∈ gl_T) (hr : ref = (T f).1) (hS : S pl = some (.inr (ci, fs))) (hv : fs[f]? = some v) (K : GG M x Z (pc + 3) ls (v :: st) S k) : GG M x Z pc ls (.ref pl :: st) S k := by
  obtain ⟨p, l, e, R, s, m, args, below, meth, c, D, Kc, A, ad0, S0⟩ := x
  intro ok ad H locs LS hR hSS hAg hst hls hLS
  subst hr
  obtain ⟨L, j, h1, h2, h3, h4, h5, h6, h7, h8⟩ := gl_at hR hS
  have hbv : gl_bd S v := fun r e => Or.inl (h5 pl _ hS r (by rw [e] at hv; exact List.mem_of_getElem? hv))
  exact va_get ok.1 ok.2.1 ok.2.2.2.2.2.1 hin ok.2.2.2.2.1 ok.2.2.2.2.2.2.2.2.2.1 h3 j h8 hc f hf (ok.2.2.2.2.2.1 _ hl) (fun _ h => h) (gl_fs hv) hd (K ok ad H locs LS hR hSS hAg (gl_bd_c hbv (gl_bd_t hst)) hls hLS)
theorem gg_put {C ref : String} {T : u_T} {ty0 : Nat → FieldType} {N ci idx pl : Nat} {fs : List Value} {v : Value} {ty : FieldType} (f : Nat) (hd : decode M.1 pc = .ok (.putfield idx, 3)) (hin : ∀ w ∈ u_ws C T N, w ∈ gl_T) (hty : ∀ k, k < N → parseFieldDescriptor (T k).2.2.1 = some (ty0 k)) (hnm : ∀ a, a < N → ∀ b, b < N → a ≠ b → (T a).2.1 ≠ (T b).2.1) (hc : gl_cl[ci]? = some (C, T, N)) (hf : f < N) (hl : Cond.fieldLink M.2.1 idx ref (T f).2.1 (T f).2.2.1 ∈ gl_T) (hr : ref = (T f).1) (hfin : (T f).2.2.2 = false) (htd : parseFieldDescriptor (T f).2.2.1 = some ty)
    (hS : S pl = some (.inr (ci, fs))) (hlen : f < fs.length) (hn : narrow ty v = v) (hfit : fits ty v = true) (hnr : ∀ r, v ≠ .ref r) (K : GG M x Z (pc + 3) ls st (gl_pu S pl (.inr (ci, fs.set f v))) k) : GG M x Z pc ls (v :: .ref pl :: st) S k := by
  obtain ⟨p, l, e, R, s, m, args, below, meth, c, D, Kc, A, ad0, S0⟩ := x
  intro ok ad H locs LS hR hSS hAg hst hls hLS
  subst hr
  obtain ⟨L, j, h1, h2, h3, h4, h5, h6, h7, h8⟩ := gl_at hR hS
  have hmv : gl_mv ad v = v := by
    cases v with
    | ref r => exact absurd rfl (hnr r)
    | _ => rfl
  have hset : (fs.map (gl_mv ad)).set f v = (fs.set f v).map (gl_mv ad) := by rw [List.map_set, hmv]
  show W p l e R s m args below meth c H locs k.1 k.2 Z (F0 m pc LS (gl_mv ad v :: .ref (ad pl) :: st.map (gl_mv ad)))
  rw [hmv]
  refine va_put ok.1 ok.2.1 ok.2.2.2.2.2.1 hin ty0 hty hnm ok.2.2.2.2.1 ok.2.2.2.2.2.2.2.2.2.1 h3 h4 hSS j h8 hc f hf (ok.2.2.2.2.2.1 _ hl) (fun _ h => h) hfin htd hn hfit (by rw [List.length_map]; exact hlen) hd (fun H1 locs1 q1 q2 q3 => ?_)
  rw [hset] at q1 q2
  refine K ok ad H1 locs1 LS (gl_R.pu (c' := .inr (ci, fs.set f v)) h1 h2 h5 h6 h7 hS (fun r hr => Or.inl ?_) q1 q2) q3 hAg.pu (gl_bds.pu (gl_bd_t (gl_bd_t hst))) (gl_bdq.pu hls) hLS
  rcases List.mem_or_eq_of_mem_set (show Value.ref r ∈ fs.set f v from hr) with h | h
  · exact h
  · exact absurd h.symm (hnr r)
/-- a reference, in a constructor's final field -/
theorem gg_putF {C ref : String} {T : u_T} {ty0 : Nat → FieldType} {N ci idx pl rv : Nat} {fs : List Value} {ty : FieldType} (f : Nat) (hd : decode M.1 pc = .ok (.putfield idx, 3)) (hin : ∀ w ∈ u_ws C T N, w ∈ gl_T) (hty : ∀ k, k < N → parseFieldDescriptor (T k).2.2.1 = some (ty0 k)) (hnm : ∀ a, a < N → ∀ b, b < N → a ≠ b → (T a).2.1 ≠ (T b).2.1) (hc : gl_cl[ci]? = some (C, T, N)) (hf : f < N) (hl : Cond.fieldLink M.2.1 idx ref (T f).2.1 (T f).2.2.1 ∈ gl_T) (hr : ref = (T f).1) (hfin : (T f).2.2.2 = true) (hi : M.2.2.2.2.1 = true) (ho : (T f).1 = M.2.1) (htd : parseFieldDescriptor (T f).2.2.1 = some ty)
    (hS : S pl = some (.inr (ci, fs))) (hlen : f < fs.length) (hn : ∀ a : Nat, narrow ty (.ref a) = .ref a ∧ fits ty (.ref a) = true) (hrv : S rv ≠ none) (K : GG M x Z (pc + 3) ls st (gl_pu S pl (.inr (ci, fs.set f (.ref rv)))) k) : GG M x Z pc ls (.ref rv :: .ref pl :: st) S k := by
  obtain ⟨p, l, e, R, s, m, args, below, meth, c, D, Kc, A, ad0, S0⟩ := x
  intro ok ad H locs LS hR hSS hAg hst hls hLS
  subst hr
  obtain ⟨L, j, h1, h2, h3, h4, h5, h6, h7, h8⟩ := gl_at hR hS
  have hset : (fs.map (gl_mv ad)).set f (gl_mv ad (.ref rv)) = (fs.set f (.ref rv)).map (gl_mv ad) := by rw [List.map_set]
  refine va_putF ok.1 ok.2.1 ok.2.2.2.2.2.1 hin ty0 hty hnm ok.2.2.2.2.1 ok.2.2.2.2.2.2.2.2.2.1 h3 h4 hSS j h8 hc f hf (ok.2.2.2.2.2.1 _ hl) (fun _ h => h) hfin (ok.2.2.2.2.2.2.2.1 hi) ho htd (hn (ad rv)).1 (hn (ad rv)).2 (by rw [List.length_map]; exact hlen) hd (fun H1 locs1 q1 q2 q3 => ?_)
  rw [hset] at q1 q2
  refine K ok ad H1 locs1 LS (gl_R.pu (c' := .inr (ci, fs.set f (.ref rv))) h1 h2 h5 h6 h7 hS (fun r hr => ?_) q1 q2) q3 hAg.pu (gl_bds.pu (gl_bd_t (gl_bd_t hst))) (gl_bdq.pu hls) hLS
  rcases List.mem_or_eq_of_mem_set (show Value.ref r ∈ fs.set f (.ref rv) from hr) with h | h
  · exact Or.inl h
  · cases h; exact Or.inr hrv
/-- a number, in a constructor's final field -/
theorem gg_putFi {C ref : String} {T : u_T} {ty0 : Nat → FieldType} {N ci idx pl : Nat} {fs : List Value} {a : Int32} (f : Nat) (hd : decode M.1 pc = .ok (.putfield idx, 3)) (hin : ∀ w ∈ u_ws C T N, w ∈ gl_T) (hty : ∀ k, k < N → parseFieldDescriptor (T k).2.2.1 = some (ty0 k)) (hnm : ∀ a, a < N → ∀ b, b < N → a ≠ b → (T a).2.1 ≠ (T b).2.1) (hc : gl_cl[ci]? = some (C, T, N)) (hf : f < N) (hl : Cond.fieldLink M.2.1 idx ref (T f).2.1 (T f).2.2.1 ∈ gl_T) (hr : ref = (T f).1) (hfin : (T f).2.2.2 = true) (hi : M.2.2.2.2.1 = true) (ho : (T f).1 = M.2.1) (htd : parseFieldDescriptor (T f).2.2.1 = some .int)
    (hS : S pl = some (.inr (ci, fs))) (hlen : f < fs.length) (K : GG M x Z (pc + 3) ls st (gl_pu S pl (.inr (ci, fs.set f (.int a)))) k) : GG M x Z pc ls (.int a :: .ref pl :: st) S k := by
  obtain ⟨p, l, e, R, s, m, args, below, meth, c, D, Kc, A, ad0, S0⟩ := x
  intro ok ad H locs LS hR hSS hAg hst hls hLS
  subst hr
  obtain ⟨L, j, h1, h2, h3, h4, h5, h6, h7, h8⟩ := gl_at hR hS
  have hset : (fs.map (gl_mv ad)).set f (gl_mv ad (.int a)) = (fs.set f (.int a)).map (gl_mv ad) := by rw [List.map_set]
  refine va_putF ok.1 ok.2.1 ok.2.2.2.2.2.1 hin ty0 hty hnm ok.2.2.2.2.1 ok.2.2.2.2.2.2.2.2.2.1 h3 h4 hSS j h8 hc f hf (ok.2.2.2.2.2.1 _ hl) (fun _ h => h) hfin (ok.2.2.2.2.2.2.2.1 hi) ho htd rfl rfl (by rw [List.length_map]; exact hlen) hd (fun H1 locs1 q1 q2 q3 => ?_)
  rw [hset] at q1 q2
  refine K ok ad H1 locs1 LS (gl_R.pu (c' := .inr (ci, fs.set f (.int a))) h1 h2 h5 h6 h7 hS (fun r hr => Or.inl ?_) q1 q2) q3 hAg.pu (gl_bds.pu (gl_bd_t (gl_bd_t hst))) (gl_bdq.pu hls) hLS
  rcases List.mem_or_eq_of_mem_set (show Value.ref r ∈ fs.set f (.int a) from hr) with h | h
  · exact h
  · cases h
theorem gg_ald_i {n pl : Nat} {f : Nat → Int32} {i : Int32} (j : Nat) (hd : decode M.1 pc = .ok (.iaload, 1)) (hS : S pl = some (.inl (0, n, .inl f))) (hi : i = nI j) (hj : j < n) (hn : n < 2 ^ 31) (K : GG M x Z (pc + 1) ls (.int (f j) :: st) S k) : GG M x Z pc ls (.int i :: .ref pl :: st) S k := by
  obtain ⟨p, l, e, R, s, m, args, below, meth, c, D, Kc, A, ad0, S0⟩ := x
  intro ok ad H locs LS hR hSS hAg hst hls hLS
  subst hi
  obtain ⟨L, q, h1, h2, h3, h4, h5, h6, h7, h8⟩ := gl_at hR hS
  refine va_iald ok.1 ok.2.1 ok.2.2.2.2.2.2.2.2.2.1 h3 q 0 h8 rfl (vp_in_nI hj hn) hd ?_
  rw [nI_clamp (by omega)]
  exact K ok ad H locs LS hR hSS hAg (gl_bd_c gl_bd_i (gl_bd_t (gl_bd_t hst))) hls hLS
theorem gg_ald_l {n pl : Nat} {f : Nat → Int64} {i : Int32} (j : Nat) (hd : decode M.1 pc = .ok (.laload, 1)) (hS : S pl = some (.inl (1, n, .inr (.inl f)))) (hi : i = nI j) (hj : j < n) (hn : n < 2 ^ 31) (K : GG M x Z (pc + 1) ls (.long (f j) :: st) S k) : GG M x Z pc ls (.int i :: .ref pl :: st) S k := by
  obtain ⟨p, l, e, R, s, m, args, below, meth, c, D, Kc, A, ad0, S0⟩ := x
  intro ok ad H locs LS hR hSS hAg hst hls hLS
  subst hi
  obtain ⟨L, q, h1, h2, h3, h4, h5, h6, h7, h8⟩ := gl_at hR hS
  refine va_lald ok.1 ok.2.1 ok.2.2.2.2.2.2.2.2.2.1 h3 q 1 h8 rfl (vp_in_nI hj hn) hd ?_
  rw [nI_clamp (by omega)]
  exact K ok ad H locs LS hR hSS hAg (gl_bd_c gl_bd_l (gl_bd_t (gl_bd_t hst))) hls hLS
theorem gg_ald_b {n pl : Nat} {f : Nat → Int32} {i : Int32} (j : Nat) (hd : decode M.1 pc = .ok (.baload, 1)) (hS : S pl = some (.inl (2, n, .inl f))) (hi : i = nI j) (hj : j < n) (hn : n < 2 ^ 31) (K : GG M x Z (pc + 1) ls (.int (f j) :: st) S k) : GG M x Z pc ls (.int i :: .ref pl :: st) S k := by
  obtain ⟨p, l, e, R, s, m, args, below, meth, c, D, Kc, A, ad0, S0⟩ := x
  intro ok ad H locs LS hR hSS hAg hst hls hLS
  subst hi
  obtain ⟨L, q, h1, h2, h3, h4, h5, h6, h7, h8⟩ := gl_at hR hS
  refine va_bald ok.1 ok.2.1 ok.2.2.2.2.2.2.2.2.2.1 h3 q 2 h8 rfl (vp_in_nI hj hn) hd ?_
  rw [nI_clamp (by omega)]
  exact K ok ad H locs LS hR hSS hAg (gl_bd_c gl_bd_i (gl_bd_t (gl_bd_t hst))) hls hLS
theorem gg_ald_s {n pl : Nat} {f : Nat → Int32} {i : Int32} (j : Nat) (hd : decode M.1 pc = .ok (.saload, 1)) (hS : S pl = some (.inl (3, n, .inl f))) (hi : i = nI j) (hj : j < n) (hn : n < 2 ^ 31) (K : GG M x Z (pc + 1) ls (.int (f j) :: st) S k) : GG M x Z pc ls (.int i :: .ref pl :: st) S k := by
  obtain ⟨p, l, e, R, s, m, args, below, meth, c, D, Kc, A, ad0, S0⟩ := x
  intro ok ad H locs LS hR hSS hAg hst hls hLS
  subst hi
  obtain ⟨L, q, h1, h2, h3, h4, h5, h6, h7, h8⟩ := gl_at hR hS
  refine va_sald ok.1 ok.2.1 ok.2.2.2.2.2.2.2.2.2.1 h3 q 3 h8 rfl (vp_in_nI hj hn) hd ?_
  rw [nI_clamp (by omega)]
  exact K ok ad H locs LS hR hSS hAg (gl_bd_c gl_bd_i (gl_bd_t (gl_bd_t hst))) hls hLS
theorem gg_ast_i {n pl : Nat} {f : Nat → Int32} {i a : Int32} (j : Nat) (hd : decode M.1 pc = .ok (.iastore, 1)) (hS : S pl = some (.inl (0, n, .inl f))) (hi : i = nI j) (hj : j < n) (hn : n < 2 ^ 31) (K : GG M x Z (pc + 1) ls st (gl_pu S pl (.inl (0, n, .inl (upd f j a)))) k) : GG M x Z pc ls (.int a :: .int i :: .ref pl :: st) S k := by
  obtain ⟨p, l, e, R, s, m, args, below, meth, c, D, Kc, A, ad0, S0⟩ := x
  intro ok ad H locs LS hR hSS hAg hst hls hLS
  subst hi
  obtain ⟨L, q, h1, h2, h3, h4, h5, h6, h7, h8⟩ := gl_at hR hS
  refine va_iast ok.1 ok.2.1 ok.2.2.2.2.2.2.2.2.2.1 h3 h4 hSS q 0 h8 rfl (vp_in_nI hj hn) hd (fun H1 locs1 q1 q2 q3 => ?_)
  rw [nI_clamp (by omega)] at q1 q2
  exact K ok ad H1 locs1 LS (gl_R.pu (c' := .inl (0, n, .inl (upd f j a))) h1 h2 h5 h6 h7 hS (fun r hr => hr.elim) q1 q2) q3 hAg.pu (gl_bds.pu (gl_bd_t (gl_bd_t (gl_bd_t hst)))) (gl_bdq.pu hls) hLS
theorem gg_ast_l {n pl : Nat} {f : Nat → Int64} {i : Int32} {a : Int64} (j : Nat) (hd : decode M.1 pc = .ok (.lastore, 1)) (hS : S pl = some (.inl (1, n, .inr (.inl f)))) (hi : i = nI j) (hj : j < n) (hn : n < 2 ^ 31) (K : GG M x Z (pc + 1) ls st (gl_pu S pl (.inl (1, n, .inr (.inl (vp_updL f j a))))) k) : GG M x Z pc ls (.long a :: .int i :: .ref pl :: st) S k := by
  obtain ⟨p, l, e, R, s, m, args, below, meth, c, D, Kc, A, ad0, S0⟩ := x
  intro ok ad H locs LS hR hSS hAg hst hls hLS
  subst hi
  obtain ⟨L, q, h1, h2, h3, h4, h5, h6, h7, h8⟩ := gl_at hR hS
  refine va_last ok.1 ok.2.1 ok.2.2.2.2.2.2.2.2.2.1 h3 h4 hSS q 1 h8 rfl (vp_in_nI hj hn) hd (fun H1 locs1 q1 q2 q3 => ?_)
  rw [nI_clamp (by omega)] at q1 q2
  exact K ok ad H1 locs1 LS (gl_R.pu (c' := .inl (1, n, .inr (.inl (vp_updL f j a)))) h1 h2 h5 h6 h7 hS (fun r hr => hr.elim) q1 q2) q3 hAg.pu (gl_bds.pu (gl_bd_t (gl_bd_t (gl_bd_t hst)))) (gl_bdq.pu hls) hLS
theorem gg_ast_b {n pl : Nat} {f : Nat → Int32} {i a : Int32} (j : Nat) (hd : decode M.1 pc = .ok (.bastore, 1)) (hS : S pl = some (.inl (2, n, .inl f))) (hi : i = nI j) (hj : j < n) (hn : n < 2 ^ 31) (K : GG M x Z (pc + 1) ls st (gl_pu S pl (.inl (2, n, .inl (upd f j (vp_nar .byte a))))) k) : GG M x Z pc ls (.int a :: .int i :: .ref pl :: st) S k := by
  obtain ⟨p, l, e, R, s, m, args, below, meth, c, D, Kc, A, ad0, S0⟩ := x
  intro ok ad H locs LS hR hSS hAg hst hls hLS
  subst hi
  obtain ⟨L, q, h1, h2, h3, h4, h5, h6, h7, h8⟩ := gl_at hR hS
  refine va_bast ok.1 ok.2.1 ok.2.2.2.2.2.2.2.2.2.1 h3 h4 hSS q 2 h8 rfl (vp_in_nI hj hn) hd (fun H1 locs1 q1 q2 q3 => ?_)
  rw [nI_clamp (by omega)] at q1 q2
  exact K ok ad H1 locs1 LS (gl_R.pu (c' := .inl (2, n, .inl (upd f j (vp_nar .byte a)))) h1 h2 h5 h6 h7 hS (fun r hr => hr.elim) q1 q2) q3 hAg.pu (gl_bds.pu (gl_bd_t (gl_bd_t (gl_bd_t hst)))) (gl_bdq.pu hls) hLS
theorem gg_ast_s {n pl : Nat} {f : Nat → Int32} {i a : Int32} (j : Nat) (hd : decode M.1 pc = .ok (.sastore, 1)) (hS : S pl = some (.inl (3, n, .inl f))) (hi : i = nI j) (hj : j < n) (hn : n < 2 ^ 31) (K : GG M x Z (pc + 1) ls st (gl_pu S pl (.inl (3, n, .inl (upd f j (vp_nar .short a))))) k) : GG M x Z pc ls (.int a :: .int i :: .ref pl :: st) S k := by
  obtain ⟨p, l, e, R, s, m, args, below, meth, c, D, Kc, A, ad0, S0⟩ := x
  intro ok ad H locs LS hR hSS hAg hst hls hLS
  subst hi
  obtain ⟨L, q, h1, h2, h3, h4, h5, h6, h7, h8⟩ := gl_at hR hS
  refine va_sast ok.1 ok.2.1 ok.2.2.2.2.2.2.2.2.2.1 h3 h4 hSS q 3 h8 rfl (vp_in_nI hj hn) hd (fun H1 locs1 q1 q2 q3 => ?_)
  rw [nI_clamp (by omega)] at q1 q2
  exact K ok ad H1 locs1 LS (gl_R.pu (c' := .inl (3, n, .inl (upd f j (vp_nar .short a)))) h1 h2 h5 h6 h7 hS (fun r hr => hr.elim) q1 q2) q3 hAg.pu (gl_bds.pu (gl_bd_t (gl_bd_t (gl_bd_t hst)))) (gl_bdq.pu hls) hLS
/-- an array of objects: what it holds at j -/
theorem gg_ald_q {n pl : Nat} {f : Nat → Option Nat} {i : Int32} (t : Nat) (C : String) (ht : ∀ K, (gl_ty K)[t]? = some (K t, .object C)) (j : Nat) (hd : decode M.1 pc = .ok (.aaload, 1)) (hS : S pl = some (.inl (t, n, .inr (.inr (.inr (.inr f)))))) (hi : i = nI j) (hj : j < n) (hn : n < 2 ^ 31) {r : Nat} (hr : f j = some r) (K : GG M x Z (pc + 1) ls (.ref r :: st) S k) : GG M x Z pc ls (.int i :: .ref pl :: st) S k := by
  obtain ⟨p, l, e, R, s, m, args, below, meth, c, D, Kc, A, ad0, S0⟩ := x
  intro ok ad H locs LS hR hSS hAg hst hls hLS
  subst hi
  obtain ⟨L, q, h1, h2, h3, h4, h5, h6, h7, h8⟩ := gl_at hR hS
  refine va_aldq ok.1 ok.2.1 ok.2.2.2.2.2.2.2.2.2.1 h3 q t h8 (ht Kc) (vp_in_nI hj hn) hd ?_
  rw [nI_clamp (by omega), hr]
  have hb : gl_bd S (.ref r) := fun r2 e2 => by cases e2; exact Or.inl (h5 pl _ hS r ⟨j, hr⟩)
  exact K ok ad H locs LS hR hSS hAg (gl_bd_c hb (gl_bd_t (gl_bd_t hst))) hls hLS
/-- an array of rows of longs: its row at j -/
theorem gg_ald_r {n pl : Nat} {f : Nat → Option Nat} {i : Int32} (j : Nat) (hd : decode M.1 pc = .ok (.aaload, 1)) (hS : S pl = some (.inl (6, n, .inr (.inr (.inr (.inr f)))))) (hi : i = nI j) (hj : j < n) (hn : n < 2 ^ 31) {r : Nat} (hr : f j = some r) (K : GG M x Z (pc + 1) ls (.ref r :: st) S k) : GG M x Z pc ls (.int i :: .ref pl :: st) S k := by
  obtain ⟨p, l, e, R, s, m, args, below, meth, c, D, Kc, A, ad0, S0⟩ := x
  intro ok ad H locs LS hR hSS hAg hst hls hLS
  subst hi
  obtain ⟨L, q, h1, h2, h3, h4, h5, h6, h7, h8⟩ := gl_at hR hS
  have hlt : (nI j).toNatClampNeg < n := by rw [nI_clamp (by omega)]; exact hj
  have hcell : H[ad pl]? = some (arrV (Kc 6) n (fun j => va_rf ((f j).map ad))) := h3 q _ h8
  refine W.aald (v := va_rf ((f (nI j).toNatClampNeg).map ad)) (ty := .array .long) ok.1 ok.2.1 hcell ((ok.2.2.2.2.2.2.2.2.2.1.2 6 (Kc 6, .array .long) rfl).1 n (fun j => va_rf ((f j).map ad))) rfl (fun q => by cases q) (by rw [arrV_size]; exact vp_in_nI hj hn) (by rw [arrV_read _ _ hlt]) rfl rfl hd ?_
  show W p l e R s m args below meth c H locs k.1 k.2 Z (F0 m (pc + 1) LS (va_rf ((f (nI j).toNatClampNeg).map ad) :: st.map (gl_mv ad)))
  rw [nI_clamp (by omega), hr]
  have hb : gl_bd S (.ref r) := fun r2 e2 => by cases e2; exact Or.inl (h5 pl _ hS r ⟨j, hr⟩)
  exact K ok ad H locs LS hR hSS hAg (gl_bd_c hb (gl_bd_t (gl_bd_t hst))) hls hLS
/-- an object comes into an array of its class -/
theorem gg_ast_q {n pl v ci : Nat} {vs : List Value} {q0 : vw_C} {f : Nat → Option Nat} {i : Int32} (t : Nat) (ht : ∀ K, (gl_ty K)[t]? = some (K t, .object q0.1)) (hc : gl_cl[ci]? = some q0) (j : Nat) (hd : decode M.1 pc = .ok (.aastore, 1)) (hS : S pl = some (.inl (t, n, .inr (.inr (.inr (.inr f)))))) (hv : S v = some (.inr (ci, vs))) (hi : i = nI j) (hj : j < n) (hn : n < 2 ^ 31) (K : GG M x Z (pc + 1) ls st (gl_pu S pl (.inl (t, n, .inr (.inr (.inr (.inr (va_up f j (some v)))))))) k) : GG M x Z pc ls (.ref v :: .int i :: .ref pl :: st) S k := by
  obtain ⟨p, l, e, R, s, m, args, below, meth, c, D, Kc, A, ad0, S0⟩ := x
  intro ok ad H locs LS hR hSS hAg hst hls hLS
  subst hi
  obtain ⟨L, q, h1, h2, h3, h4, h5, h6, h7, h8⟩ := gl_at hR hS
  obtain ⟨q9, h9⟩ := List.getElem?_of_mem ((h1 v).mp (gl_some hv))
  have e9 : (fun z => ((va_up f j (some v)) z).map ad) = va_up (fun z => (f z).map ad) j (some (ad v)) := by
    funext z
    by_cases h : z = j
    · simp [va_up, h]
    · simp [va_up, h]
  refine va_astq ok.1 ok.2.1 ok.2.2.2.2.2.2.2.2.2.1 h3 h4 hSS q t q9 ci h8 (ht Kc) (gl_wl_at h9 hv) hc (vp_in_nI hj hn) hd (fun H1 locs1 q1 q2 q3 => ?_)
  rw [nI_clamp (by omega), ← e9] at q1 q2
  refine K ok ad H1 locs1 LS (gl_R.pu (c' := .inl (t, n, .inr (.inr (.inr (.inr (va_up f j (some v))))))) h1 h2 h5 h6 h7 hS (fun r hr => ?_) q1 q2) q3 hAg.pu (gl_bds.pu (gl_bd_t (gl_bd_t (gl_bd_t hst)))) (gl_bdq.pu hls) hLS
  obtain ⟨z, hz⟩ := hr
  by_cases h : z = j
  · simp [va_up, h] at hz
    rw [← hz]
    exact Or.inr (gl_some hv)
  · simp [va_up, h] at hz
    exact Or.inl ⟨z, hz⟩
theorem gg_alen {n pl t : Nat} {a : vp_A} {ty : FieldType} {v : Int32} (hd : decode M.1 pc = .ok (.arraylength, 1)) (ht : ∀ K, (gl_ty K)[t]? = some (K t, ty)) (hS : S pl = some (.inl (t, a))) (hv : Int32.ofNat a.1 = v) (K : GG M x Z (pc + 1) ls (.int v :: st) S k) : GG M x Z pc ls (.ref pl :: st) S k := by
  obtain ⟨p, l, e, R, s, m, args, below, meth, c, D, Kc, A, ad0, S0⟩ := x
  intro ok ad H locs LS hR hSS hAg hst hls hLS
  obtain ⟨L, q, h1, h2, h3, h4, h5, h6, h7, h8⟩ := gl_at hR hS
  exact va_alen ok.1 ok.2.1 ok.2.2.2.2.2.2.2.2.2.1 h3 q t h8 (ht Kc) hv hd (K ok ad H locs LS hR hSS hAg (gl_bd_c gl_bd_i (gl_bd_t hst)) hls hLS)
end GC
