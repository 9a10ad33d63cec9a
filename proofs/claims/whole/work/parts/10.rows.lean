/-! one instruction, one row: those that touch no cell -/
section GR
variable {M : gl_M} {x : gl_X} {Z : State → Prop} {pc : Nat} {ls : List (Option Value)} {st : List Value} {S : gl_H} {k : Nat × Nat}
theorem gg_iconst {n : Int} {v : Int32} (hd : decode M.1 pc = .ok (.iconst n, 1)) (hv : Int32.ofInt n = v) (K : GG M x Z (pc + 1) ls (.int v :: st) S k) : GG M x Z pc ls (st) S k := by
  obtain ⟨p, l, e, R, s, m, args, below, meth, c, D, Kc, A, ad0, S0⟩ := x
  intro ok ad H locs LS hR hS hAg hst hls hLS
  exact lv_iconst ok.1 ok.2.1 hd hv (K ok ad H locs LS hR hS hAg (gl_bd_c gl_bd_i hst) hls hLS)
theorem gg_bipush {n : Int} {v : Int32} (hd : decode M.1 pc = .ok (.bipush n, 2)) (hv : (Int8.ofInt n).toInt32 = v) (K : GG M x Z (pc + 2) ls (.int v :: st) S k) : GG M x Z pc ls (st) S k := by
  obtain ⟨p, l, e, R, s, m, args, below, meth, c, D, Kc, A, ad0, S0⟩ := x
  intro ok ad H locs LS hR hS hAg hst hls hLS
  exact lv_bipush ok.1 ok.2.1 hd hv (K ok ad H locs LS hR hS hAg (gl_bd_c gl_bd_i hst) hls hLS)
theorem gg_sipush {n : Int} {v : Int32} (hd : decode M.1 pc = .ok (.sipush n, 3)) (hv : (Int16.ofInt n).toInt32 = v) (K : GG M x Z (pc + 3) ls (.int v :: st) S k) : GG M x Z pc ls (st) S k := by
  obtain ⟨p, l, e, R, s, m, args, below, meth, c, D, Kc, A, ad0, S0⟩ := x
  intro ok ad H locs LS hR hS hAg hst hls hLS
  exact lv_sipush ok.1 ok.2.1 hd hv (K ok ad H locs LS hR hS hAg (gl_bd_c gl_bd_i hst) hls hLS)
theorem gg_lconst {n : Fin 2} {v : Int64} (hd : decode M.1 pc = .ok (.lconst n, 1)) (hv : Int64.ofNat (n : Nat) = v) (K : GG M x Z (pc + 1) ls (.long v :: st) S k) : GG M x Z pc ls (st) S k := by
  obtain ⟨p, l, e, R, s, m, args, below, meth, c, D, Kc, A, ad0, S0⟩ := x
  intro ok ad H locs LS hR hS hAg hst hls hLS
  exact lv_lconst ok.1 ok.2.1 hd hv (K ok ad H locs LS hR hS hAg (gl_bd_c gl_bd_l hst) hls hLS)
theorem gg_null  (hd : decode M.1 pc = .ok (.aconst_null, 1)) (K : GG M x Z (pc + 1) ls (.null :: st) S k) : GG M x Z pc ls (st) S k := by
  obtain ⟨p, l, e, R, s, m, args, below, meth, c, D, Kc, A, ad0, S0⟩ := x
  intro ok ad H locs LS hR hS hAg hst hls hLS
  exact lv_null ok.1 ok.2.1 hd (K ok ad H locs LS hR hS hAg (gl_bd_c gl_bd_n hst) hls hLS)
theorem gg_ldc {index : Nat} {v : Int32} (hd : decode M.1 pc = .ok (.ldc index, 2)) (hc : Cond.constant M.2.1 index v ∈ gl_T) (K : GG M x Z (pc + 2) ls (.int v :: st) S k) : GG M x Z pc ls (st) S k := by
  obtain ⟨p, l, e, R, s, m, args, below, meth, c, D, Kc, A, ad0, S0⟩ := x
  intro ok ad H locs LS hR hS hAg hst hls hLS
  exact lv_ldc ok.1 ok.2.1 ok.2.2.2.2.1 (ok.2.2.2.2.2.1 _ hc) hd (K ok ad H locs LS hR hS hAg (gl_bd_c gl_bd_i hst) hls hLS)
theorem gg_ldc_w {index : Nat} {v : Int32} (hd : decode M.1 pc = .ok (.ldc_w index, 3)) (hc : Cond.constant M.2.1 index v ∈ gl_T) (K : GG M x Z (pc + 3) ls (.int v :: st) S k) : GG M x Z pc ls (st) S k := by
  obtain ⟨p, l, e, R, s, m, args, below, meth, c, D, Kc, A, ad0, S0⟩ := x
  intro ok ad H locs LS hR hS hAg hst hls hLS
  exact lv_ldcw ok.1 ok.2.1 ok.2.2.2.2.1 (ok.2.2.2.2.2.1 _ hc) hd (K ok ad H locs LS hR hS hAg (gl_bd_c gl_bd_i hst) hls hLS)
theorem gg_ldc2 {index : Nat} {v : Int64} (hd : decode M.1 pc = .ok (.ldc2_w index, 3)) (hc : Cond.constantLong M.2.1 index v ∈ gl_T) (K : GG M x Z (pc + 3) ls (.long v :: st) S k) : GG M x Z pc ls (st) S k := by
  obtain ⟨p, l, e, R, s, m, args, below, meth, c, D, Kc, A, ad0, S0⟩ := x
  intro ok ad H locs LS hR hS hAg hst hls hLS
  exact lv_ldc2 ok.1 ok.2.1 ok.2.2.2.2.1 (ok.2.2.2.2.2.1 _ hc) hd (K ok ad H locs LS hR hS hAg (gl_bd_c gl_bd_l hst) hls hLS)
theorem gg_iload_n {kf : Fin 4} {i : Nat} {v : Int32} (hd : decode M.1 pc = .ok (.iload_n kf, 1)) (hi : (kf : Nat) = i) (hv : gl_lk ls i = some (.int v)) (K : GG M x Z (pc + 1) ls (.int v :: st) S k) : GG M x Z pc ls (st) S k := by
  obtain ⟨p, l, e, R, s, m, args, below, meth, c, D, Kc, A, ad0, S0⟩ := x
  intro ok ad H locs LS hR hS hAg hst hls hLS
  exact lv_iload_n ok.1 ok.2.1 hd hi (gl_lk_at hLS hv) (K ok ad H locs LS hR hS hAg (gl_bd_c (gl_bd_lk hls hv) hst) hls hLS)
theorem gg_iload {i : Nat} {v : Int32} (hd : decode M.1 pc = .ok (.iload i, 2)) (hv : gl_lk ls i = some (.int v)) (K : GG M x Z (pc + 2) ls (.int v :: st) S k) : GG M x Z pc ls (st) S k := by
  obtain ⟨p, l, e, R, s, m, args, below, meth, c, D, Kc, A, ad0, S0⟩ := x
  intro ok ad H locs LS hR hS hAg hst hls hLS
  exact lv_iload ok.1 ok.2.1 hd (gl_lk_at hLS hv) (K ok ad H locs LS hR hS hAg (gl_bd_c (gl_bd_lk hls hv) hst) hls hLS)
theorem gg_lload_n {kf : Fin 4} {i : Nat} {v : Int64} (hd : decode M.1 pc = .ok (.lload_n kf, 1)) (hi : (kf : Nat) = i) (hv : gl_lk ls i = some (.long v)) (K : GG M x Z (pc + 1) ls (.long v :: st) S k) : GG M x Z pc ls (st) S k := by
  obtain ⟨p, l, e, R, s, m, args, below, meth, c, D, Kc, A, ad0, S0⟩ := x
  intro ok ad H locs LS hR hS hAg hst hls hLS
  exact lv_lload_n ok.1 ok.2.1 hd hi (gl_lk_at hLS hv) (K ok ad H locs LS hR hS hAg (gl_bd_c (gl_bd_lk hls hv) hst) hls hLS)
theorem gg_lload {i : Nat} {v : Int64} (hd : decode M.1 pc = .ok (.lload i, 2)) (hv : gl_lk ls i = some (.long v)) (K : GG M x Z (pc + 2) ls (.long v :: st) S k) : GG M x Z pc ls (st) S k := by
  obtain ⟨p, l, e, R, s, m, args, below, meth, c, D, Kc, A, ad0, S0⟩ := x
  intro ok ad H locs LS hR hS hAg hst hls hLS
  exact lv_lload ok.1 ok.2.1 hd (gl_lk_at hLS hv) (K ok ad H locs LS hR hS hAg (gl_bd_c (gl_bd_lk hls hv) hst) hls hLS)
theorem gg_aload_n {kf : Fin 4} {i : Nat} {v : Nat} (hd : decode M.1 pc = .ok (.aload_n kf, 1)) (hi : (kf : Nat) = i) (hv : gl_lk ls i = some (.ref v)) (K : GG M x Z (pc + 1) ls (.ref v :: st) S k) : GG M x Z pc ls (st) S k := by
  obtain ⟨p, l, e, R, s, m, args, below, meth, c, D, Kc, A, ad0, S0⟩ := x
  intro ok ad H locs LS hR hS hAg hst hls hLS
  exact lv_aload_n ok.1 ok.2.1 hd hi (gl_lk_at hLS hv) (K ok ad H locs LS hR hS hAg (gl_bd_c (gl_bd_lk hls hv) hst) hls hLS)
theorem gg_aload {i : Nat} {v : Nat} (hd : decode M.1 pc = .ok (.aload i, 2)) (hv : gl_lk ls i = some (.ref v)) (K : GG M x Z (pc + 2) ls (.ref v :: st) S k) : GG M x Z pc ls (st) S k := by
  obtain ⟨p, l, e, R, s, m, args, below, meth, c, D, Kc, A, ad0, S0⟩ := x
  intro ok ad H locs LS hR hS hAg hst hls hLS
  exact lv_aload ok.1 ok.2.1 hd (gl_lk_at hLS hv) (K ok ad H locs LS hR hS hAg (gl_bd_c (gl_bd_lk hls hv) hst) hls hLS)
theorem gg_aload_nN {kf : Fin 4} {i : Nat} (hd : decode M.1 pc = .ok (.aload_n kf, 1)) (hi : (kf : Nat) = i) (hv : gl_lk ls i = some .null) (K : GG M x Z (pc + 1) ls (.null :: st) S k) : GG M x Z pc ls (st) S k := by
  obtain ⟨p, l, e, R, s, m, args, below, meth, c, D, Kc, A, ad0, S0⟩ := x
  intro ok ad H locs LS hR hS hAg hst hls hLS
  exact lv_aload_nN ok.1 ok.2.1 hd hi (gl_lk_at hLS hv) (K ok ad H locs LS hR hS hAg (gl_bd_c gl_bd_n hst) hls hLS)
theorem gg_aloadN {i : Nat} (hd : decode M.1 pc = .ok (.aload i, 2)) (hv : gl_lk ls i = some .null) (K : GG M x Z (pc + 2) ls (.null :: st) S k) : GG M x Z pc ls (st) S k := by
  obtain ⟨p, l, e, R, s, m, args, below, meth, c, D, Kc, A, ad0, S0⟩ := x
  intro ok ad H locs LS hR hS hAg hst hls hLS
  exact lv_aloadN ok.1 ok.2.1 hd (gl_lk_at hLS hv) (K ok ad H locs LS hR hS hAg (gl_bd_c gl_bd_n hst) hls hLS)
theorem gg_istore_n {kf : Fin 4} {i : Nat} {v : Int32} {ls2 : List (Option Value)} (hd : decode M.1 pc = .ok (.istore_n kf, 1)) (hi : (kf : Nat) = i) (hn : i < M.2.2.1) (hl : gl_s1 ls i (.int v) = ls2) (K : GG M x Z (pc + 1) ls2 st S k) : GG M x Z pc ls (.int v :: st) S k := by
  obtain ⟨p, l, e, R, s, m, args, below, meth, c, D, Kc, A, ad0, S0⟩ := x
  intro ok ad H locs LS hR hS hAg hst hls hLS
  subst hl
  exact lv_istore_n ok.1 ok.2.1 hd hi hLS hn rfl (fun LS2 h2 => K ok ad H locs LS2 hR hS hAg (gl_bd_t hst) (gl_s1_bd hls (gl_bd_h hst)) (gl_s1_has h2))
theorem gg_istore {i : Nat} {v : Int32} {ls2 : List (Option Value)} (hd : decode M.1 pc = .ok (.istore i, 2)) (hn : i < M.2.2.1) (hl : gl_s1 ls i (.int v) = ls2) (K : GG M x Z (pc + 2) ls2 st S k) : GG M x Z pc ls (.int v :: st) S k := by
  obtain ⟨p, l, e, R, s, m, args, below, meth, c, D, Kc, A, ad0, S0⟩ := x
  intro ok ad H locs LS hR hS hAg hst hls hLS
  subst hl
  exact lv_istore ok.1 ok.2.1 hd hLS hn rfl (fun LS2 h2 => K ok ad H locs LS2 hR hS hAg (gl_bd_t hst) (gl_s1_bd hls (gl_bd_h hst)) (gl_s1_has h2))
theorem gg_astore_n {kf : Fin 4} {i : Nat} {v : Nat} {ls2 : List (Option Value)} (hd : decode M.1 pc = .ok (.astore_n kf, 1)) (hi : (kf : Nat) = i) (hn : i < M.2.2.1) (hl : gl_s1 ls i (.ref v) = ls2) (K : GG M x Z (pc + 1) ls2 st S k) : GG M x Z pc ls (.ref v :: st) S k := by
  obtain ⟨p, l, e, R, s, m, args, below, meth, c, D, Kc, A, ad0, S0⟩ := x
  intro ok ad H locs LS hR hS hAg hst hls hLS
  subst hl
  exact lv_astore_n ok.1 ok.2.1 hd hi hLS hn rfl (fun LS2 h2 => K ok ad H locs LS2 hR hS hAg (gl_bd_t hst) (gl_s1_bd hls (gl_bd_h hst)) (gl_s1_has h2))
theorem gg_astore {i : Nat} {v : Nat} {ls2 : List (Option Value)} (hd : decode M.1 pc = .ok (.astore i, 2)) (hn : i < M.2.2.1) (hl : gl_s1 ls i (.ref v) = ls2) (K : GG M x Z (pc + 2) ls2 st S k) : GG M x Z pc ls (.ref v :: st) S k := by
  obtain ⟨p, l, e, R, s, m, args, below, meth, c, D, Kc, A, ad0, S0⟩ := x
  intro ok ad H locs LS hR hS hAg hst hls hLS
  subst hl
  exact lv_astore ok.1 ok.2.1 hd hLS hn rfl (fun LS2 h2 => K ok ad H locs LS2 hR hS hAg (gl_bd_t hst) (gl_s1_bd hls (gl_bd_h hst)) (gl_s1_has h2))
theorem gg_lstore_n {kf : Fin 4} {i : Nat} {v : Int64} {ls2 : List (Option Value)} (hd : decode M.1 pc = .ok (.lstore_n kf, 1)) (hi : (kf : Nat) = i) (hn : i + 1 < M.2.2.1) (hl : gl_s2 ls i (.long v) = ls2) (K : GG M x Z (pc + 1) ls2 st S k) : GG M x Z pc ls (.long v :: st) S k := by
  obtain ⟨p, l, e, R, s, m, args, below, meth, c, D, Kc, A, ad0, S0⟩ := x
  intro ok ad H locs LS hR hS hAg hst hls hLS
  subst hl
  exact lv_lstore_n ok.1 ok.2.1 hd hi hLS hn rfl (fun LS2 h2 => K ok ad H locs LS2 hR hS hAg (gl_bd_t hst) (gl_s2_bd hls (gl_bd_h hst)) (gl_s2_has h2))
theorem gg_lstore {i : Nat} {v : Int64} {ls2 : List (Option Value)} (hd : decode M.1 pc = .ok (.lstore i, 2)) (hn : i + 1 < M.2.2.1) (hl : gl_s2 ls i (.long v) = ls2) (K : GG M x Z (pc + 2) ls2 st S k) : GG M x Z pc ls (.long v :: st) S k := by
  obtain ⟨p, l, e, R, s, m, args, below, meth, c, D, Kc, A, ad0, S0⟩ := x
  intro ok ad H locs LS hR hS hAg hst hls hLS
  subst hl
  exact lv_lstore ok.1 ok.2.1 hd hLS hn rfl (fun LS2 h2 => K ok ad H locs LS2 hR hS hAg (gl_bd_t hst) (gl_s2_bd hls (gl_bd_h hst)) (gl_s2_has h2))
theorem gg_astore_nN {kf : Fin 4} {i : Nat} {ls2 : List (Option Value)} (hd : decode M.1 pc = .ok (.astore_n kf, 1)) (hi : (kf : Nat) = i) (hn : i < M.2.2.1) (hl : gl_s1 ls i (.null) = ls2) (K : GG M x Z (pc + 1) ls2 st S k) : GG M x Z pc ls (.null :: st) S k := by
  obtain ⟨p, l, e, R, s, m, args, below, meth, c, D, Kc, A, ad0, S0⟩ := x
  intro ok ad H locs LS hR hS hAg hst hls hLS
  subst hl
  exact lv_astore_nN ok.1 ok.2.1 hd hi hLS hn rfl (fun LS2 h2 => K ok ad H locs LS2 hR hS hAg (gl_bd_t hst) (gl_s1_bd hls (gl_bd_h hst)) (gl_s1_has h2))
theorem gg_astoreN {i : Nat} {ls2 : List (Option Value)} (hd : decode M.1 pc = .ok (.astore i, 2)) (hn : i < M.2.2.1) (hl : gl_s1 ls i (.null) = ls2) (K : GG M x Z (pc + 2) ls2 st S k) : GG M x Z pc ls (.null :: st) S k := by
  obtain ⟨p, l, e, R, s, m, args, below, meth, c, D, Kc, A, ad0, S0⟩ := x
  intro ok ad H locs LS hR hS hAg hst hls hLS
  subst hl
  exact lv_astoreN ok.1 ok.2.1 hd hLS hn rfl (fun LS2 h2 => K ok ad H locs LS2 hR hS hAg (gl_bd_t hst) (gl_s1_bd hls (gl_bd_h hst)) (gl_s1_has h2))
theorem gl_lk_place {ls : List (Option Value)} {ad : Nat → Nat} {i : Nat} {v : Value} (hv : gl_lk ls i = some v) : ∃ k : Nat, (gl_ma ad (gl_as 0 ls))[k]? = some (i, gl_mv ad v) := by
  have h := gl_lk_as 0 hv
  rw [Nat.zero_add] at h
  exact List.getElem?_of_mem (List.mem_map.mpr ⟨(i, v), h, rfl⟩)
theorem gg_iinc {i : Nat} {n : Int} {v w : Int32} {ls2 : List (Option Value)} (hd : decode M.1 pc = .ok (.iinc i n, 3)) (hv : gl_lk ls i = some (.int v)) (hw : v + Int32.ofInt n = w) (hn : i < M.2.2.1) (hl : gl_s1 ls i (.int w) = ls2) (K : GG M x Z (pc + 3) ls2 st S k) : GG M x Z pc ls st S k := by
  obtain ⟨p, l, e, R, s, m, args, below, meth, c, D, Kc, A, ad0, S0⟩ := x
  intro ok ad H locs LS hR hS hAg hst hls hLS
  subst hl
  obtain ⟨k9, hk9⟩ := gl_lk_place (ad := ad) hv
  exact lv_iinc ok.1 ok.2.1 hd hLS hk9 hw hn rfl (fun LS2 h2 => K ok ad H locs LS2 hR hS hAg hst (gl_s1_bd hls gl_bd_i) (gl_s1_has h2))
theorem gg_iadd {a b : Int32} (hd : decode M.1 pc = .ok (.iadd, 1)) (K : GG M x Z (pc + 1) ls (.int (a + b) :: st) S k) : GG M x Z pc ls (.int b :: .int a :: st) S k := by
  obtain ⟨p, l, e, R, s, m, args, below, meth, c, D, Kc, A, ad0, S0⟩ := x
  intro ok ad H locs LS hR hS hAg hst hls hLS
  exact lv_iadd ok.1 ok.2.1 hd (K ok ad H locs LS hR hS hAg (gl_bd_c gl_bd_i (gl_bd_t (gl_bd_t hst))) hls hLS)
theorem gg_isub {a b : Int32} (hd : decode M.1 pc = .ok (.isub, 1)) (K : GG M x Z (pc + 1) ls (.int (a - b) :: st) S k) : GG M x Z pc ls (.int b :: .int a :: st) S k := by
  obtain ⟨p, l, e, R, s, m, args, below, meth, c, D, Kc, A, ad0, S0⟩ := x
  intro ok ad H locs LS hR hS hAg hst hls hLS
  exact lv_isub ok.1 ok.2.1 hd (K ok ad H locs LS hR hS hAg (gl_bd_c gl_bd_i (gl_bd_t (gl_bd_t hst))) hls hLS)
theorem gg_imul {a b : Int32} (hd : decode M.1 pc = .ok (.imul, 1)) (K : GG M x Z (pc + 1) ls (.int (a * b) :: st) S k) : GG M x Z pc ls (.int b :: .int a :: st) S k := by
  obtain ⟨p, l, e, R, s, m, args, below, meth, c, D, Kc, A, ad0, S0⟩ := x
  intro ok ad H locs LS hR hS hAg hst hls hLS
  exact lv_imul ok.1 ok.2.1 hd (K ok ad H locs LS hR hS hAg (gl_bd_c gl_bd_i (gl_bd_t (gl_bd_t hst))) hls hLS)
theorem gg_iand {a b : Int32} (hd : decode M.1 pc = .ok (.iand, 1)) (K : GG M x Z (pc + 1) ls (.int (a &&& b) :: st) S k) : GG M x Z pc ls (.int b :: .int a :: st) S k := by
  obtain ⟨p, l, e, R, s, m, args, below, meth, c, D, Kc, A, ad0, S0⟩ := x
  intro ok ad H locs LS hR hS hAg hst hls hLS
  exact lv_iand ok.1 ok.2.1 hd (K ok ad H locs LS hR hS hAg (gl_bd_c gl_bd_i (gl_bd_t (gl_bd_t hst))) hls hLS)
theorem gg_ior {a b : Int32} (hd : decode M.1 pc = .ok (.ior, 1)) (K : GG M x Z (pc + 1) ls (.int (a ||| b) :: st) S k) : GG M x Z pc ls (.int b :: .int a :: st) S k := by
  obtain ⟨p, l, e, R, s, m, args, below, meth, c, D, Kc, A, ad0, S0⟩ := x
  intro ok ad H locs LS hR hS hAg hst hls hLS
  exact lv_ior ok.1 ok.2.1 hd (K ok ad H locs LS hR hS hAg (gl_bd_c gl_bd_i (gl_bd_t (gl_bd_t hst))) hls hLS)
theorem gg_ixor {a b : Int32} (hd : decode M.1 pc = .ok (.ixor, 1)) (K : GG M x Z (pc + 1) ls (.int (a ^^^ b) :: st) S k) : GG M x Z pc ls (.int b :: .int a :: st) S k := by
  obtain ⟨p, l, e, R, s, m, args, below, meth, c, D, Kc, A, ad0, S0⟩ := x
  intro ok ad H locs LS hR hS hAg hst hls hLS
  exact lv_ixor ok.1 ok.2.1 hd (K ok ad H locs LS hR hS hAg (gl_bd_c gl_bd_i (gl_bd_t (gl_bd_t hst))) hls hLS)
theorem gg_ishl {a b : Int32} (hd : decode M.1 pc = .ok (.ishl, 1)) (K : GG M x Z (pc + 1) ls (.int (a <<< (b &&& 31)) :: st) S k) : GG M x Z pc ls (.int b :: .int a :: st) S k := by
  obtain ⟨p, l, e, R, s, m, args, below, meth, c, D, Kc, A, ad0, S0⟩ := x
  intro ok ad H locs LS hR hS hAg hst hls hLS
  exact lv_ishl ok.1 ok.2.1 hd (K ok ad H locs LS hR hS hAg (gl_bd_c gl_bd_i (gl_bd_t (gl_bd_t hst))) hls hLS)
theorem gg_ishr {a b : Int32} (hd : decode M.1 pc = .ok (.ishr, 1)) (K : GG M x Z (pc + 1) ls (.int (a >>> (b &&& 31)) :: st) S k) : GG M x Z pc ls (.int b :: .int a :: st) S k := by
  obtain ⟨p, l, e, R, s, m, args, below, meth, c, D, Kc, A, ad0, S0⟩ := x
  intro ok ad H locs LS hR hS hAg hst hls hLS
  exact lv_ishr ok.1 ok.2.1 hd (K ok ad H locs LS hR hS hAg (gl_bd_c gl_bd_i (gl_bd_t (gl_bd_t hst))) hls hLS)
theorem gg_iushr {a b : Int32} (hd : decode M.1 pc = .ok (.iushr, 1)) (K : GG M x Z (pc + 1) ls (.int (a.toUInt32 >>> (b.toUInt32 &&& Int32.toUInt32 31)).toInt32 :: st) S k) : GG M x Z pc ls (.int b :: .int a :: st) S k := by
  obtain ⟨p, l, e, R, s, m, args, below, meth, c, D, Kc, A, ad0, S0⟩ := x
  intro ok ad H locs LS hR hS hAg hst hls hLS
  exact lv_iushr ok.1 ok.2.1 hd rfl (K ok ad H locs LS hR hS hAg (gl_bd_c gl_bd_i (gl_bd_t (gl_bd_t hst))) hls hLS)
theorem gg_irem {a b : Int32} (hd : decode M.1 pc = .ok (.irem, 1)) (hne : ¬ b = 0) (K : GG M x Z (pc + 1) ls (.int (a - a / b * b) :: st) S k) : GG M x Z pc ls (.int b :: .int a :: st) S k := by
  obtain ⟨p, l, e, R, s, m, args, below, meth, c, D, Kc, A, ad0, S0⟩ := x
  intro ok ad H locs LS hR hS hAg hst hls hLS
  exact lv_irem ok.1 ok.2.1 hd hne (K ok ad H locs LS hR hS hAg (gl_bd_c gl_bd_i (gl_bd_t (gl_bd_t hst))) hls hLS)
theorem gg_ladd {a b : Int64} (hd : decode M.1 pc = .ok (.ladd, 1)) (K : GG M x Z (pc + 1) ls (.long (a + b) :: st) S k) : GG M x Z pc ls (.long b :: .long a :: st) S k := by
  obtain ⟨p, l, e, R, s, m, args, below, meth, c, D, Kc, A, ad0, S0⟩ := x
  intro ok ad H locs LS hR hS hAg hst hls hLS
  exact lv_ladd ok.1 ok.2.1 hd (K ok ad H locs LS hR hS hAg (gl_bd_c gl_bd_l (gl_bd_t (gl_bd_t hst))) hls hLS)
theorem gg_lsub {a b : Int64} (hd : decode M.1 pc = .ok (.lsub, 1)) (K : GG M x Z (pc + 1) ls (.long (a - b) :: st) S k) : GG M x Z pc ls (.long b :: .long a :: st) S k := by
  obtain ⟨p, l, e, R, s, m, args, below, meth, c, D, Kc, A, ad0, S0⟩ := x
  intro ok ad H locs LS hR hS hAg hst hls hLS
  exact lv_lsub ok.1 ok.2.1 hd (K ok ad H locs LS hR hS hAg (gl_bd_c gl_bd_l (gl_bd_t (gl_bd_t hst))) hls hLS)
theorem gg_lmul {a b : Int64} (hd : decode M.1 pc = .ok (.lmul, 1)) (K : GG M x Z (pc + 1) ls (.long (a * b) :: st) S k) : GG M x Z pc ls (.long b :: .long a :: st) S k := by
  obtain ⟨p, l, e, R, s, m, args, below, meth, c, D, Kc, A, ad0, S0⟩ := x
  intro ok ad H locs LS hR hS hAg hst hls hLS
  exact lv_lmul ok.1 ok.2.1 hd (K ok ad H locs LS hR hS hAg (gl_bd_c gl_bd_l (gl_bd_t (gl_bd_t hst))) hls hLS)
theorem gg_lshl {a : Int64} {b : Int32} (hd : decode M.1 pc = .ok (.lshl, 1)) (K : GG M x Z (pc + 1) ls (.long (a <<< (b.toInt64 &&& 63)) :: st) S k) : GG M x Z pc ls (.int b :: .long a :: st) S k := by
  obtain ⟨p, l, e, R, s, m, args, below, meth, c, D, Kc, A, ad0, S0⟩ := x
  intro ok ad H locs LS hR hS hAg hst hls hLS
  exact lv_lshl ok.1 ok.2.1 hd rfl (K ok ad H locs LS hR hS hAg (gl_bd_c gl_bd_l (gl_bd_t (gl_bd_t hst))) hls hLS)
theorem gg_lshr {a : Int64} {b : Int32} (hd : decode M.1 pc = .ok (.lshr, 1)) (K : GG M x Z (pc + 1) ls (.long (a >>> (b.toInt64 &&& 63)) :: st) S k) : GG M x Z pc ls (.int b :: .long a :: st) S k := by
  obtain ⟨p, l, e, R, s, m, args, below, meth, c, D, Kc, A, ad0, S0⟩ := x
  intro ok ad H locs LS hR hS hAg hst hls hLS
  exact lv_lshr ok.1 ok.2.1 hd rfl (K ok ad H locs LS hR hS hAg (gl_bd_c gl_bd_l (gl_bd_t (gl_bd_t hst))) hls hLS)
theorem gg_lcmp {a b : Int64} (hd : decode M.1 pc = .ok (.lcmp, 1)) (K : GG M x Z (pc + 1) ls (.int (lg_cmp a b) :: st) S k) : GG M x Z pc ls (.long b :: .long a :: st) S k := by
  obtain ⟨p, l, e, R, s, m, args, below, meth, c, D, Kc, A, ad0, S0⟩ := x
  intro ok ad H locs LS hR hS hAg hst hls hLS
  exact W.lcmp ok.1 ok.2.1 hd (K ok ad H locs LS hR hS hAg (gl_bd_c gl_bd_i (gl_bd_t (gl_bd_t hst))) hls hLS)
theorem gg_i2l {a : Int32} (hd : decode M.1 pc = .ok (.i2l, 1)) (K : GG M x Z (pc + 1) ls (.long a.toInt64 :: st) S k) : GG M x Z pc ls (.int a :: st) S k := by
  obtain ⟨p, l, e, R, s, m, args, below, meth, c, D, Kc, A, ad0, S0⟩ := x
  intro ok ad H locs LS hR hS hAg hst hls hLS
  exact lv_i2l ok.1 ok.2.1 hd rfl (K ok ad H locs LS hR hS hAg (gl_bd_c gl_bd_l (gl_bd_t hst)) hls hLS)
theorem gg_l2i {a : Int64} (hd : decode M.1 pc = .ok (.l2i, 1)) (K : GG M x Z (pc + 1) ls (.int a.toInt32 :: st) S k) : GG M x Z pc ls (.long a :: st) S k := by
  obtain ⟨p, l, e, R, s, m, args, below, meth, c, D, Kc, A, ad0, S0⟩ := x
  intro ok ad H locs LS hR hS hAg hst hls hLS
  exact lv_l2i ok.1 ok.2.1 hd rfl (K ok ad H locs LS hR hS hAg (gl_bd_c gl_bd_i (gl_bd_t hst)) hls hLS)
theorem gg_i2b {a : Int32} (hd : decode M.1 pc = .ok (.i2b, 1)) (K : GG M x Z (pc + 1) ls (.int a.toInt8.toInt32 :: st) S k) : GG M x Z pc ls (.int a :: st) S k := by
  obtain ⟨p, l, e, R, s, m, args, below, meth, c, D, Kc, A, ad0, S0⟩ := x
  intro ok ad H locs LS hR hS hAg hst hls hLS
  exact lv_i2b ok.1 ok.2.1 hd rfl (K ok ad H locs LS hR hS hAg (gl_bd_c gl_bd_i (gl_bd_t hst)) hls hLS)
theorem gg_i2s {a : Int32} (hd : decode M.1 pc = .ok (.i2s, 1)) (K : GG M x Z (pc + 1) ls (.int a.toInt16.toInt32 :: st) S k) : GG M x Z pc ls (.int a :: st) S k := by
  obtain ⟨p, l, e, R, s, m, args, below, meth, c, D, Kc, A, ad0, S0⟩ := x
  intro ok ad H locs LS hR hS hAg hst hls hLS
  exact lv_i2s ok.1 ok.2.1 hd rfl (K ok ad H locs LS hR hS hAg (gl_bd_c gl_bd_i (gl_bd_t hst)) hls hLS)
theorem gg_dup {v : Value} (hd : decode M.1 pc = .ok (.dup, 1)) (hv : v.category = 1) (K : GG M x Z (pc + 1) ls (v :: v :: st) S k) : GG M x Z pc ls (v :: st) S k := by
  obtain ⟨p, l, e, R, s, m, args, below, meth, c, D, Kc, A, ad0, S0⟩ := x
  intro ok ad H locs LS hR hS hAg hst hls hLS
  exact lv_dup ok.1 ok.2.1 hd ((gl_mv_cat ad v).trans hv) (K ok ad H locs LS hR hS hAg (gl_bd_c (gl_bd_h hst) hst) hls hLS)
theorem gg_dup2 {v w : Value} (hd : decode M.1 pc = .ok (.dup2, 1)) (hv : v.category = 1) (hw : w.category = 1) (K : GG M x Z (pc + 1) ls (v :: w :: v :: w :: st) S k) : GG M x Z pc ls (v :: w :: st) S k := by
  obtain ⟨p, l, e, R, s, m, args, below, meth, c, D, Kc, A, ad0, S0⟩ := x
  intro ok ad H locs LS hR hS hAg hst hls hLS
  exact lv_dup2_11 ok.1 ok.2.1 hd ((gl_mv_cat ad v).trans hv) ((gl_mv_cat ad w).trans hw) (K ok ad H locs LS hR hS hAg (gl_bd_c (gl_bd_h hst) (gl_bd_c (gl_bd_h (gl_bd_t hst)) hst)) hls hLS)
theorem gg_goto {off : Int} {tgt : Nat} (hd : decode M.1 pc = .ok (.goto off, 3)) (ht : (pc : Int) + off = (tgt : Int)) (K : GG M x Z tgt ls (st) S k) : GG M x Z pc ls (st) S k := by
  obtain ⟨p, l, e, R, s, m, args, below, meth, c, D, Kc, A, ad0, S0⟩ := x
  intro ok ad H locs LS hR hS hAg hst hls hLS
  exact lv_goto ok.1 ok.2.1 hd ht (K ok ad H locs LS hR hS hAg (hst) hls hLS)
theorem gg_if_eq {a : Int32} {off : Int} {tgt : Nat} (hd : decode M.1 pc = .ok (.ifCond .eq off, 3)) (ht : (pc : Int) + off = (tgt : Int)) (kt : a = 0 → GG M x Z tgt ls st S k) (kf : ¬ (a = 0) → GG M x Z (pc + 3) ls st S k) : GG M x Z pc ls (.int a :: st) S k := by
  obtain ⟨p, l, e, R, s, m, args, below, meth, c, D, Kc, A, ad0, S0⟩ := x
  intro ok ad H locs LS hR hS hAg hst hls hLS
  exact lv_if_eq ok.1 ok.2.1 hd ht (fun h => kt h ok ad H locs LS hR hS hAg (gl_bd_t hst) hls hLS) (fun h => kf h ok ad H locs LS hR hS hAg (gl_bd_t hst) hls hLS)
theorem gg_icmp_eq {a b : Int32} {off : Int} {tgt : Nat} (hd : decode M.1 pc = .ok (.if_icmp .eq off, 3)) (ht : (pc : Int) + off = (tgt : Int)) (kt : a = b → GG M x Z tgt ls st S k) (kf : ¬ (a = b) → GG M x Z (pc + 3) ls st S k) : GG M x Z pc ls (.int b :: .int a :: st) S k := by
  obtain ⟨p, l, e, R, s, m, args, below, meth, c, D, Kc, A, ad0, S0⟩ := x
  intro ok ad H locs LS hR hS hAg hst hls hLS
  exact lv_icmp_eq ok.1 ok.2.1 hd ht (fun h => kt h ok ad H locs LS hR hS hAg (gl_bd_t (gl_bd_t hst)) hls hLS) (fun h => kf h ok ad H locs LS hR hS hAg (gl_bd_t (gl_bd_t hst)) hls hLS)
theorem gg_if_ne {a : Int32} {off : Int} {tgt : Nat} (hd : decode M.1 pc = .ok (.ifCond .ne off, 3)) (ht : (pc : Int) + off = (tgt : Int)) (kt : ¬ a = 0 → GG M x Z tgt ls st S k) (kf : a = 0 → GG M x Z (pc + 3) ls st S k) : GG M x Z pc ls (.int a :: st) S k := by
  obtain ⟨p, l, e, R, s, m, args, below, meth, c, D, Kc, A, ad0, S0⟩ := x
  intro ok ad H locs LS hR hS hAg hst hls hLS
  exact lv_if_ne ok.1 ok.2.1 hd ht (fun h => kt h ok ad H locs LS hR hS hAg (gl_bd_t hst) hls hLS) (fun h => kf h ok ad H locs LS hR hS hAg (gl_bd_t hst) hls hLS)
theorem gg_icmp_ne {a b : Int32} {off : Int} {tgt : Nat} (hd : decode M.1 pc = .ok (.if_icmp .ne off, 3)) (ht : (pc : Int) + off = (tgt : Int)) (kt : ¬ a = b → GG M x Z tgt ls st S k) (kf : a = b → GG M x Z (pc + 3) ls st S k) : GG M x Z pc ls (.int b :: .int a :: st) S k := by
  obtain ⟨p, l, e, R, s, m, args, below, meth, c, D, Kc, A, ad0, S0⟩ := x
  intro ok ad H locs LS hR hS hAg hst hls hLS
  exact lv_icmp_ne ok.1 ok.2.1 hd ht (fun h => kt h ok ad H locs LS hR hS hAg (gl_bd_t (gl_bd_t hst)) hls hLS) (fun h => kf h ok ad H locs LS hR hS hAg (gl_bd_t (gl_bd_t hst)) hls hLS)
theorem gg_if_lt {a : Int32} {off : Int} {tgt : Nat} (hd : decode M.1 pc = .ok (.ifCond .lt off, 3)) (ht : (pc : Int) + off = (tgt : Int)) (kt : a < 0 → GG M x Z tgt ls st S k) (kf : ¬ (a < 0) → GG M x Z (pc + 3) ls st S k) : GG M x Z pc ls (.int a :: st) S k := by
  obtain ⟨p, l, e, R, s, m, args, below, meth, c, D, Kc, A, ad0, S0⟩ := x
  intro ok ad H locs LS hR hS hAg hst hls hLS
  exact lv_if_lt ok.1 ok.2.1 hd ht (fun h => kt h ok ad H locs LS hR hS hAg (gl_bd_t hst) hls hLS) (fun h => kf h ok ad H locs LS hR hS hAg (gl_bd_t hst) hls hLS)
theorem gg_icmp_lt {a b : Int32} {off : Int} {tgt : Nat} (hd : decode M.1 pc = .ok (.if_icmp .lt off, 3)) (ht : (pc : Int) + off = (tgt : Int)) (kt : a < b → GG M x Z tgt ls st S k) (kf : ¬ (a < b) → GG M x Z (pc + 3) ls st S k) : GG M x Z pc ls (.int b :: .int a :: st) S k := by
  obtain ⟨p, l, e, R, s, m, args, below, meth, c, D, Kc, A, ad0, S0⟩ := x
  intro ok ad H locs LS hR hS hAg hst hls hLS
  exact lv_icmp_lt ok.1 ok.2.1 hd ht (fun h => kt h ok ad H locs LS hR hS hAg (gl_bd_t (gl_bd_t hst)) hls hLS) (fun h => kf h ok ad H locs LS hR hS hAg (gl_bd_t (gl_bd_t hst)) hls hLS)
theorem gg_if_ge {a : Int32} {off : Int} {tgt : Nat} (hd : decode M.1 pc = .ok (.ifCond .ge off, 3)) (ht : (pc : Int) + off = (tgt : Int)) (kt : 0 ≤ a → GG M x Z tgt ls st S k) (kf : ¬ (0 ≤ a) → GG M x Z (pc + 3) ls st S k) : GG M x Z pc ls (.int a :: st) S k := by
  obtain ⟨p, l, e, R, s, m, args, below, meth, c, D, Kc, A, ad0, S0⟩ := x
  intro ok ad H locs LS hR hS hAg hst hls hLS
  exact lv_if_ge ok.1 ok.2.1 hd ht (fun h => kt h ok ad H locs LS hR hS hAg (gl_bd_t hst) hls hLS) (fun h => kf h ok ad H locs LS hR hS hAg (gl_bd_t hst) hls hLS)
theorem gg_icmp_ge {a b : Int32} {off : Int} {tgt : Nat} (hd : decode M.1 pc = .ok (.if_icmp .ge off, 3)) (ht : (pc : Int) + off = (tgt : Int)) (kt : b ≤ a → GG M x Z tgt ls st S k) (kf : ¬ (b ≤ a) → GG M x Z (pc + 3) ls st S k) : GG M x Z pc ls (.int b :: .int a :: st) S k := by
  obtain ⟨p, l, e, R, s, m, args, below, meth, c, D, Kc, A, ad0, S0⟩ := x
  intro ok ad H locs LS hR hS hAg hst hls hLS
  exact lv_icmp_ge ok.1 ok.2.1 hd ht (fun h => kt h ok ad H locs LS hR hS hAg (gl_bd_t (gl_bd_t hst)) hls hLS) (fun h => kf h ok ad H locs LS hR hS hAg (gl_bd_t (gl_bd_t hst)) hls hLS)
theorem gg_if_gt {a : Int32} {off : Int} {tgt : Nat} (hd : decode M.1 pc = .ok (.ifCond .gt off, 3)) (ht : (pc : Int) + off = (tgt : Int)) (kt : 0 < a → GG M x Z tgt ls st S k) (kf : ¬ (0 < a) → GG M x Z (pc + 3) ls st S k) : GG M x Z pc ls (.int a :: st) S k := by
  obtain ⟨p, l, e, R, s, m, args, below, meth, c, D, Kc, A, ad0, S0⟩ := x
  intro ok ad H locs LS hR hS hAg hst hls hLS
  exact lv_if_gt ok.1 ok.2.1 hd ht (fun h => kt h ok ad H locs LS hR hS hAg (gl_bd_t hst) hls hLS) (fun h => kf h ok ad H locs LS hR hS hAg (gl_bd_t hst) hls hLS)
theorem gg_icmp_gt {a b : Int32} {off : Int} {tgt : Nat} (hd : decode M.1 pc = .ok (.if_icmp .gt off, 3)) (ht : (pc : Int) + off = (tgt : Int)) (kt : b < a → GG M x Z tgt ls st S k) (kf : ¬ (b < a) → GG M x Z (pc + 3) ls st S k) : GG M x Z pc ls (.int b :: .int a :: st) S k := by
  obtain ⟨p, l, e, R, s, m, args, below, meth, c, D, Kc, A, ad0, S0⟩ := x
  intro ok ad H locs LS hR hS hAg hst hls hLS
  exact lv_icmp_gt ok.1 ok.2.1 hd ht (fun h => kt h ok ad H locs LS hR hS hAg (gl_bd_t (gl_bd_t hst)) hls hLS) (fun h => kf h ok ad H locs LS hR hS hAg (gl_bd_t (gl_bd_t hst)) hls hLS)
theorem gg_if_le {a : Int32} {off : Int} {tgt : Nat} (hd : decode M.1 pc = .ok (.ifCond .le off, 3)) (ht : (pc : Int) + off = (tgt : Int)) (kt : a ≤ 0 → GG M x Z tgt ls st S k) (kf : ¬ (a ≤ 0) → GG M x Z (pc + 3) ls st S k) : GG M x Z pc ls (.int a :: st) S k := by
  obtain ⟨p, l, e, R, s, m, args, below, meth, c, D, Kc, A, ad0, S0⟩ := x
  intro ok ad H locs LS hR hS hAg hst hls hLS
  exact lv_if_le ok.1 ok.2.1 hd ht (fun h => kt h ok ad H locs LS hR hS hAg (gl_bd_t hst) hls hLS) (fun h => kf h ok ad H locs LS hR hS hAg (gl_bd_t hst) hls hLS)
theorem gg_icmp_le {a b : Int32} {off : Int} {tgt : Nat} (hd : decode M.1 pc = .ok (.if_icmp .le off, 3)) (ht : (pc : Int) + off = (tgt : Int)) (kt : a ≤ b → GG M x Z tgt ls st S k) (kf : ¬ (a ≤ b) → GG M x Z (pc + 3) ls st S k) : GG M x Z pc ls (.int b :: .int a :: st) S k := by
  obtain ⟨p, l, e, R, s, m, args, below, meth, c, D, Kc, A, ad0, S0⟩ := x
  intro ok ad H locs LS hR hS hAg hst hls hLS
  exact lv_icmp_le ok.1 ok.2.1 hd ht (fun h => kt h ok ad H locs LS hR hS hAg (gl_bd_t (gl_bd_t hst)) hls hLS) (fun h => kf h ok ad H locs LS hR hS hAg (gl_bd_t (gl_bd_t hst)) hls hLS)
theorem gg_ifnull {r : Nat} {off : Int} (hd : decode M.1 pc = .ok (.ifnull off, 3)) (K : GG M x Z (pc + 3) ls (st) S k) : GG M x Z pc ls (.ref r :: st) S k := by
  obtain ⟨p, l, e, R, s, m, args, below, meth, c, D, Kc, A, ad0, S0⟩ := x
  intro ok ad H locs LS hR hS hAg hst hls hLS
  exact lv_ifnull ok.1 ok.2.1 hd (K ok ad H locs LS hR hS hAg (gl_bd_t hst) hls hLS)
theorem gg_ifnullN {off : Int} {tgt : Nat} (hd : decode M.1 pc = .ok (.ifnull off, 3)) (ht : (pc : Int) + off = (tgt : Int)) (K : GG M x Z tgt ls (st) S k) : GG M x Z pc ls (.null :: st) S k := by
  obtain ⟨p, l, e, R, s, m, args, below, meth, c, D, Kc, A, ad0, S0⟩ := x
  intro ok ad H locs LS hR hS hAg hst hls hLS
  exact lv_ifnullN ok.1 ok.2.1 hd ht (K ok ad H locs LS hR hS hAg (gl_bd_t hst) hls hLS)
theorem gg_ifnonnull {r : Nat} {off : Int} {tgt : Nat} (hd : decode M.1 pc = .ok (.ifnonnull off, 3)) (ht : (pc : Int) + off = (tgt : Int)) (K : GG M x Z tgt ls (st) S k) : GG M x Z pc ls (.ref r :: st) S k := by
  obtain ⟨p, l, e, R, s, m, args, below, meth, c, D, Kc, A, ad0, S0⟩ := x
  intro ok ad H locs LS hR hS hAg hst hls hLS
  exact lv_ifnonnull ok.1 ok.2.1 hd ht (K ok ad H locs LS hR hS hAg (gl_bd_t hst) hls hLS)
theorem gg_ifnonnullN {off : Int} (hd : decode M.1 pc = .ok (.ifnonnull off, 3)) (K : GG M x Z (pc + 3) ls (st) S k) : GG M x Z pc ls (.null :: st) S k := by
  obtain ⟨p, l, e, R, s, m, args, below, meth, c, D, Kc, A, ad0, S0⟩ := x
  intro ok ad H locs LS hR hS hAg hst hls hLS
  exact lv_ifnonnullN ok.1 ok.2.1 hd (K ok ad H locs LS hR hS hAg (gl_bd_t hst) hls hLS)
theorem gg_tabIn {dflt lo hi : Int} {offs : Array Int} {len : Nat} {a : Int32} {off : Int} {tgt : Nat} (hd : decode M.1 pc = .ok (.tableswitch dflt lo hi offs, len)) (h1 : ¬ a.toInt < lo) (h2 : ¬ hi < a.toInt) (ho : offs[(a.toInt - lo).toNat]? = some off) (ht : (pc : Int) + off = (tgt : Int)) (K : GG M x Z tgt ls (st) S k) : GG M x Z pc ls (.int a :: st) S k := by
  obtain ⟨p, l, e, R, s, m, args, below, meth, c, D, Kc, A, ad0, S0⟩ := x
  intro ok ad H locs LS hR hS hAg hst hls hLS
  exact lv_tableIn ok.1 ok.2.1 hd h1 h2 ho ht (K ok ad H locs LS hR hS hAg (gl_bd_t hst) hls hLS)
theorem gg_tabOut {dflt lo hi : Int} {offs : Array Int} {len : Nat} {a : Int32} {tgt : Nat} (hd : decode M.1 pc = .ok (.tableswitch dflt lo hi offs, len)) (h : a.toInt < lo ∨ hi < a.toInt) (ht : (pc : Int) + dflt = (tgt : Int)) (K : GG M x Z tgt ls (st) S k) : GG M x Z pc ls (.int a :: st) S k := by
  obtain ⟨p, l, e, R, s, m, args, below, meth, c, D, Kc, A, ad0, S0⟩ := x
  intro ok ad H locs LS hR hS hAg hst hls hLS
  exact lv_tableOut ok.1 ok.2.1 hd h ht (K ok ad H locs LS hR hS hAg (gl_bd_t hst) hls hLS)
end GR
