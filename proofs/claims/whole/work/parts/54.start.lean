/-! THE LAW'S START: classes, array classes, static arrays; by wip/tools/lawstart.py -/
theorem st_prim {s : State} {args : Array Value} {ty : FieldType} (h : (Cond.arrayClass ty).before args s = true) : ∃ cA, ArrOfT s cA ty ∧ s.vm.findClass ("[" ++ ty.toString) = some cA := by
  obtain ⟨c, k, comp, h1, h2, h3⟩ := Cond.arrayClass_spec h
  exact ⟨c, fun n z => ⟨fun k h => (by cases h), k, h2, comp, h3⟩, h1⟩
theorem st_obj {s : State} {C : String} (h : va_AO C s) : ∃ cA, ArrOfT s cA (.object C) ∧ va_RA s cA (.object C) := by
  obtain ⟨comp, c, k, h1, h2, h3, h4, h5⟩ := Cond.arrayOver_spec h
  exact ⟨c, fun n z => ⟨fun k h => (by cases h), k, h3, comp, h4⟩, k, comp, h3, h4, h1, h5⟩
theorem st_arr {s : State} {ty : FieldType} (h : va_AOA ty s) : ∃ cA, ArrOfT s cA (.array ty) ∧ s.vm.findClass ("[" ++ (FieldType.array ty).toString) = some cA := by
  obtain ⟨comp, c, k, h1, h2, h3, h4, h5⟩ := va_AOA.spec h
  exact ⟨c, fun n z => ⟨fun k h => (by cases h), k, h3, comp, h4⟩, h5⟩
section ST
variable {s : State} {b : Nat} {args : Array Value}
set_option maxRecDepth 20000 in
theorem st_eAT (hs : ∀ w ∈ flatC (Jvm.Cond.and given_1 narrow_1), w.before args s = true) : ∀ j : Nat, j < 7 → (Term.elem (Term.static RX2 "AT_FIRST" "[I") (.int (Int32.ofNat j))).eval args s none [] s = some (.int (gl_AT j))
  | 0, _ => va_eqt (z := 60) (hs (Cond.eq (Term.elem (Term.static RX2 "AT_FIRST" "[I") (.int 0)) (.int 60)) (by decide +kernel))
  | 1, _ => va_eqt (z := 60) (hs (Cond.eq (Term.elem (Term.static RX2 "AT_FIRST" "[I") (.int 1)) (.int 60)) (by decide +kernel))
  | 2, _ => va_eqt (z := 5) (hs (Cond.eq (Term.elem (Term.static RX2 "AT_FIRST" "[I") (.int 2)) (.int 5)) (by decide +kernel))
  | 3, _ => va_eqt (z := 20) (hs (Cond.eq (Term.elem (Term.static RX2 "AT_FIRST" "[I") (.int 3)) (.int 20)) (by decide +kernel))
  | 4, _ => va_eqt (z := 2000) (hs (Cond.eq (Term.elem (Term.static RX2 "AT_FIRST" "[I") (.int 4)) (.int 2000)) (by decide +kernel))
  | 5, _ => va_eqt (z := 300) (hs (Cond.eq (Term.elem (Term.static RX2 "AT_FIRST" "[I") (.int 5)) (.int 300)) (by decide +kernel))
  | 6, _ => va_eqt (z := 2) (hs (Cond.eq (Term.elem (Term.static RX2 "AT_FIRST" "[I") (.int 6)) (.int 2)) (by decide +kernel))
  | j + 7, h => absurd h (by omega)
set_option maxRecDepth 20000 in
theorem st_AT (hts : ∀ w ∈ lw_tbl, w.before args s = true) (hs : ∀ w ∈ flatC (Jvm.Cond.and given_1 narrow_1), w.before args s = true) : ∃ t : Nat, va_Z RX2 "AT_FIRST" "[I" (.ref t) (fun q : Nat => s.heap.size ≤ q) s s.heap ∧ va_T .int t 7 (fun j => .int (gl_AT j)) (fun q : Nat => s.heap.size ≤ q) s s.heap := by
  have hA : ∀ a : Nat, a < s.heap.size → ¬ (fun q : Nat => s.heap.size ≤ q) a := fun a h => Nat.not_le.mpr h
  obtain ⟨t, h1, h2⟩ := va_Tof (tm := (Term.static RX2 "AT_FIRST" "[I")) (ty := .int) (N := 7) (f := fun j => .int (gl_AT j)) (by decide) (hs (Cond.arrayOf (Term.static RX2 "AT_FIRST" "[I") .int) (by decide +kernel)) (va_eqt (z := 7) (hs (Cond.eq (Term.length (Term.static RX2 "AT_FIRST" "[I")) (.int 7)) (by decide +kernel))) (st_eAT hs) hA
  exact ⟨t, va_Zref (hts (.laysStatic RX2 "AT_FIRST" "[I") (by decide +kernel)) (hts (.initialized RX2) (by decide +kernel)) h1 hA, h2⟩
set_option maxRecDepth 20000 in
theorem st_eLE (hs : ∀ w ∈ flatC (Jvm.Cond.and given_1 narrow_1), w.before args s = true) : ∀ j : Nat, j < 7 → (Term.elem (Term.static RX2 "LEAST" "[I") (.int (Int32.ofNat j))).eval args s none [] s = some (.int (gl_LE j))
  | 0, _ => va_eqt (z := 0) (hs (Cond.eq (Term.elem (Term.static RX2 "LEAST" "[I") (.int 0)) (.int 0)) (by decide +kernel))
  | 1, _ => va_eqt (z := 0) (hs (Cond.eq (Term.elem (Term.static RX2 "LEAST" "[I") (.int 1)) (.int 0)) (by decide +kernel))
  | 2, _ => va_eqt (z := 0) (hs (Cond.eq (Term.elem (Term.static RX2 "LEAST" "[I") (.int 2)) (.int 0)) (by decide +kernel))
  | 3, _ => va_eqt (z := 0) (hs (Cond.eq (Term.elem (Term.static RX2 "LEAST" "[I") (.int 3)) (.int 0)) (by decide +kernel))
  | 4, _ => va_eqt (z := 0) (hs (Cond.eq (Term.elem (Term.static RX2 "LEAST" "[I") (.int 4)) (.int 0)) (by decide +kernel))
  | 5, _ => va_eqt (z := 0) (hs (Cond.eq (Term.elem (Term.static RX2 "LEAST" "[I") (.int 5)) (.int 0)) (by decide +kernel))
  | 6, _ => va_eqt (z := 1) (hs (Cond.eq (Term.elem (Term.static RX2 "LEAST" "[I") (.int 6)) (.int 1)) (by decide +kernel))
  | j + 7, h => absurd h (by omega)
set_option maxRecDepth 20000 in
theorem st_LE (hts : ∀ w ∈ lw_tbl, w.before args s = true) (hs : ∀ w ∈ flatC (Jvm.Cond.and given_1 narrow_1), w.before args s = true) : ∃ t : Nat, va_Z RX2 "LEAST" "[I" (.ref t) (fun q : Nat => s.heap.size ≤ q) s s.heap ∧ va_T .int t 7 (fun j => .int (gl_LE j)) (fun q : Nat => s.heap.size ≤ q) s s.heap := by
  have hA : ∀ a : Nat, a < s.heap.size → ¬ (fun q : Nat => s.heap.size ≤ q) a := fun a h => Nat.not_le.mpr h
  obtain ⟨t, h1, h2⟩ := va_Tof (tm := (Term.static RX2 "LEAST" "[I")) (ty := .int) (N := 7) (f := fun j => .int (gl_LE j)) (by decide) (hs (Cond.arrayOf (Term.static RX2 "LEAST" "[I") .int) (by decide +kernel)) (va_eqt (z := 7) (hs (Cond.eq (Term.length (Term.static RX2 "LEAST" "[I")) (.int 7)) (by decide +kernel))) (st_eLE hs) hA
  exact ⟨t, va_Zref (hts (.laysStatic RX2 "LEAST" "[I") (by decide +kernel)) (hts (.initialized RX2) (by decide +kernel)) h1 hA, h2⟩
set_option maxRecDepth 20000 in
theorem st_eMO (hs : ∀ w ∈ flatC (Jvm.Cond.and given_1 narrow_1), w.before args s = true) : ∀ j : Nat, j < 7 → (Term.elem (Term.static RX2 "MOST" "[I") (.int (Int32.ofNat j))).eval args s none [] s = some (.int (gl_MO j))
  | 0, _ => va_eqt (z := 120) (hs (Cond.eq (Term.elem (Term.static RX2 "MOST" "[I") (.int 0)) (.int 120)) (by decide +kernel))
  | 1, _ => va_eqt (z := 999) (hs (Cond.eq (Term.elem (Term.static RX2 "MOST" "[I") (.int 1)) (.int 999)) (by decide +kernel))
  | 2, _ => va_eqt (z := 99) (hs (Cond.eq (Term.elem (Term.static RX2 "MOST" "[I") (.int 2)) (.int 99)) (by decide +kernel))
  | 3, _ => va_eqt (z := 99) (hs (Cond.eq (Term.elem (Term.static RX2 "MOST" "[I") (.int 3)) (.int 99)) (by decide +kernel))
  | 4, _ => va_eqt (z := 9999) (hs (Cond.eq (Term.elem (Term.static RX2 "MOST" "[I") (.int 4)) (.int 9999)) (by decide +kernel))
  | 5, _ => va_eqt (z := 9999) (hs (Cond.eq (Term.elem (Term.static RX2 "MOST" "[I") (.int 5)) (.int 9999)) (by decide +kernel))
  | 6, _ => va_eqt (z := 9) (hs (Cond.eq (Term.elem (Term.static RX2 "MOST" "[I") (.int 6)) (.int 9)) (by decide +kernel))
  | j + 7, h => absurd h (by omega)
set_option maxRecDepth 20000 in
theorem st_MO (hts : ∀ w ∈ lw_tbl, w.before args s = true) (hs : ∀ w ∈ flatC (Jvm.Cond.and given_1 narrow_1), w.before args s = true) : ∃ t : Nat, va_Z RX2 "MOST" "[I" (.ref t) (fun q : Nat => s.heap.size ≤ q) s s.heap ∧ va_T .int t 7 (fun j => .int (gl_MO j)) (fun q : Nat => s.heap.size ≤ q) s s.heap := by
  have hA : ∀ a : Nat, a < s.heap.size → ¬ (fun q : Nat => s.heap.size ≤ q) a := fun a h => Nat.not_le.mpr h
  obtain ⟨t, h1, h2⟩ := va_Tof (tm := (Term.static RX2 "MOST" "[I")) (ty := .int) (N := 7) (f := fun j => .int (gl_MO j)) (by decide) (hs (Cond.arrayOf (Term.static RX2 "MOST" "[I") .int) (by decide +kernel)) (va_eqt (z := 7) (hs (Cond.eq (Term.length (Term.static RX2 "MOST" "[I")) (.int 7)) (by decide +kernel))) (st_eMO hs) hA
  exact ⟨t, va_Zref (hts (.laysStatic RX2 "MOST" "[I") (by decide +kernel)) (hts (.initialized RX2) (by decide +kernel)) h1 hA, h2⟩
set_option maxRecDepth 20000 in
theorem st_eLT (hs : ∀ w ∈ flatC (Jvm.Cond.and given_1 narrow_1), w.before args s = true) : ∀ j : Nat, j < 7 → (Term.elem (Term.static RX2 "LETTERS" "[C") (.int (Int32.ofNat j))).eval args s none [] s = some (.int (gl_LT j))
  | 0, _ => va_eqt (z := 119) (hs (Cond.eq (Term.elem (Term.static RX2 "LETTERS" "[C") (.int 0)) (.int 119)) (by decide +kernel))
  | 1, _ => va_eqt (z := 115) (hs (Cond.eq (Term.elem (Term.static RX2 "LETTERS" "[C") (.int 1)) (.int 115)) (by decide +kernel))
  | 2, _ => va_eqt (z := 100) (hs (Cond.eq (Term.elem (Term.static RX2 "LETTERS" "[C") (.int 2)) (.int 100)) (by decide +kernel))
  | 3, _ => va_eqt (z := 108) (hs (Cond.eq (Term.elem (Term.static RX2 "LETTERS" "[C") (.int 3)) (.int 108)) (by decide +kernel))
  | 4, _ => va_eqt (z := 112) (hs (Cond.eq (Term.elem (Term.static RX2 "LETTERS" "[C") (.int 4)) (.int 112)) (by decide +kernel))
  | 5, _ => va_eqt (z := 113) (hs (Cond.eq (Term.elem (Term.static RX2 "LETTERS" "[C") (.int 5)) (.int 113)) (by decide +kernel))
  | 6, _ => va_eqt (z := 114) (hs (Cond.eq (Term.elem (Term.static RX2 "LETTERS" "[C") (.int 6)) (.int 114)) (by decide +kernel))
  | j + 7, h => absurd h (by omega)
set_option maxRecDepth 20000 in
theorem st_LT (hts : ∀ w ∈ lw_tbl, w.before args s = true) (hs : ∀ w ∈ flatC (Jvm.Cond.and given_1 narrow_1), w.before args s = true) : ∃ t : Nat, va_Z RX2 "LETTERS" "[C" (.ref t) (fun q : Nat => s.heap.size ≤ q) s s.heap ∧ va_T .char t 7 (fun j => .int (gl_LT j)) (fun q : Nat => s.heap.size ≤ q) s s.heap := by
  have hA : ∀ a : Nat, a < s.heap.size → ¬ (fun q : Nat => s.heap.size ≤ q) a := fun a h => Nat.not_le.mpr h
  obtain ⟨t, h1, h2⟩ := va_Tof (tm := (Term.static RX2 "LETTERS" "[C")) (ty := .char) (N := 7) (f := fun j => .int (gl_LT j)) (by decide) (hs (Cond.arrayOf (Term.static RX2 "LETTERS" "[C") .char) (by decide +kernel)) (va_eqt (z := 7) (hs (Cond.eq (Term.length (Term.static RX2 "LETTERS" "[C")) (.int 7)) (by decide +kernel))) (st_eLT hs) hA
  exact ⟨t, va_Zref (hts (.laysStatic RX2 "LETTERS" "[C") (by decide +kernel)) (hts (.initialized RX2) (by decide +kernel)) h1 hA, h2⟩
end ST
theorem st_cls {s : State} {args : Array Value} (hts : ∀ w ∈ gl_T, w.before args s = true) : ∃ D : va_G, ∀ (k : Nat) (q : vw_C), gl_cl[k]? = some q → u_Kn s q.1 q.2.1 q.2.2 (D.1 k) (D.2 k) := by
  obtain ⟨c0, i0, k0⟩ := u_known (C := RX0) (T := TX0) (N := 5) (n := 5) hts igX0 (hts _ nw_X6_29.2.1)
  obtain ⟨c1, i1, k1⟩ := u_known (C := RX1) (T := TX1) (N := 7) (n := 7) hts igX1 (hts _ nw_X6_42.2.1)
  obtain ⟨c2, i2, k2⟩ := u_known (C := RX2) (T := TX2) (N := 3) (n := 3) hts igX2 (hts _ nw_X6_16.2.1)
  obtain ⟨c3, i3, k3⟩ := u_known (C := RX3) (T := TX3) (N := 2) (n := 2) hts igX3 (hts _ nw_X6_7.2.1)
  obtain ⟨c4, i4, k4⟩ := u_known (C := RX4) (T := TX4) (N := 11) (n := 11) hts igX4 (hts _ nw_X6_23.2.1)
  obtain ⟨c5, i5, k5⟩ := u_known (C := RX5) (T := TX5) (N := 5) (n := 5) hts igX5 (hts _ nw_X6_35.2.1)
  obtain ⟨c6, i6, k6⟩ := u_known (C := RX6) (T := TX6) (N := 9) (n := 9) hts igX6 (hts _ nw_L_7.2.1)
  obtain ⟨c7, i7, k7⟩ := u_known (C := RX7) (T := TX7) (N := 32) (n := 32) hts igX7 (hts _ nw_L_10.2.1)
  refine ⟨(fun k => if k = 0 then c0 else if k = 1 then c1 else if k = 2 then c2 else if k = 3 then c3 else if k = 4 then c4 else if k = 5 then c5 else if k = 6 then c6 else c7, fun k => if k = 0 then i0 else if k = 1 then i1 else if k = 2 then i2 else if k = 3 then i3 else if k = 4 then i4 else if k = 5 then i5 else if k = 6 then i6 else i7), ?_⟩
  intro k q hq
  match k, hq with
  | 0, hq => cases hq; exact k0
  | 1, hq => cases hq; exact k1
  | 2, hq => cases hq; exact k2
  | 3, hq => cases hq; exact k3
  | 4, hq => cases hq; exact k4
  | 5, hq => cases hq; exact k5
  | 6, hq => cases hq; exact k6
  | 7, hq => cases hq; exact k7
  | k + 8, hq => simp [gl_cl] at hq
set_option maxRecDepth 20000 in
theorem st_ao {s : State} {args : Array Value} (hts : ∀ w ∈ lw_tbl, w.before args s = true) : va_AO RX4 s ∧ va_AO RX0 s ∧ va_AOA .long s := ⟨va_AO.of (hts (.arrayOver (.object RX4)) (by decide +kernel)), va_AO.of (hts (.arrayOver (.object RX0)) (by decide +kernel)), (hts (.arrayOver (.array .long)) (by decide +kernel))⟩
set_option maxRecDepth 20000 in
theorem st_nw {s : State} {args : Array Value} (hts : ∀ w ∈ lw_tbl, w.before args s = true) : va_Nw (.methodLinkNest RX6 9 yX3_init RX6) s ∧ va_Nw (.methodLinkNest RX6 37 yX5_init RX6) s ∧ va_Nw (.methodLinkNest RX6 44 yX1_init RX6) s ∧ va_Nw (.methodLinkNest RX4 48 yX6_hasBit RX6) s ∧ va_Nw (.methodLinkNest RX1 58 yX6_hasBit RX6) s := ⟨va_Nw.of rfl (hts _ (by decide +kernel)), va_Nw.of rfl (hts _ (by decide +kernel)), va_Nw.of rfl (hts _ (by decide +kernel)), va_Nw.of rfl (hts _ (by decide +kernel)), va_Nw.of rfl (hts _ (by decide +kernel))⟩
theorem st_K {s : State} {args : Array Value} (hts : ∀ w ∈ lw_tbl, w.before args s = true) (hts2 : ∀ w ∈ gl_T, w.before args s = true) : ∃ (D : va_G) (K : Nat → ClassId), va_K D gl_cl (gl_ty K) s := by
  obtain ⟨D, hD⟩ := st_cls hts2
  obtain ⟨a1, a2, a3⟩ := st_ao hts
  obtain ⟨c0, p0, q0⟩ := st_prim (hts2 _ ka_int)
  obtain ⟨c1, p1, q1⟩ := st_prim (hts2 _ ka_long)
  obtain ⟨c2, p2, q2⟩ := st_prim (hts2 _ ka_byte)
  obtain ⟨c3, p3, q3⟩ := st_prim (hts2 _ ka_short)
  obtain ⟨c4, p4, q4⟩ := st_obj a1
  obtain ⟨c5, p5, q5⟩ := st_obj a2
  obtain ⟨c6, p6, q6⟩ := st_arr a3
  refine ⟨D, fun k => if k = 0 then c0 else if k = 1 then c1 else if k = 2 then c2 else if k = 3 then c3 else if k = 4 then c4 else if k = 5 then c5 else c6, hD, ?_⟩
  intro k q hq
  match k, hq with
  | 0, hq => cases hq; exact ⟨p0, q0⟩
  | 1, hq => cases hq; exact ⟨p1, q1⟩
  | 2, hq => cases hq; exact ⟨p2, q2⟩
  | 3, hq => cases hq; exact ⟨p3, q3⟩
  | 4, hq => cases hq; exact ⟨p4, q4⟩
  | 5, hq => cases hq; exact ⟨p5, q5⟩
  | 6, hq => cases hq; exact ⟨p6, q6⟩
  | k + 7, hq => simp [gl_ty] at hq
theorem whole_start {p : Program} {e : Env} {s : State} {m : MethodId} {below : List Frame} {meth : Method} {c : Code} (l : Launch) {b L : Nat} {xs : Nat → Int32} (hL : L ≤ 3072) (C0 : lw_At p s m meth c b L xs) : W p l e room_1 s m #[Value.ref b] below meth c s.heap [] 0 0 (lw_Z below #[Value.ref b] s) (entryFrame m ([Value.ref b] : List Value).toArray 4) := by
  obtain ⟨hx, hb, hr, hml, hown, hts, hX, hbl, hlocks, hgv⟩ := id C0
  have hs := flat_of_before _ hgv
  have hts2 : ∀ w ∈ gl_T, w.before #[Value.ref b] s = true := fun w hw => hts w (List.mem_filter.mp hw).1
  obtain ⟨D, K, hK⟩ := st_K hts hts2
  obtain ⟨t0, z0, u0⟩ := st_AT hts hs
  obtain ⟨t1, z1, u1⟩ := st_LE hts hs
  obtain ⟨t2, z2, u2⟩ := st_MO hts hs
  obtain ⟨t3, z3, u3⟩ := st_LT hts hs
  obtain ⟨ad0, e0, e1, e2, e3, e10⟩ : ∃ ad0 : Nat → Nat, ad0 1000000 = t0 ∧ ad0 1000001 = t1 ∧ ad0 1000002 = t2 ∧ ad0 1000003 = t3 ∧ ad0 1000010 = b := ⟨fun p => if p = 1000000 then t0 else if p = 1000001 then t1 else if p = 1000002 then t2 else if p = 1000003 then t3 else b, rfl, rfl, rfl, rfl, rfl⟩
  have hE : gl_Ext (fun q : Nat => s.heap.size ≤ q) ad0 s s.heap := by
    unfold gl_Ext
    rw [e0, e1, e2, e3]
    exact ⟨⟨z0, u0⟩, ⟨z1, u1⟩, ⟨z2, u2⟩, ⟨z3, u3⟩, st_ao hts, st_nw hts⟩
  have ok : gl_Ok mL_law (p, l, e, room_1, s, m, #[Value.ref b], below, meth, c, D, K, (fun q : Nat => s.heap.size ≤ q), ad0, fun _ => none) := ⟨hx, hb, hml, hr, hown, hts2, hlocks, fun h => absurd h (by decide), ⟨by decide, by decide, rfl, rfl⟩, hK, fun q h => h, hE⟩
  have hl := lv_entry ([.ref b]) (n := 4) (Nat.le_of_ble_eq_true rfl)
  rw [lg_entry_eq]
  generalize (lg_sl ([.ref b]) ++ List.replicate (4 - (lg_sl ([.ref b])).length) Slot.unset).toArray = LS at hl ⊢
  have hl : lv_has LS 4 [(0, .ref b)] := hl
  have hR : gl_R D K (fun q : Nat => s.heap.size ≤ q) ad0 (fun _ => none) s.heap := ⟨[], fun p => ⟨fun h => absurd rfl h, fun h => (by cases h)⟩, List.nodup_nil, fun k q h => (by simp [gl_wl] at h), ⟨fun i j p q h => (by simp [gl_wl] at h), fun k q h => (by simp [gl_wl] at h)⟩, fun p c h => (by cases h), fun p h => absurd rfl h⟩
  have hsc : gl_Scr (p, l, e, room_1, s, m, #[Value.ref b], below, meth, c, D, K, (fun q : Nat => s.heap.size ≤ q), ad0, fun _ => none) L xs := by
    show va_X (ad0 1000010) L xs s s.heap ∧ ad0 1000010 < s.heap.size ∧ ¬ s.heap.size ≤ ad0 1000010
    rw [e10]
    exact ⟨hX, hbl, Nat.not_le.mpr hbl⟩
  refine lw_entry (x := (p, l, e, room_1, s, m, #[Value.ref b], below, meth, c, D, K, (fun q : Nat => s.heap.size ≤ q), ad0, fun _ => none)) ⟨rfl, ⟨b, rfl⟩, fun q h => h⟩ hL hsc ok ad0 s.heap [] LS hR va_S.rf gl_Ag.rf (fun v hv => by cases hv) (fun q hq => ?_) ?_
  · rcases List.mem_cons.mp (show q ∈ [(0, Value.ref 1000010)] from hq) with h | h
    · rw [h]
      intro r hr9
      cases hr9
      exact Or.inr (by unfold gl_xt; omega)
    · cases h
  · show lv_has LS 4 [(0, .ref (ad0 1000010))]
    rw [e10]
    exact hl
