/-! new cells, statics, copies, the library's small methods, calls of nest mates, the script -/
section GN
variable {M N : gl_M} {x : gl_X} {Z : State → Prop} {Q : Option Value → gl_H → Prop} {pc idx : Nat} {ls : List (Option Value)} {st rest As : List Value} {S : gl_H} {k : Nat × Nat} {y : MethodName}
theorem gl_mv_new {ad : Nat → Nat} {pl q : Nat} {v : Value} (hp : S pl = none) (hx : pl < 1000000) (hb : gl_bd S v) : gl_mv (gl_aw ad pl q) v = gl_mv ad v := gl_mv_aw (fun e => by
  rcases hb pl e with h | h
  · exact h hp
  · exact absurd h (by unfold gl_xt; omega))
theorem gl_Ag.new {S0 : gl_H} {ad0 ad : Nat → Nat} {pl q : Nat} {c : gl_C} (h : gl_Ag S0 ad0 S ad) (hp : S pl = none) (hx : pl < 1000000) : gl_Ag S0 ad0 (gl_pu S pl c) (gl_aw ad pl q) := fun p => ⟨fun z => by
  by_cases e : p = pl
  · rw [e, gl_pu_s]; exact fun y => by cases y
  · rw [gl_pu_n S c e]; exact (h p).1 z, fun z => by
  have e : p ≠ pl := fun e => by
    subst e
    rcases z with z | z
    · exact (h p).1 z hp
    · exact absurd z (by unfold gl_xt; omega)
  rw [gl_aw, if_neg e]
  exact (h p).2 z⟩
theorem gl_came {p : Program} {l : Launch} {e : Env} {R : Room} {s : State} {m : MethodId} {args : Array Value} {below : List Frame} {meth : Method} {c : Code} {D : va_G} {Kc : Nat → ClassId} {A : Nat → Prop} {ad0 : Nat → Nat} {S0 : gl_H} {H1 : Heap} {locs : List Loc} {LS : Array Slot} {ad : Nat → Nat} {L : List Nat} {pl q pc2 : Nat} {cn : gl_C} {en : va_E} {k2 : Nat × Nat}
    (ok : gl_Ok M (p, l, e, R, s, m, args, below, meth, c, D, Kc, A, ad0, S0)) (hAg : gl_Ag S0 ad0 S ad) (hst : ∀ v ∈ st, gl_bd S v) (hls : ∀ q ∈ gl_as 0 ls, gl_bd S q.2) (hLS : lv_has LS M.2.2.1 (gl_ma ad (gl_as 0 ls))) (h1 : ∀ p, S p ≠ none ↔ p ∈ L) (h2 : L.Nodup) (h5 : gl_wf S) (h6 : ∀ p, S p ≠ none → ¬ gl_xt p) (hp : S pl = none) (hx : pl < 1000000) (hr : ∀ r, ¬ gl_rf cn r) (he : ∀ ad', gl_mE Kc ad' cn = en)
    (hP : va_P D gl_cl (gl_wl Kc ad S L ++ [(q, en)]) H1) (hD : va_D A (gl_wl Kc ad S L ++ [(q, en)])) (hS1 : va_S A s.heap H1 locs) (K : GG M (p, l, e, R, s, m, args, below, meth, c, D, Kc, A, ad0, S0) Z pc2 ls (.ref pl :: st) (gl_pu S pl cn) k2) : W p l e R s m args below meth c H1 locs k2.1 k2.2 Z (F0 m pc2 LS (.ref q :: st.map (gl_mv ad))) := by
  have hR : gl_R D Kc A (gl_aw ad pl q) (gl_pu S pl cn) H1 := gl_R.new (c := cn) h1 h2 h5 h6 hp (by unfold gl_xt; omega) (fun r z => absurd z (hr r)) (fun ad' => Or.inl (he ad')) hP hD
  have hm : gl_ma (gl_aw ad pl q) (gl_as 0 ls) = gl_ma ad (gl_as 0 ls) := List.map_congr_left (fun z hz => by rw [gl_mv_new hp hx (hls z hz)])
  have hmr : st.map (gl_mv (gl_aw ad pl q)) = st.map (gl_mv ad) := List.map_congr_left (fun v hv => gl_mv_new hp hx (hst v hv))
  have hb : gl_bd (gl_pu S pl cn) (.ref pl) := fun r e9 => by cases e9; exact Or.inl (by rw [gl_pu_s]; exact fun z => by cases z)
  have hw := K ok (gl_aw ad pl q) H1 locs LS hR hS1 (hAg.new hp hx) (gl_bd_c hb (gl_bds.pu hst)) (gl_bdq.pu hls) (by rw [hm]; exact hLS)
  have ee : (Value.ref pl :: st).map (gl_mv (gl_aw ad pl q)) = Value.ref q :: st.map (gl_mv ad) := by
    rw [List.map_cons, hmr]
    show Value.ref (gl_aw ad pl q pl) :: _ = _
    rw [gl_aw, if_pos rfl]
  rw [ee] at hw
  exact hw
theorem gg_new {C : String} {T : u_T} {ty : Nat → FieldType} {n ci : Nat} {fs : List Value} (pl : Nat) (hd : decode M.1 pc = .ok (.new idx, 3)) (hin : ∀ w ∈ u_ws C T n, w ∈ gl_T) (hty : ∀ k, k < n → parseFieldDescriptor (T k).2.2.1 = some (ty k)) (hw : Cond.classLink M.2.1 idx C ∈ gl_T ∧ Cond.instantiable C n ∈ gl_T ∧ Cond.initialized C ∈ gl_T) (hc : gl_cl[ci]? = some (C, T, n)) (hfs : ∀ j, j < n → defaultValue (ty j) = vp_V fs j) (hnr : ∀ v ∈ fs, ∀ r, v ≠ .ref r) (hp : S pl = none) (hx : pl < 1000000) (hk : k.1 + 1 ≤ M.2.2.2.2.2.2.1 ∧ k.2 + n ≤ M.2.2.2.2.2.2.2)
    (K : GG M x Z (pc + 3) ls (.ref pl :: st) (gl_pu S pl (.inr (ci, fs))) (k.1 + 1, k.2 + n)) : GG M x Z pc ls st S k := by
  obtain ⟨p, l, e, R, s, m, args, below, meth, c, D, Kc, A, ad0, S0⟩ := x
  intro ok ad H locs LS hR hSS hAg hst hls hLS
  obtain ⟨L, h1, h2, h3, h4, h5, h6⟩ := hR
  have hts := ok.2.2.2.2.2.1
  refine va_new (ci := ci) (fs := fs) ok.1 ok.2.1 hts hin ty hty ok.2.2.2.2.1 (hts _ hw.1) (hts _ hw.2.1) (hts _ hw.2.2) ok.2.2.2.2.2.2.2.2.2.1 h3 h4 hSS ok.2.2.2.2.2.2.2.2.2.2.1 hc hfs (by rw [ok.2.2.2.2.2.2.2.2.1.2.2.1]; exact hk.1) (by rw [ok.2.2.2.2.2.2.2.2.1.2.2.2]; exact hk.2) hd (fun q H1 q1 q2 q3 => ?_)
  refine gl_came (k2 := (k.1 + 1, k.2 + n)) (cn := .inr (ci, fs)) ok hAg hst hls hLS h1 h2 h5 h6 hp hx (fun r z => hnr _ (show Value.ref r ∈ fs from z) r rfl) (fun ad' => ?_) q1 q2 q3 K
  show (Sum.inr (ci, fs.map (gl_mv ad')) : va_E) = _
  rw [show fs.map (gl_mv ad') = fs from (List.map_congr_left (g := id) (fun v hv => by
    cases v with
    | ref r => exact absurd rfl (hnr _ hv r)
    | _ => rfl)).trans (List.map_id fs)]
/-- a new array of numbers; t: the code of its type -/
theorem gg_newa {at9 : ArrayType} {ty : FieldType} {n : Int32} {n' : Nat} {a0 : vp_A} (pl t : Nat) (hd : decode M.1 pc = .ok (.newarray at9, 2)) (hty : newarray.typeOf at9 = ty) (ht : ∀ K, (gl_ty K)[t]? = some (K t, ty)) (hu : ∀ (U : State) (c c' : ClassId), va_RA U c ty → va_RA U c' ty → c = c') (hw : Cond.arrayClass ty ∈ gl_T) (ha : ∀ cA : ClassId, vp_cell cA a0 = arrV cA n' (fun _ => defaultValue ty)) (hma : ∀ ad, gl_mA ad a0 = a0) (hnr : ∀ r, ¬ gl_rf (.inl (t, a0)) r) (hn : ¬ n < 0) (hN : n.toNatClampNeg = n') (hby : n' * componentBytes ty ≤ 536870912) (hp : S pl = none) (hx : pl < 1000000) (hk : k.1 + 1 ≤ M.2.2.2.2.2.2.1 ∧ k.2 + n' ≤ M.2.2.2.2.2.2.2)
    (K : GG M x Z (pc + 2) ls (.ref pl :: st) (gl_pu S pl (.inl (t, a0))) (k.1 + 1, k.2 + n')) : GG M x Z pc ls (.int n :: st) S k := by
  obtain ⟨p, l, e, R, s, m, args, below, meth, c, D, Kc, A, ad0, S0⟩ := x
  intro ok ad H locs LS hR hSS hAg hst hls hLS
  obtain ⟨L, h1, h2, h3, h4, h5, h6⟩ := hR
  have hts := ok.2.2.2.2.2.1
  refine va_newa (ty := ty) (a0 := a0) ok.1 ok.2.1 (by rw [hty]; exact hts _ hw) hty ok.2.2.2.2.2.2.2.2.2.1 h3 h4 hSS ok.2.2.2.2.2.2.2.2.2.2.1 ha hn hN hby (by rw [ok.2.2.2.2.2.2.2.2.1.2.2.1]; exact hk.1) (by rw [ok.2.2.2.2.2.2.2.2.1.2.2.2]; exact hk.2) hd (fun q cA H1 q0 q1 q2 q3 => ?_)
  have e1 := (q0.2 7 (cA, ty) rfl).2
  have e2 := (ok.2.2.2.2.2.2.2.2.2.1.2 t _ (ht Kc)).2
  have e3 : cA = Kc t := hu s _ _ e1 e2
  rw [e3] at q1 q2
  refine gl_came (k2 := (k.1 + 1, k.2 + n')) (cn := .inl (t, a0)) ok hAg (gl_bd_t hst) hls hLS h1 h2 h5 h6 hp hx hnr (fun ad' => ?_) q1 q2 q3 K
  show (Sum.inl (Kc t, gl_mA ad' a0) : va_E) = _
  rw [hma]
/-- a new array of objects -/
theorem gg_newq {C : String} {n : Int32} {n' : Nat} (pl t : Nat) (hd : decode M.1 pc = .ok (.anewarray idx, 3)) (ht : ∀ K, (gl_ty K)[t]? = some (K t, .object C)) (ho : ∀ A ad U H, gl_Ext A ad U H → va_AO C U) (hw : Cond.classLink M.2.1 idx C ∈ gl_T) (hn : ¬ n < 0) (hN : n.toNatClampNeg = n') (hby : n' * 4 ≤ 536870912) (hp : S pl = none) (hx : pl < 1000000) (hk : k.1 + 1 ≤ M.2.2.2.2.2.2.1 ∧ k.2 + n' ≤ M.2.2.2.2.2.2.2)
    (K : GG M x Z (pc + 3) ls (.ref pl :: st) (gl_pu S pl (.inl (t, n', .inr (.inr (.inr (.inr (fun _ => none))))))) (k.1 + 1, k.2 + n')) : GG M x Z pc ls (.int n :: st) S k := by
  obtain ⟨p, l, e, R, s, m, args, below, meth, c, D, Kc, A, ad0, S0⟩ := x
  intro ok ad H locs LS hR hSS hAg hst hls hLS
  obtain ⟨L, h1, h2, h3, h4, h5, h6⟩ := hR
  have hts := ok.2.2.2.2.2.1
  refine va_newq ok.1 ok.2.1 ok.2.2.2.2.1 (hts _ hw) (ho _ _ _ _ ok.2.2.2.2.2.2.2.2.2.2.2) ok.2.2.2.2.2.2.2.2.2.1 h3 h4 hSS ok.2.2.2.2.2.2.2.2.2.2.1 hn hN hby (by rw [ok.2.2.2.2.2.2.2.2.1.2.2.1]; exact hk.1) (by rw [ok.2.2.2.2.2.2.2.2.1.2.2.2]; exact hk.2) hd (fun q cA H1 q0 q1 q2 q3 => ?_)
  obtain ⟨_, _, _, _, _, e1⟩ := (q0.2 7 (cA, .object C) rfl).2
  obtain ⟨_, _, _, _, _, e2⟩ := (ok.2.2.2.2.2.2.2.2.2.1.2 t _ (ht Kc)).2
  have e3 : cA = Kc t := Option.some.inj (e1.symm.trans e2)
  rw [e3] at q1 q2
  exact gl_came (k2 := (k.1 + 1, k.2 + n')) (cn := .inl (t, n', .inr (.inr (.inr (.inr (fun _ => none)))))) ok hAg (gl_bd_t hst) hls hLS h1 h2 h5 h6 hp hx (fun r z => by obtain ⟨j, hj⟩ := z; cases hj) (fun ad' => rfl) q1 q2 q3 K
theorem gg_objInit {b : Nat} (hd : decode M.1 pc = .ok (.invokespecial idx, 3)) (hw : Cond.methodLink M.2.1 idx Lib.objectInit ∈ gl_T ∧ Cond.instanceMethod Lib.objectInit ∈ gl_T ∧ Cond.code Lib.objectInit ⟨#[0xb1]⟩ 1 none ∈ gl_T) (hdep : 1 ≤ M.2.2.2.2.2.1) (hcat : (st.map gl_w).sum ≤ 8) (K : GG M x Z (pc + 3) ls st S k) : GG M x Z pc ls (.ref b :: st) S k := by
  obtain ⟨p, l, e, R, s, m, args, below, meth, c, D, Kc, A, ad0, S0⟩ := x
  intro ok ad H locs LS hR hSS hAg hst hls hLS
  have hts := ok.2.2.2.2.2.1
  have hcat2 : ((st.map (gl_mv ad)).map fun v => v.category).sum ≤ 8 := by
    rw [List.map_map, show (fun v : Value => v.category) ∘ gl_mv ad = gl_w from funext (fun v => gl_mv_cat ad v)]
    exact hcat
  have hfr := ok.2.2.2.2.2.2.2.2.1
  exact W.objInit (a := ad b) (rest := st.map (gl_mv ad)) ok.1 ok.2.1 ok.2.2.2.2.1 (hts _ hw.1) (hts _ hw.2.1) (hts _ hw.2.2) rfl (hLS.1.trans ok.2.2.1.symm) rfl hd (by omega) (by show 2 * 0 + _ + 12 ≤ _; omega) (K ok ad H locs LS hR hSS hAg (gl_bd_t hst) hls hLS)
theorem gg_getst {n d : String} (i : Nat) (hd : decode M.1 pc = .ok (.getstatic idx, 3)) (hl : Cond.fieldLink M.2.1 idx RX2 n d ∈ gl_T) (hx : 1000000 ≤ i) (hz : ∀ A ad U H, gl_Ext A ad U H → va_Z RX2 n d (.ref (ad i)) A U H) (K : GG M x Z (pc + 3) ls (.ref i :: st) S k) : GG M x Z pc ls st S k := by
  obtain ⟨p, l, e, R, s, m, args, below, meth, c, D, Kc, A, ad0, S0⟩ := x
  intro ok ad H locs LS hR hSS hAg hst hls hLS
  have hb : gl_bd S (.ref i) := fun r e9 => by cases e9; exact Or.inr hx
  have e9 : ad i = ad0 i := (hAg i).2 (Or.inr hx)
  refine va_gets (v := .ref (ad0 i)) ok.1 ok.2.1 (hz _ _ _ _ ok.2.2.2.2.2.2.2.2.2.2.2) hSS ok.2.2.2.2.1 (ok.2.2.2.2.2.1 _ hl) (fun _ h => h) hd ?_
  rw [← e9]
  exact K ok ad H locs LS hR hSS hAg (gl_bd_c hb hst) hls hLS
theorem gg_tald_i {f : Nat → Int32} {i : Int32} (t j : Nat) (hx : 1000000 ≤ t) (hz : ∀ A ad U H, gl_Ext A ad U H → va_T .int (ad t) 7 (fun j => .int (f j)) A U H) (hd : decode M.1 pc = .ok (.iaload, 1)) (hi : i = nI j) (hj : j < 7) (K : GG M x Z (pc + 1) ls (.int (f j) :: st) S k) : GG M x Z pc ls (.int i :: .ref t :: st) S k := by
  obtain ⟨p, l, e, R, s, m, args, below, meth, c, D, Kc, A, ad0, S0⟩ := x
  intro ok ad H locs LS hR hSS hAg hst hls hLS
  subst hi
  have e9 : ad t = ad0 t := (hAg t).2 (Or.inr hx)
  have hw := K ok ad H locs LS hR hSS hAg (gl_bd_c gl_bd_i (gl_bd_t (gl_bd_t hst))) hls hLS
  have hc : (nI j).toNatClampNeg = j := nI_clamp (by omega)
  show W p l e R s m args below meth c H locs k.1 k.2 Z (F0 m pc LS (.int (nI j) :: .ref (ad t) :: st.map (gl_mv ad)))
  rw [e9]
  exact va_ti (v := .int (f j)) ok.1 ok.2.1 (hz _ _ _ _ ok.2.2.2.2.2.2.2.2.2.2.2) hSS (vp_in_nI hj (by omega)) (by rw [hc]) hd hw
theorem gg_tald_c {f : Nat → Int32} {i : Int32} (t j : Nat) (hx : 1000000 ≤ t) (hz : ∀ A ad U H, gl_Ext A ad U H → va_T .char (ad t) 7 (fun j => .int (f j)) A U H) (hd : decode M.1 pc = .ok (.caload, 1)) (hi : i = nI j) (hj : j < 7) (K : GG M x Z (pc + 1) ls (.int (f j) :: st) S k) : GG M x Z pc ls (.int i :: .ref t :: st) S k := by
  obtain ⟨p, l, e, R, s, m, args, below, meth, c, D, Kc, A, ad0, S0⟩ := x
  intro ok ad H locs LS hR hSS hAg hst hls hLS
  subst hi
  have e9 : ad t = ad0 t := (hAg t).2 (Or.inr hx)
  have hw := K ok ad H locs LS hR hSS hAg (gl_bd_c gl_bd_i (gl_bd_t (gl_bd_t hst))) hls hLS
  have hc : (nI j).toNatClampNeg = j := nI_clamp (by omega)
  show W p l e R s m args below meth c H locs k.1 k.2 Z (F0 m pc LS (.int (nI j) :: .ref (ad t) :: st.map (gl_mv ad)))
  rw [e9]
  exact va_tc (v := .int (f j)) ok.1 ok.2.1 (hz _ _ _ _ ok.2.2.2.2.2.2.2.2.2.2.2) hSS (vp_in_nI hj (by omega)) (by rw [hc]) hd hw
theorem gg_mmax {a b : Int32} (hd : decode M.1 pc = .ok (.invokestatic idx, 3)) (hw : Cond.methodLink M.2.1 idx Lib.Math.max.name ∈ gl_T ∧ Cond.static Lib.Math.max.name ∈ gl_T ∧ Cond.initialized "java/lang/Math" ∈ gl_T ∧ Cond.code Lib.Math.max.name Lib.Math.max.code 2 (some .int) ∈ gl_T) (hdep : 1 ≤ M.2.2.2.2.2.1) (hcat : (st.map gl_w).sum ≤ 8) (hk : k.1 ≤ M.2.2.2.2.2.2.1 ∧ k.2 ≤ M.2.2.2.2.2.2.2) (K : GG M x Z (pc + 3) ls (.int (if a < b then b else a) :: st) S k) : GG M x Z pc ls (.int b :: .int a :: st) S k := by
  obtain ⟨p, l, e, R, s, m, args, below, meth, c, D, Kc, A, ad0, S0⟩ := x
  intro ok ad H locs LS hR hSS hAg hst hls hLS
  have hts := ok.2.2.2.2.2.1
  have hcat2 : ((st.map (gl_mv ad)).map fun v => v.category).sum ≤ 8 := by
    rw [List.map_map, show (fun v : Value => v.category) ∘ gl_mv ad = gl_w from funext (fun v => gl_mv_cat ad v)]
    exact hcat
  have hfr := ok.2.2.2.2.2.2.2.2.1
  exact va_mmax ok.1 ok.2.1 (ok.2.2.1.trans hLS.1.symm) ok.2.2.2.2.1 (hts _ hw.1) (hts _ hw.2.1) (hts _ hw.2.2.1) (hts _ hw.2.2.2) (by omega) (by omega) (by rw [hfr.2.2.1]; exact hk.1) (by rw [hfr.2.2.2]; exact hk.2) hd (K ok ad H locs LS hR hSS hAg (gl_bd_c gl_bd_i (gl_bd_t (gl_bd_t hst))) hls hLS)
theorem gg_mmin {a b : Int32} (hd : decode M.1 pc = .ok (.invokestatic idx, 3)) (hw : Cond.methodLink M.2.1 idx Lib.Math.min.name ∈ gl_T ∧ Cond.static Lib.Math.min.name ∈ gl_T ∧ Cond.initialized "java/lang/Math" ∈ gl_T ∧ Cond.code Lib.Math.min.name Lib.Math.min.code 2 (some .int) ∈ gl_T) (hdep : 1 ≤ M.2.2.2.2.2.1) (hcat : (st.map gl_w).sum ≤ 8) (hk : k.1 ≤ M.2.2.2.2.2.2.1 ∧ k.2 ≤ M.2.2.2.2.2.2.2) (K : GG M x Z (pc + 3) ls (.int (if b < a then b else a) :: st) S k) : GG M x Z pc ls (.int b :: .int a :: st) S k := by
  obtain ⟨p, l, e, R, s, m, args, below, meth, c, D, Kc, A, ad0, S0⟩ := x
  intro ok ad H locs LS hR hSS hAg hst hls hLS
  have hts := ok.2.2.2.2.2.1
  have hcat2 : ((st.map (gl_mv ad)).map fun v => v.category).sum ≤ 8 := by
    rw [List.map_map, show (fun v : Value => v.category) ∘ gl_mv ad = gl_w from funext (fun v => gl_mv_cat ad v)]
    exact hcat
  have hfr := ok.2.2.2.2.2.2.2.2.1
  exact va_mmin ok.1 ok.2.1 (ok.2.2.1.trans hLS.1.symm) ok.2.2.2.2.1 (hts _ hw.1) (hts _ hw.2.1) (hts _ hw.2.2.1) (hts _ hw.2.2.2) (by omega) (by omega) (by rw [hfr.2.2.1]; exact hk.1) (by rw [hfr.2.2.2]; exact hk.2) hd (K ok ad H locs LS hR hSS hAg (gl_bd_c gl_bd_i (gl_bd_t (gl_bd_t hst))) hls hLS)
theorem gg_callSN {n : Nat} {st : List Value} {host : String} (hsp : Sp N y As S Q) (hd : decode M.1 pc = .ok (.invokestatic idx, 3)) (hz : ∀ A ad U H, gl_Ext A ad U H → va_Nw (.methodLinkNest M.2.1 idx y host) U) (hw : Cond.static y ∈ gl_T ∧ Cond.initialized y.cls ∈ gl_T ∧ Cond.code y N.1 N.2.2.1 N.2.2.2.1 ∈ gl_T ∧ gl_Lk y n)
    (hst : As.reverse ++ rest = st) (hn : As.length = n) (hdep : N.2.2.2.2.2.1 + 1 ≤ M.2.2.2.2.2.1) (hl : N.2.2.1 ≤ 21) (hcat : (rest.map gl_w).sum ≤ 8) (hk : k.1 + N.2.2.2.2.2.2.1 ≤ M.2.2.2.2.2.2.1 ∧ k.2 + N.2.2.2.2.2.2.2 ≤ M.2.2.2.2.2.2.2)
    (K : ∀ r S1, Q r S1 → GG M x Z (pc + 3) ls (r.toList ++ rest) S1 (k.1 + N.2.2.2.2.2.2.1, k.2 + N.2.2.2.2.2.2.2)) : GG M x Z pc ls st S k := by
  obtain ⟨p, l, e, R, s, m, args, below, meth, c, D, Kc, A, ad0, S0⟩ := x
  intro ok ad H locs LS hR hSS hAg hbs hls hLS
  subst hst
  have hb2 : ∀ v ∈ As, gl_bd S v := fun v h => hbs v (List.mem_append_left _ (List.mem_reverse.mpr h))
  have hts := ok.2.2.2.2.2.1
  have hrest : ∀ v ∈ rest, gl_bd S v := fun v hv => hbs v (List.mem_append_right _ hv)
  have hcat2 : ((rest.map (gl_mv ad)).map fun v => v.category).sum ≤ 8 := by
    rw [List.map_map, show (fun v : Value => v.category) ∘ gl_mv ad = gl_w from funext (fun v => gl_mv_cat ad v)]
    exact hcat
  have hbi : ∀ q, gl_A ad S H.size q → A q := fun q h => by
    rcases h with ⟨p1, g1, g2⟩ | h
    · rw [g2]; exact hR.inA g1
    · exact ok.2.2.2.2.2.2.2.2.2.2.1 q (Nat.le_trans hSS.1 h)
  refine gl_behind (av := As.map (gl_mv ad)) ok hR hSS hAg hrest hls hLS (va_runSN (As := As.map (gl_mv ad)) ⟨ok.1, ok.2.1, ok.2.2.1, ok.2.2.2.2.1, hts⟩ (hsp l D Kc ad H.size hb2) ⟨va_cnB n hts (gl_good hw.2.2.1) rfl rfl rfl (hz _ _ _ _ ok.2.2.2.2.2.2.2.2.2.2.2) (hts _ hw.2.1) hw.2.2.2 (gl_fits ⟨ok.2.2.2.2.2.2.2.2.1.1, ok.2.2.2.2.2.2.2.2.1.2.1⟩ hdep hl), hts _ hw.1, trivial⟩ ⟨gl_blind, fun U hU hW => ⟨rfl, by rw [hU], by rw [hU]; exact hR.self _, va_K.moved hW.alike ok.2.2.2.2.2.2.2.2.2.1, by rw [hU]; exact ok.2.2.2.2.2.2.2.2.2.2.2.warm hW (fun a h9 h10 => hSS.2.1 a h9 h10) hbi (fun p9 h9 => (hAg p9).2 (Or.inr h9))⟩⟩ rfl (by rw [List.length_map]; exact hn) hLS.1 (by show List.map _ _ = _; rw [List.map_append, List.map_reverse]) (lv_room hcat2) hd (by rw [ok.2.2.2.2.2.2.2.2.1.2.2.1, ok.2.2.2.2.2.2.2.2.1.2.2.2]; exact hk)) K
theorem gg_callIN {n b : Nat} {st : List Value} {host : String} (hsp : Sp N y (.ref b :: As) S Q) (hd : decode M.1 pc = .ok (.invokespecial idx, 3)) (hz : ∀ A ad U H, gl_Ext A ad U H → va_Nw (.methodLinkNest M.2.1 idx y host) U) (hw : Cond.instanceMethod y ∈ gl_T ∧ Cond.initialized y.cls ∈ gl_T ∧ Cond.code y N.1 N.2.2.1 N.2.2.2.1 ∈ gl_T ∧ gl_Lk y n) (hi : y.name = "<init>") (hrt : N.2.2.2.1 = none)
    (hst : As.reverse ++ .ref b :: rest = st) (hn : As.length = n) (hdep : N.2.2.2.2.2.1 + 1 ≤ M.2.2.2.2.2.1) (hl : N.2.2.1 ≤ 21) (hcat : (rest.map gl_w).sum ≤ 8) (hk : k.1 + N.2.2.2.2.2.2.1 ≤ M.2.2.2.2.2.2.1 ∧ k.2 + N.2.2.2.2.2.2.2 ≤ M.2.2.2.2.2.2.2)
    (K : ∀ r S1, Q r S1 → GG M x Z (pc + 3) ls (r.toList ++ rest) S1 (k.1 + N.2.2.2.2.2.2.1, k.2 + N.2.2.2.2.2.2.2)) : GG M x Z pc ls st S k := by
  obtain ⟨p, l, e, R, s, m, args, below, meth, c, D, Kc, A, ad0, S0⟩ := x
  obtain ⟨nb, no, nl, nr, ni⟩ := N
  intro ok ad H locs LS hR hSS hAg hbs hls hLS
  have hrt' : nr = none := hrt
  subst hrt'
  subst hst
  have hb2 : ∀ v ∈ Value.ref b :: As, gl_bd S v := fun v hv => by
    rcases List.mem_cons.mp hv with h | h
    · exact hbs v (List.mem_append_right _ (by rw [h]; exact List.mem_cons_self))
    · exact hbs v (List.mem_append_left _ (List.mem_reverse.mpr h))
  have hts := ok.2.2.2.2.2.1
  have hrest : ∀ v ∈ rest, gl_bd S v := fun v hv => hbs v (List.mem_append_right _ (List.mem_cons_of_mem _ hv))
  have hcat2 : ((rest.map (gl_mv ad)).map fun v => v.category).sum ≤ 8 := by
    rw [List.map_map, show (fun v : Value => v.category) ∘ gl_mv ad = gl_w from funext (fun v => gl_mv_cat ad v)]
    exact hcat
  have hbi : ∀ q, gl_A ad S H.size q → A q := fun q h => by
    rcases h with ⟨p1, g1, g2⟩ | h
    · rw [g2]; exact hR.inA g1
    · exact ok.2.2.2.2.2.2.2.2.2.2.1 q (Nat.le_trans hSS.1 h)
  refine gl_behind (av := (.ref (ad b)) :: As.map (gl_mv ad)) ok hR hSS hAg hrest hls hLS (va_runIN (As := As.map (gl_mv ad)) ⟨ok.1, ok.2.1, ok.2.2.1, ok.2.2.2.2.1, hts⟩ (hsp l D Kc ad H.size hb2) ⟨va_cnB n hts (gl_good (N := (nb, no, nl, none, ni)) hw.2.2.1) rfl rfl rfl (hz _ _ _ _ ok.2.2.2.2.2.2.2.2.2.2.2) (hts _ hw.2.1) hw.2.2.2 (gl_fits ⟨ok.2.2.2.2.2.2.2.2.1.1, ok.2.2.2.2.2.2.2.2.1.2.1⟩ hdep hl), hi, hts _ hw.1⟩ ⟨gl_blind, fun U hU hW => ⟨rfl, by rw [hU], by rw [hU]; exact hR.self _, va_K.moved hW.alike ok.2.2.2.2.2.2.2.2.2.1, by rw [hU]; exact ok.2.2.2.2.2.2.2.2.2.2.2.warm hW (fun a h9 h10 => hSS.2.1 a h9 h10) hbi (fun p9 h9 => (hAg p9).2 (Or.inr h9))⟩⟩ rfl (by rw [List.length_map]; exact hn) hLS.1 (by show List.map _ _ = _; rw [List.map_append, List.map_reverse]; rfl) (lv_room hcat2) hd (by rw [ok.2.2.2.2.2.2.2.2.1.2.2.1, ok.2.2.2.2.2.2.2.2.1.2.2.2]; exact hk)) K
/-- System.arraycopy of ints between two arrays of the heap, from 0 to 0 -/
theorem gg_copyi {p0 p1 n0 n1 : Nat} {f g : Nat → Int32} {n : Int32} (n' : Nat) (hd : decode M.1 pc = .ok (.invokestatic idx, 3)) (hw : Cond.methodLink M.2.1 idx arraycopyName ∈ gl_T ∧ Cond.native arraycopyName ∈ gl_T ∧ Cond.static arraycopyName ∈ gl_T ∧ Cond.initialized "java/lang/System" ∈ gl_T) (h0 : S p0 = some (.inl (0, n0, .inl f))) (hp1 : S p1 = some (.inl (0, n1, .inl g))) (hn : ¬ n < 0) (hn' : n.toNatClampNeg = n') (hb0 : n' ≤ n0) (hb1 : n' ≤ n1) (hdep : 1 ≤ M.2.2.2.2.2.1) (hcat : (st.map gl_w).sum ≤ 8)
    (K : GG M x Z (pc + 3) ls st (gl_pu S p1 (.inl (0, n1, .inl (va_cpy f g 0 0 n')))) k) : GG M x Z pc ls (.int n :: .int 0 :: .ref p1 :: .int 0 :: .ref p0 :: st) S k := by
  obtain ⟨p, l, e, R, s, m, args, below, meth, c, D, Kc, A, ad0, S0⟩ := x
  intro ok ad H locs LS hR hSS hAg hst hls hLS
  have hts := ok.2.2.2.2.2.1
  have hcat2 : ((st.map (gl_mv ad)).map fun v => v.category).sum ≤ 8 := by
    rw [List.map_map, show (fun v : Value => v.category) ∘ gl_mv ad = gl_w from funext (fun v => gl_mv_cat ad v)]
    exact hcat
  have hfr := ok.2.2.2.2.2.2.2.2.1
  obtain ⟨L, j, h1, h2, h3, h4, h5, h6, h7, h8⟩ := gl_at hR hp1
  obtain ⟨j0, g7⟩ := List.getElem?_of_mem ((h1 p0).mp (gl_some h0))
  have hz : (0 : Int32).toNatClampNeg = 0 := by decide
  refine va_copyi (ty := .int) ok.1 ok.2.1 (ok.2.2.1.trans hLS.1.symm) ok.2.2.2.2.1 (hts _ hw.1) (hts _ hw.2.1) (hts _ hw.2.2.1) (hts _ hw.2.2.2) ok.2.2.2.2.2.2.2.2.2.1 h3 h4 hSS j0 j 0 0 (gl_wl_at g7 h0) h8 rfl rfl rfl (by decide) (by decide) hn (by rw [hz, hn']; omega) (by rw [hz, hn']; omega) (fun i hi => rfl) (by omega) (by show _ + (7 + 11) ≤ _; omega) hd (fun H1 locs1 q1 q2 q3 => ?_)
  rw [hz, hn'] at q1 q2
  exact K ok ad H1 locs1 LS (gl_R.pu (c' := .inl (0, n1, .inl (va_cpy f g 0 0 n'))) h1 h2 h5 h6 h7 hp1 (fun r hr => hr.elim) q1 q2) q3 hAg.pu (gl_bds.pu (gl_bd_t (gl_bd_t (gl_bd_t (gl_bd_t (gl_bd_t hst)))))) (gl_bdq.pu hls) hLS
end GN
