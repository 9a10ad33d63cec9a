/-! System.arraycopy out of the static array AT_FIRST; the script -/
section GX
variable {M : gl_M} {x : gl_X} {Z : State → Prop} {pc idx : Nat} {ls : List (Option Value)} {st : List Value} {S : gl_H} {k : Nat × Nat}
theorem gg_copyx {p1 n1 : Nat} {g f : Nat → Int32} (t : Nat) (hx : 1000000 ≤ t) (hz : ∀ A ad U H, gl_Ext A ad U H → va_T .int (ad t) 7 (fun j => .int (f j)) A U H) (hd : decode M.1 pc = .ok (.invokestatic idx, 3)) (hw : Cond.methodLink M.2.1 idx arraycopyName ∈ gl_T ∧ Cond.native arraycopyName ∈ gl_T ∧ Cond.static arraycopyName ∈ gl_T ∧ Cond.initialized "java/lang/System" ∈ gl_T) (hp1 : S p1 = some (.inl (0, n1, .inl g))) (hb1 : 7 ≤ n1) (hdep : 1 ≤ M.2.2.2.2.2.1) (hcat : (st.map gl_w).sum ≤ 8)
    (K : GG M x Z (pc + 3) ls st (gl_pu S p1 (.inl (0, n1, .inl (va_cpy f g 0 0 7)))) k) : GG M x Z pc ls (.int 7 :: .int 0 :: .ref p1 :: .int 0 :: .ref t :: st) S k := by
  obtain ⟨p, l, e, R, s, m, args, below, meth, c, D, Kc, A, ad0, S0⟩ := x
  intro ok ad H locs LS hR hSS hAg hst hls hLS
  have hts := ok.2.2.2.2.2.1
  have hcat2 : ((st.map (gl_mv ad)).map fun v => v.category).sum ≤ 8 := by
    rw [List.map_map, show (fun v : Value => v.category) ∘ gl_mv ad = gl_w from funext (fun v => gl_mv_cat ad v)]
    exact hcat
  have hfr := ok.2.2.2.2.2.2.2.2.1
  have e9 : ad t = ad0 t := (hAg t).2 (Or.inr hx)
  obtain ⟨L, j, h1, h2, h3, h4, h5, h6, h7, h8⟩ := gl_at hR hp1
  obtain ⟨scr, z1, z2, z3, z4, z5, z6, z7⟩ := hz _ _ _ _ ok.2.2.2.2.2.2.2.2.2.2.2
  have hbl : ad0 t < s.heap.size := (Array.getElem?_eq_some_iff.mp z1).1
  have hc0 : H[ad t]? = some scr := by rw [e9, hSS.2.1 _ hbl z7]; exact z1
  have hc1 : H[ad p1]? = some (vp_cell (Kc 0) (n1, .inl g)) := h3 j _ h8
  obtain ⟨hs6, k0, hk0, cm0, hkk0⟩ := z2
  obtain ⟨-, k1, hk1, cm1, hkk1⟩ := (ok.2.2.2.2.2.2.2.2.2.1.2 0 (Kc 0, .int) rfl).1 n1 (fun j => .int (g j))
  have i0 : (0 : Int32).toInt = 0 := by decide
  have i7 : (7 : Int32).toInt = 7 := by decide
  have c0 : (0 : Int32).toNatClampNeg = 0 := by decide
  have c7 : (7 : Int32).toNatClampNeg = 7 := by decide
  show W p l e R s m args below meth c H locs k.1 k.2 Z (F0 m pc LS (.int 7 :: .int 0 :: .ref (ad p1) :: .int 0 :: .ref (ad t) :: st.map (gl_mv ad)))
  intro T hT X
  obtain ⟨vm', X', step⟩ := X.arraycopy ok.1 ok.2.2.2.2.1 (hts _ hw.1) (hts _ hw.2.1) (hts _ hw.2.2.1) (hts _ hw.2.2.2) (src := ad t) (dst := ad p1) (cs := scr) (cd := vp_cell (Kc 0) (n1, .inl g)) (srcPos := 0) (destPos := 0) (n := 7) (by rw [hT]; exact hc0) (by rw [hT]; exact hc1)
    hs6 (fun _ h => by cases h) z3 (fun h => by cases h) hk0 hk1 hkk0 hkk1 (by simp [refKind]) (by decide) (by decide) (by decide)
    (by rw [i0, i7]; omega)
    (by rw [i0, i7]; show ¬ _ > ((arrV (Kc 0) n1 (fun j => .int (g j))).slots.size : Int); rw [arrV_size]; omega)
    (fun vm₁ _ i hi => by
      rw [c7] at hi
      have e : scr.slots.getD ((0 : Int32).toNatClampNeg + i) .null = .int (f ((0 : Int32).toNatClampNeg + i)) := by
        rw [Array.getD_eq_getD_getElem?, z6 _ (by rw [c0]; omega)]
        rfl
      refine ⟨?_, ?_⟩
      · rw [e]
        rfl
      · rw [e]
        exact trivial)
    (g := F0 m pc LS (.int 7 :: .int 0 :: .ref (ad p1) :: .int 0 :: .ref (ad t) :: st.map (gl_mv ad))) rfl (by show LS.size = _; rw [hLS.1, ok.2.2.1]) (rest := st.map (gl_mv ad)) rfl (by rw [ok.2.1]; exact hd) (by omega) (by show 2 * 0 + _ + (7 + 11) ≤ _; omega)
  have e1 : copied scr (vp_cell (Kc 0) (n1, .inl g)) 0 0 7 = vp_cell (Kc 0) (n1, .inl (va_cpy f g (0 : Int32).toNatClampNeg (0 : Int32).toNatClampNeg (7 : Int32).toNatClampNeg)) := va_copiedX (n0 := 7) (fun z => .int z) scr (Kc 0) f g z6 (by rw [c0, c7]; omega)
  rw [e1, c0, c7] at X' step
  have hl : ad p1 < H.size := (Array.getElem?_eq_some_iff.mp hc1).1
  have hheap : ((T.setVm vm').setCell (ad p1) (vp_cell (Kc 0) (n1, .inl (va_cpy f g 0 0 7)))).heap = H.setIfInBounds (ad p1) (vp_cell (Kc 0) (n1, .inl (va_cpy f g 0 0 7))) := by rw [← hT]; rfl
  have oq : ∀ q : Nat, q ≠ ad p1 → (H.setIfInBounds (ad p1) (vp_cell (Kc 0) (n1, .inl (va_cpy f g 0 0 7))))[q]? = H[q]? := fun q hq => by simp [Array.getElem?_setIfInBounds, Ne.symm hq]
  have q1 := h3.set h4 h8 (e := .inl (Kc 0, n1, .inl (va_cpy f g 0 0 7))) (show (H.setIfInBounds (ad p1) _)[ad p1]? = some _ by simp [Array.getElem?_setIfInBounds, hl]) oq
  have q2 := h4.set (e := .inl (Kc 0, n1, .inl (va_cpy f g 0 0 7))) h8
  obtain ⟨t9, a1, b1⟩ := K ok ad _ _ LS (gl_R.pu (c' := .inl (0, n1, .inl (va_cpy f g 0 0 7))) h1 h2 h5 h6 h7 hp1 (fun r hr => hr.elim) q1 q2) ⟨by simp; exact hSS.1, fun q g1 g2 => by
      rw [oq q (fun e => g2 (by rw [e]; exact h4.2 j _ h8))]
      exact hSS.2.1 q g1 g2, fun q hq => by
      rcases List.mem_append.mp hq with h | h
      · exact hSS.2.2 q h
      · obtain ⟨z, -, hz⟩ := List.mem_map.mp h
        rw [← hz]
        exact h4.2 j _ h8⟩ hAg.pu (gl_bds.pu (gl_bd_t (gl_bd_t (gl_bd_t (gl_bd_t (gl_bd_t hst)))))) (gl_bdq.pu hls) hLS _ hheap X'
  exact ⟨t9, step t9 a1, b1⟩
/-- the script of the law -/
def gl_Scr (x : gl_X) (L : Nat) (xs : Nat → Int32) : Prop := match x with
  | (p, l, e, R, s, m, args, below, meth, c, D, K, A, ad0, S0) => va_X (ad0 1000010) L xs s s.heap ∧ ad0 1000010 < s.heap.size ∧ ¬ A (ad0 1000010)
theorem gg_sld {L : Nat} {xs : Nat → Int32} {i : Int32} (j : Nat) (hsc : gl_Scr x L xs) (hd : decode M.1 pc = .ok (.iaload, 1)) (hi : i = nI j) (hj : j < L) (hL : L < 2 ^ 31) (K : GG M x Z (pc + 1) ls (.int (xs j) :: st) S k) : GG M x Z pc ls (.int i :: .ref 1000010 :: st) S k := by
  obtain ⟨p, l, e, R, s, m, args, below, meth, c, D, Kc, A, ad0, S0⟩ := x
  intro ok ad H locs LS hR hSS hAg hst hls hLS
  subst hi
  have e9 : ad 1000010 = ad0 1000010 := (hAg 1000010).2 (Or.inr (by unfold gl_xt; omega))
  have hw := K ok ad H locs LS hR hSS hAg (gl_bd_c gl_bd_i (gl_bd_t (gl_bd_t hst))) hls hLS
  have hc : (nI j).toNatClampNeg = j := nI_clamp (by omega)
  show W p l e R s m args below meth c H locs k.1 k.2 Z (F0 m pc LS (.int (nI j) :: .ref (ad 1000010) :: st.map (gl_mv ad)))
  rw [e9]
  refine va_sld ok.1 ok.2.1 hsc.1 hsc.2.1 hsc.2.2 hSS (vp_in_nI hj hL) hd ?_
  rw [hc]
  exact hw
theorem gg_slen {L : Nat} {xs : Nat → Int32} (hsc : gl_Scr x L xs) (hd : decode M.1 pc = .ok (.arraylength, 1)) (K : GG M x Z (pc + 1) ls (.int (nI L) :: st) S k) : GG M x Z pc ls (.ref 1000010 :: st) S k := by
  obtain ⟨p, l, e, R, s, m, args, below, meth, c, D, Kc, A, ad0, S0⟩ := x
  intro ok ad H locs LS hR hSS hAg hst hls hLS
  have e9 : ad 1000010 = ad0 1000010 := (hAg 1000010).2 (Or.inr (by unfold gl_xt; omega))
  have hw := K ok ad H locs LS hR hSS hAg (gl_bd_c gl_bd_i (gl_bd_t hst)) hls hLS
  show W p l e R s m args below meth c H locs k.1 k.2 Z (F0 m pc LS (.ref (ad 1000010) :: st.map (gl_mv ad)))
  rw [e9]
  exact va_slen ok.1 ok.2.1 hsc.1 hsc.2.1 hsc.2.2 hSS hd hw
end GX
