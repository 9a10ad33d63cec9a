/-! contracts over the pure heap, ends, calls -/
def gl_rm (M : gl_M) : Room := { frames := M.2.2.2.2.2.1, cells := M.2.2.2.2.2.2.1, slots := M.2.2.2.2.2.2.2, locals := 40 * M.2.2.2.2.2.1 }
def gl_A (ad : Nat → Nat) (S : gl_H) (sz : Nat) : Nat → Prop := fun q => (∃ p, S p ≠ none ∧ q = ad p) ∨ sz ≤ q
def gl_Q (D : va_G) (K : Nat → ClassId) (A : Nat → Prop) (ad0 : Nat → Nat) (S0 : gl_H) (Q : Option Value → gl_H → Prop) : Array Value → State → Outcome → State → Prop := fun _ st o t => (∃ (r : Option Value) (S1 : gl_H) (ad1 : Nat → Nat), o = .returned (r.map (gl_mv ad1)) ∧ Q r S1 ∧ gl_R D K A ad1 S1 t.heap ∧ gl_Ag S0 ad0 S1 ad1 ∧ ∀ v, r = some v → gl_bd S1 v) ∧ va_F A st t
def gl_Z (M : gl_M) (x : gl_X) (Q : Option Value → gl_H → Prop) : State → Prop := match x with
  | (p, l, e, R, s, m, args, below, meth, c, D, K, A, ad0, S0) => MQ below (gl_Q D K A ad0 S0 Q) args s M.2.2.2.2.2.2.1 M.2.2.2.2.2.2.2 A
/-- THE CONTRACT of a method over the pure heap S with the arguments av: it returns, and Q of its answer and the heap behind it -/
def Sp (M : gl_M) (y : MethodName) (av : List Value) (S : gl_H) (Q : Option Value → gl_H → Prop) : Prop := ∀ (l : Launch) (D : va_G) (K : Nat → ClassId) (ad : Nat → Nat) (sz : Nat), (∀ v ∈ av, gl_bd S v) → Met l y (.code y M.1 M.2.2.1 M.2.2.2.1 :: gl_T) (gl_rm M) (va_Pc (av.map (gl_mv ad)) (fun U => U.heap.size = sz ∧ gl_R D K (gl_A ad S sz) ad S U.heap ∧ va_K D gl_cl (gl_ty K) U ∧ gl_Ext (gl_A ad S sz) ad U U.heap)) (gl_Q D K (gl_A ad S sz) ad S Q) M.2.2.2.2.2.2.1 M.2.2.2.2.2.2.2 (gl_A ad S sz)
def gl_en : List Value → List (Option Value)
  | [] => []
  | .long x :: t => some (.long x) :: none :: gl_en t
  | .double x :: t => some (.double x) :: none :: gl_en t
  | .int x :: t => some (.int x) :: gl_en t
  | .float x :: t => some (.float x) :: gl_en t
  | .ref x :: t => some (.ref x) :: gl_en t
  | .null :: t => some .null :: gl_en t
  | .retAddr x :: t => some (.retAddr x) :: gl_en t
theorem gl_as_rep : ∀ (n j : Nat), gl_as n (List.replicate j none) = []
  | _, 0 => rfl
  | n, j + 1 => gl_as_rep (n + 1) j
theorem gl_en_in {ad : Nat → Nat} {j : Nat} : ∀ (av : List Value) (n : Nat), gl_ma ad (gl_as n (gl_en av ++ List.replicate j none)) = lv_args n (av.map (gl_mv ad))
  | [], n => by
    show gl_ma ad (gl_as n (List.replicate j none)) = []
    rw [gl_as_rep]
    rfl
  | .long x :: t, n => congrArg ((n, Value.long x) :: ·) (gl_en_in t (n + 1 + 1))
  | .double x :: t, n => congrArg ((n, Value.double x) :: ·) (gl_en_in t (n + 1 + 1))
  | .int x :: t, n => congrArg ((n, Value.int x) :: ·) (gl_en_in t (n + 1))
  | .float x :: t, n => congrArg ((n, Value.float x) :: ·) (gl_en_in t (n + 1))
  | .ref x :: t, n => congrArg ((n, Value.ref (ad x)) :: ·) (gl_en_in t (n + 1))
  | .null :: t, n => congrArg ((n, Value.null) :: ·) (gl_en_in t (n + 1))
  | .retAddr x :: t, n => congrArg ((n, Value.retAddr x) :: ·) (gl_en_in t (n + 1))
theorem gl_en_v {j : Nat} : ∀ (av : List Value) (n : Nat) (q : Nat × Value), q ∈ gl_as n (gl_en av ++ List.replicate j none) → q.2 ∈ av
  | [], n, q, h => by
    have h' : q ∈ gl_as n (List.replicate j none) := h
    rw [gl_as_rep] at h'
    cases h'
  | .long x :: t, n, q, h => by
    rcases List.mem_cons.mp (show q ∈ (n, Value.long x) :: gl_as (n + 1 + 1) (gl_en t ++ List.replicate j none) from h) with e | e
    · rw [e]; exact List.mem_cons_self
    · exact List.mem_cons_of_mem _ (gl_en_v t _ q e)
  | .double x :: t, n, q, h => by
    rcases List.mem_cons.mp (show q ∈ (n, Value.double x) :: gl_as (n + 1 + 1) (gl_en t ++ List.replicate j none) from h) with e | e
    · rw [e]; exact List.mem_cons_self
    · exact List.mem_cons_of_mem _ (gl_en_v t _ q e)
  | .int x :: t, n, q, h => by
    rcases List.mem_cons.mp (show q ∈ (n, Value.int x) :: gl_as (n + 1) (gl_en t ++ List.replicate j none) from h) with e | e
    · rw [e]; exact List.mem_cons_self
    · exact List.mem_cons_of_mem _ (gl_en_v t _ q e)
  | .float x :: t, n, q, h => by
    rcases List.mem_cons.mp (show q ∈ (n, Value.float x) :: gl_as (n + 1) (gl_en t ++ List.replicate j none) from h) with e | e
    · rw [e]; exact List.mem_cons_self
    · exact List.mem_cons_of_mem _ (gl_en_v t _ q e)
  | .ref x :: t, n, q, h => by
    rcases List.mem_cons.mp (show q ∈ (n, Value.ref x) :: gl_as (n + 1) (gl_en t ++ List.replicate j none) from h) with e | e
    · rw [e]; exact List.mem_cons_self
    · exact List.mem_cons_of_mem _ (gl_en_v t _ q e)
  | .null :: t, n, q, h => by
    rcases List.mem_cons.mp (show q ∈ (n, Value.null) :: gl_as (n + 1) (gl_en t ++ List.replicate j none) from h) with e | e
    · rw [e]; exact List.mem_cons_self
    · exact List.mem_cons_of_mem _ (gl_en_v t _ q e)
  | .retAddr x :: t, n, q, h => by
    rcases List.mem_cons.mp (show q ∈ (n, Value.retAddr x) :: gl_as (n + 1) (gl_en t ++ List.replicate j none) from h) with e | e
    · rw [e]; exact List.mem_cons_self
    · exact List.mem_cons_of_mem _ (gl_en_v t _ q e)
def gl_w (v : Value) : Nat := v.category
theorem lg_sl_len (ad : Nat → Nat) : ∀ (av : List Value), (lg_sl (av.map (gl_mv ad))).length = (av.map gl_w).sum
  | [] => rfl
  | v :: t => by
    have ih := lg_sl_len ad t
    unfold lg_sl at ih ⊢
    rw [List.map_cons, List.flatMap_cons, List.length_append, ih, List.map_cons, List.sum_cons]
    rw [gl_mv_cat]
    show _ = gl_w v + _
    unfold gl_w
    rcases lv_cat v with h | h
    · rw [h, if_neg (by decide)]; rfl
    · rw [h, if_pos rfl]; rfl
theorem gl_Ag.rf {S : gl_H} {ad : Nat → Nat} : gl_Ag S ad S ad := fun _ => ⟨id, fun _ => rfl⟩
theorem gl_R.mono {D : va_G} {K : Nat → ClassId} {A B : Nat → Prop} {ad : Nat → Nat} {S : gl_H} {H : Heap} (h : gl_R D K A ad S H) (hB : ∀ q, A q → B q) : gl_R D K B ad S H := by
  obtain ⟨L, h1, h2, h3, h4, h5, h6⟩ := h
  exact ⟨L, h1, h2, h3, h4.weaken (fun k q _ z => hB _ z), h5, h6⟩
theorem gl_R.self {D : va_G} {K : Nat → ClassId} {A : Nat → Prop} {ad : Nat → Nat} {S : gl_H} {H : Heap} (h : gl_R D K A ad S H) (sz : Nat) : gl_R D K (gl_A ad S sz) ad S H := by
  obtain ⟨L, h1, h2, h3, h4, h5, h6⟩ := h
  refine ⟨L, h1, h2, h3, ⟨h4.1, fun k q hq => ?_⟩, h5, h6⟩
  obtain ⟨p, hp, rfl⟩ := List.mem_map.mp (List.mem_of_getElem? hq)
  exact Or.inl ⟨p, (h1 p).mpr hp, rfl⟩
theorem gl_R.inA {D : va_G} {K : Nat → ClassId} {A : Nat → Prop} {ad : Nat → Nat} {S : gl_H} {H : Heap} (h : gl_R D K A ad S H) {p : Nat} (hp : S p ≠ none) : A (ad p) := by
  obtain ⟨L, h1, h2, h3, h4, h5, h6⟩ := h
  obtain ⟨j, hj⟩ := List.getElem?_of_mem ((h1 p).mp hp)
  cases hc : S p with
  | none => exact absurd hc hp
  | some c => exact h4.2 j _ (gl_wl_at hj hc)
/-- a method's entry -/
theorem gl_enter {M : gl_M} {y : MethodName} {av : List Value} {S : gl_H} {Q : Option Value → gl_H → Prop} {j : Nat} {ls : List (Option Value)} (hy : plainName y.cls = true) (ho : y.cls = M.2.1) (hi : M.2.2.2.2.1 = true → y.name = "<init>") (hw : (av.map gl_w).sum ≤ M.2.2.1) (hls : gl_en av ++ List.replicate j none = ls) (h : ∀ x, GG M x (gl_Z M x Q) 0 ls [] S (0, 0)) : Sp M y av S Q := by
  intro l D K ad sz hbd
  refine Met.ofW (cc := M.1) (maxL := M.2.2.1) (ret := M.2.2.2.1) hy rfl ?_
  intro p e s m args below meth c s₁ B hml hv
  obtain ⟨rfl, hsz, hR, hK, hE⟩ := hv
  subst hsz
  have hts := atoms_spec (ws := .code y M.1 M.2.2.1 M.2.2.2.1 :: gl_T) B.pre
  have hown : s.vm.findClass y.cls = some m.cls := findClass_of_methodNamed B.named
  have ok : gl_Ok M (p, l, e, gl_rm M, s, m, (av.map (gl_mv ad)).toArray, below, meth, c, D, K, gl_A ad S s.heap.size, ad, S) := ⟨B.exec, B.bytes, hml, B.returns, by rw [← ho]; exact hown, fun w hw => hts w (List.mem_cons_of_mem _ hw), B.notSynchronized, fun z => (name_of_methodNamed B.named B.method).1.trans (hi z), ⟨Nat.le_refl _, Nat.le_refl _, rfl, rfl⟩, hK, fun q hq => Or.inr hq, hE⟩
  have hl := lv_entry (av.map (gl_mv ad)) (n := M.2.2.1) (by rw [lg_sl_len]; exact hw)
  rw [lg_entry_eq]
  generalize (lg_sl (av.map (gl_mv ad)) ++ List.replicate (M.2.2.1 - (lg_sl (av.map (gl_mv ad))).length) Slot.unset).toArray = LS at hl ⊢
  subst hls
  rw [← gl_en_in (j := j) av 0] at hl
  exact h _ ok ad s.heap [] LS hR va_S.rf gl_Ag.rf (fun v hv => by cases hv) (fun q hq => hbd _ (gl_en_v av 0 q hq)) hl
section GE
variable {M : gl_M} {x : gl_X} {Q : Option Value → gl_H → Prop} {pc : Nat} {ls : List (Option Value)} {S : gl_H} {k : Nat × Nat}
theorem gg_ireturn {a : Int32} (hd : decode M.1 pc = .ok (.ireturn, 1)) {ty : FieldType} (hr : M.2.2.2.1 = some ty) (hn : narrow ty (.int a) = .int a) (hk : k.1 ≤ M.2.2.2.2.2.2.1 ∧ k.2 ≤ M.2.2.2.2.2.2.2) (h : Q (some (.int a)) S) : GG M x (gl_Z M x Q) pc ls [.int a] S k := by
  obtain ⟨p, l, e, R, s, m, args, below, meth, c, D, Kc, A, ad0, S0⟩ := x
  intro ok ad H locs LS hR hSS hAg hst hls hLS
  refine W.widen hk.1 hk.2 ?_
  exact W.zret ok.1 ok.2.1 (ok.2.2.2.1.trans hr) hn (fun t ht hW => ⟨⟨some (.int a), S, ad, rfl, h, by rw [ht]; exact hR, hAg, fun v e => by cases e; exact gl_bd_i⟩, hSS.F ht⟩) hSS.2.2 hd ok.2.2.2.2.2.2.1
theorem gg_lreturn {a : Int64} (hd : decode M.1 pc = .ok (.lreturn, 1)) (hr : M.2.2.2.1 = some .long) (hk : k.1 ≤ M.2.2.2.2.2.2.1 ∧ k.2 ≤ M.2.2.2.2.2.2.2) (h : Q (some (.long a)) S) : GG M x (gl_Z M x Q) pc ls [.long a] S k := by
  obtain ⟨p, l, e, R, s, m, args, below, meth, c, D, Kc, A, ad0, S0⟩ := x
  intro ok ad H locs LS hR hSS hAg hst hls hLS
  refine W.widen hk.1 hk.2 ?_
  exact W.lret ok.1 ok.2.1 (ok.2.2.2.1.trans hr) (fun t ht hW => ⟨⟨some (.long a), S, ad, rfl, h, by rw [ht]; exact hR, hAg, fun v e => by cases e; exact gl_bd_l⟩, hSS.F ht⟩) hSS.2.2 hd ok.2.2.2.2.2.2.1
theorem gg_return (hd : decode M.1 pc = .ok (.return_, 1)) (hr : M.2.2.2.1 = none) (hk : k.1 ≤ M.2.2.2.2.2.2.1 ∧ k.2 ≤ M.2.2.2.2.2.2.2) (h : Q none S) : GG M x (gl_Z M x Q) pc ls [] S k := by
  obtain ⟨p, l, e, R, s, m, args, below, meth, c, D, Kc, A, ad0, S0⟩ := x
  intro ok ad H locs LS hR hSS hAg hst hls hLS
  refine W.widen hk.1 hk.2 ?_
  exact W.vret ok.1 ok.2.1 (ok.2.2.2.1.trans hr) (fun t ht hW => ⟨⟨none, S, ad, rfl, h, by rw [ht]; exact hR, hAg, fun v e => by cases e⟩, hSS.F ht⟩) hSS.2.2 hd ok.2.2.2.2.2.2.1
theorem gg_areturn {v : Value} {C : String} (hd : decode M.1 pc = .ok (.areturn, 1)) (hr : M.2.2.2.1 = some (.object C)) (hv : v = .null ∨ ∃ a, v = .ref a) (hk : k.1 ≤ M.2.2.2.2.2.2.1 ∧ k.2 ≤ M.2.2.2.2.2.2.2) (h : Q (some v) S) : GG M x (gl_Z M x Q) pc ls [v] S k := by
  obtain ⟨p, l, e, R, s, m, args, below, meth, c, D, Kc, A, ad0, S0⟩ := x
  intro ok ad H locs LS hR hSS hAg hst hls hLS
  refine W.widen hk.1 hk.2 ?_
  exact W.aret (v := gl_mv ad v) ok.1 ok.2.1 (ok.2.2.2.1.trans hr) (Or.inl ⟨C, rfl⟩) (by rcases hv with rfl | ⟨a, rfl⟩; exact Or.inl rfl; exact Or.inr ⟨ad a, rfl⟩) (fun t ht hW => ⟨⟨some v, S, ad, rfl, h, by rw [ht]; exact hR, hAg, fun w e => by cases e; exact gl_bd_h hst⟩, hSS.F ht⟩) hSS.2.2 hd ok.2.2.2.2.2.2.1
end GE
section GL
variable {M N : gl_M} {x : gl_X} {Z : State → Prop} {Q : Option Value → gl_H → Prop} {pc idx : Nat} {ls : List (Option Value)} {S : gl_H} {k : Nat × Nat} {y : MethodName} {As rest : List Value}
theorem gl_good (hc : Cond.code y N.1 N.2.2.1 N.2.2.2.1 ∈ gl_T) : GoodIn gl_T (.code y N.1 N.2.2.1 N.2.2.2.1 :: gl_T) := fun w hw => by
  have h : w ∈ gl_T := by
    rcases List.mem_cons.mp hw with e | e
    · rw [e]; exact hc
    · exact e
  exact ⟨h, good_of_word (gl_T_good w h)⟩
theorem gl_fits {R : Room} (hR : M.2.2.2.2.2.1 ≤ R.frames ∧ 40 * M.2.2.2.2.2.1 ≤ R.locals) (hd : N.2.2.2.2.2.1 + 1 ≤ M.2.2.2.2.2.1) (hl : N.2.2.1 ≤ 21) : (gl_rm N).frames + 1 ≤ R.frames ∧ 8 + (N.2.2.1 + 11) + (gl_rm N).locals ≤ R.locals := by
  refine ⟨Nat.le_trans hd hR.1, ?_⟩
  show 8 + (N.2.2.1 + 11) + 40 * N.2.2.2.2.2.1 ≤ R.locals
  have := hR.2
  omega
/-- what a call's link says -/
def gl_Lk (y : MethodName) (n : Nat) : Prop := y.cls ≠ "java/lang/invoke/MethodHandle" ∧ y.cls ≠ "java/lang/invoke/VarHandle" ∧ (parseMethodDescriptor y.desc).map (fun d => d.parameters.length) = some n
theorem gl_blind {D : va_G} {K : Nat → ClassId} {A : Nat → Prop} {ad : Nat → Nat} {sz : Nat} {av : List Value} : FrameBlind (va_Pc av (fun U => U.heap.size = sz ∧ gl_R D K A ad S U.heap ∧ va_K D gl_cl (gl_ty K) U ∧ gl_Ext A ad U U.heap)) := fun a U g mk q => by
  obtain ⟨q0, q1, q2, q3, q4⟩ := q
  exact ⟨q0, q1, q2, va_K.moved (u := U) (U := U.calling g mk a) (Vm.Alike.refl U.vm) q3, q4.same rfl⟩
theorem gl_mv_ag {S1 : gl_H} {ad ad1 : Nat → Nat} (h : gl_Ag S ad S1 ad1) {v : Value} (hv : gl_bd S v) : gl_mv ad1 v = gl_mv ad v := by
  cases v with
  | ref r => exact congrArg Value.ref ((h r).2 (hv r rfl))
  | _ => rfl
theorem gl_bd_ag {S1 : gl_H} {ad ad1 : Nat → Nat} (h : gl_Ag S ad S1 ad1) {v : Value} (hv : gl_bd S v) : gl_bd S1 v := fun r e => (hv r e).elim (fun q => Or.inl ((h r).1 q)) Or.inr
/-- what stands behind a call -/
theorem gl_behind {p : Program} {l : Launch} {e : Env} {R : Room} {s : State} {m : MethodId} {args : Array Value} {below : List Frame} {meth : Method} {c : Code} {D : va_G} {Kc : Nat → ClassId} {A : Nat → Prop} {ad0 : Nat → Nat} {S0 : gl_H} {H : Heap} {locs : List Loc} {LS : Array Slot} {ad : Nat → Nat} {av : List Value} {st0 : List Value} {mc ms : Nat}
    (ok : gl_Ok M (p, l, e, R, s, m, args, below, meth, c, D, Kc, A, ad0, S0)) (hR : gl_R D Kc A ad S H) (hSS : va_S A s.heap H locs) (hAg : gl_Ag S0 ad0 S ad) (hrest : ∀ v ∈ rest, gl_bd S v) (hls : ∀ q ∈ gl_as 0 ls, gl_bd S q.2) (hLS : lv_has LS M.2.2.1 (gl_ma ad (gl_as 0 ls)))
    (hr : va_Run p l e R s m args below meth c H locs k.1 k.2 mc ms (F0 m pc LS st0) (rest.map (gl_mv ad)) (gl_Q D Kc (gl_A ad S H.size) ad S Q av.toArray) (gl_A ad S H.size))
    (K : ∀ r S1, Q r S1 → GG M (p, l, e, R, s, m, args, below, meth, c, D, Kc, A, ad0, S0) Z (pc + 3) ls (r.toList ++ rest) S1 (k.1 + mc, k.2 + ms)) : W p l e R s m args below meth c H locs k.1 k.2 Z (F0 m pc LS st0) := by
  have hsub : ∀ q, gl_A ad S H.size q → A q := fun q h => by
    rcases h with ⟨p1, h1, h2⟩ | h
    · rw [h2]; exact hR.inA h1
    · exact ok.2.2.2.2.2.2.2.2.2.2.1 q (Nat.le_trans hSS.1 h)
  intro T hT X
  obtain ⟨v, st₀, t, T', L, h0, X', hL, e1, e2, ⟨⟨r, S1, ad1, hv, hq, hR1, hAg1, hbr⟩, hz, hk⟩, st⟩ := hr T hT X
  cases hv
  rw [h0] at hz hk
  have hS1 : va_S A s.heap T'.heap (locs ++ L) := ⟨Nat.le_trans hSS.1 (by rw [e1]; exact hz), fun q h1 h2 => by rw [e1, hk q (Nat.lt_of_lt_of_le h1 hSS.1) (fun z => h2 (hsub q z))]; exact hSS.2.1 q h1 h2, fun q hq => by
    rcases List.mem_append.mp hq with h | h
    · exact hSS.2.2 q h
    · exact hsub _ (hL q h)⟩
  have hR2 : gl_R D Kc A ad1 S1 T'.heap := by rw [e1]; exact hR1.mono hsub
  have hAg2 : gl_Ag S0 ad0 S1 ad1 := fun p1 => ⟨fun h => (hAg1 p1).1 ((hAg p1).1 h), fun h => by
    rw [(hAg1 p1).2 (h.elim (fun z => Or.inl ((hAg p1).1 z)) Or.inr)]
    exact (hAg p1).2 h⟩
  have hm : gl_ma ad1 (gl_as 0 ls) = gl_ma ad (gl_as 0 ls) := List.map_congr_left (fun q hq => by rw [gl_mv_ag hAg1 (hls q hq)])
  have hmr : rest.map (gl_mv ad1) = rest.map (gl_mv ad) := List.map_congr_left (fun v hv => gl_mv_ag hAg1 (hrest v hv))
  have hb2 : ∀ v ∈ r.toList ++ rest, gl_bd S1 v := fun v hv => by
    rcases List.mem_append.mp hv with h | h
    · cases hr9 : r with
      | none => rw [hr9] at h; cases h
      | some w =>
        rw [hr9] at h
        rcases List.mem_cons.mp (show v ∈ w :: [] from h) with e9 | e9
        · rw [e9]; exact hbr w hr9
        · cases e9
    · exact gl_bd_ag hAg1 (hrest v h)
  obtain ⟨t2, a1, b1⟩ := K r S1 hq ok ad1 T'.heap (locs ++ L) LS hR2 hS1 hAg2 hb2 (fun q hq => gl_bd_ag hAg1 (hls q hq)) (by rw [hm]; exact hLS) T' rfl X'
  refine ⟨t2, st t2 ?_, b1⟩
  have ee : (r.toList ++ rest).map (gl_mv ad1) = (r.map (gl_mv ad1)).toList ++ rest.map (gl_mv ad) := by
    rw [List.map_append, hmr]
    cases r <;> rfl
  rw [ee] at a1
  exact a1
theorem gg_callV {C : String} {T : u_T} {n nn ci b : Nat} {fs : List Value} {st : List Value} (hsp : Sp N y (.ref b :: As) S Q) (hd : decode M.1 pc = .ok (.invokevirtual idx, 3)) (hw : Cond.methodLink M.2.1 idx y ∈ gl_T ∧ Cond.instanceMethod y ∈ gl_T ∧ Cond.selects C y y ∈ gl_T ∧ Cond.initialized y.cls ∈ gl_T ∧ Cond.code y N.1 N.2.2.1 N.2.2.2.1 ∈ gl_T ∧ gl_Lk y n) (hc : gl_cl[ci]? = some (C, T, nn)) (hS : S b = some (.inr (ci, fs)))
    (hst : As.reverse ++ .ref b :: rest = st) (hn : As.length = n) (hdep : N.2.2.2.2.2.1 + 1 ≤ M.2.2.2.2.2.1) (hl : N.2.2.1 ≤ 21) (hcat : (rest.map gl_w).sum ≤ 8) (hk : k.1 + N.2.2.2.2.2.2.1 ≤ M.2.2.2.2.2.2.1 ∧ k.2 + N.2.2.2.2.2.2.2 ≤ M.2.2.2.2.2.2.2)
    (K : ∀ r S1, Q r S1 → GG M x Z (pc + 3) ls (r.toList ++ rest) S1 (k.1 + N.2.2.2.2.2.2.1, k.2 + N.2.2.2.2.2.2.2)) : GG M x Z pc ls st S k := by
  obtain ⟨p, l, e, R, s, m, args, below, meth, c, D, Kc, A, ad0, S0⟩ := x
  intro ok ad H locs LS hR hSS hAg hbs hls hLS
  subst hst
  have hb2 : ∀ v ∈ Value.ref b :: As, gl_bd S v := fun v hv => by
    rcases List.mem_cons.mp hv with h | h
    · exact hbs v (List.mem_append_right _ (by rw [h]; exact List.mem_cons_self))
    · exact hbs v (List.mem_append_left _ (List.mem_reverse.mpr h))
  have hts := ok.2.2.2.2.2.1
  have hrest : ∀ v ∈ rest, gl_bd S v := fun v hv => hbs v (List.mem_append_right _ (List.mem_cons_of_mem _ hv))
  have hcat2 : ((rest.map (gl_mv ad)).map fun v => v.category).sum ≤ 8 := by
    rw [List.map_map, show (fun v : Value => v.category) ∘ gl_mv ad = gl_w from funext (fun v => gl_mv_cat ad v)]
    exact hcat
  obtain ⟨L, j, h1, h2, h3, h4, h5, h6, h7, h8⟩ := gl_at hR hS
  have hbi : ∀ q, gl_A ad S H.size q → A q := fun q h => by
    rcases h with ⟨p1, g1, g2⟩ | h
    · rw [g2]; exact hR.inA g1
    · exact ok.2.2.2.2.2.2.2.2.2.2.1 q (Nat.le_trans hSS.1 h)
  refine gl_behind (av := (.ref (ad b)) :: As.map (gl_mv ad)) ok hR hSS hAg hrest hls hLS (va_runV (As := As.map (gl_mv ad)) ⟨ok.1, ok.2.1, ok.2.2.1, ok.2.2.2.2.1, hts⟩ (hsp l D Kc ad H.size hb2) ⟨callB_of n hts (gl_good hw.2.2.2.2.1) rfl rfl rfl (hts _ hw.2.2.2.1) (hts _ hw.1) hw.2.2.2.2.2 (gl_fits ⟨ok.2.2.2.2.2.2.2.2.1.1, ok.2.2.2.2.2.2.2.2.1.2.1⟩ hdep hl), hts _ hw.2.1, hts _ hw.2.2.1⟩ ⟨gl_blind, va_recv ok.2.2.2.2.2.2.2.2.2.1 h3 hc h8, fun U hU hW => ⟨rfl, by rw [hU], by rw [hU]; exact hR.self _, va_K.moved hW.alike ok.2.2.2.2.2.2.2.2.2.1, by rw [hU]; exact ok.2.2.2.2.2.2.2.2.2.2.2.warm hW (fun a h9 h10 => hSS.2.1 a h9 h10) hbi (fun p9 h9 => (hAg p9).2 (Or.inr h9))⟩⟩ rfl (by rw [List.length_map]; exact hn) hLS.1 (by show List.map _ _ = _; rw [List.map_append, List.map_reverse]; rfl) (lv_room hcat2) hd (by rw [ok.2.2.2.2.2.2.2.2.1.2.2.1, ok.2.2.2.2.2.2.2.2.1.2.2.2]; exact hk)) K
theorem gg_callS {n : Nat} {st : List Value} (hsp : Sp N y As S Q) (hd : decode M.1 pc = .ok (.invokestatic idx, 3)) (hw : Cond.methodLink M.2.1 idx y ∈ gl_T ∧ Cond.static y ∈ gl_T ∧ Cond.initialized y.cls ∈ gl_T ∧ Cond.code y N.1 N.2.2.1 N.2.2.2.1 ∈ gl_T ∧ gl_Lk y n)
    (hst : As.reverse ++ rest = st) (hn : As.length = n) (hdep : N.2.2.2.2.2.1 + 1 ≤ M.2.2.2.2.2.1) (hl : N.2.2.1 ≤ 21) (hcat : (rest.map gl_w).sum ≤ 8) (hk : k.1 + N.2.2.2.2.2.2.1 ≤ M.2.2.2.2.2.2.1 ∧ k.2 + N.2.2.2.2.2.2.2 ≤ M.2.2.2.2.2.2.2)
    (K : ∀ r S1, Q r S1 → GG M x Z (pc + 3) ls (r.toList ++ rest) S1 (k.1 + N.2.2.2.2.2.2.1, k.2 + N.2.2.2.2.2.2.2)) : GG M x Z pc ls st S k := by
  obtain ⟨p, l, e, R, s, m, args, below, meth, c, D, Kc, A, ad0, S0⟩ := x
  intro ok ad H locs LS hR hSS hAg hbs hls hLS
  subst hst
  have hb2 : ∀ v ∈ As, gl_bd S v := fun v h => hbs v (List.mem_append_left _ (List.mem_reverse.mpr h))
  have hts := ok.2.2.2.2.2.1
  have hrest : ∀ v ∈ rest, gl_bd S v := fun v hv => hbs v (List.mem_append_right _ hv)
  have hcat2 : ((rest.map (gl_mv ad)).map fun v => v.category).sum ≤ 8 := by
    rw [List.map_map, show (fun v : Value => v.category) ∘ gl_mv ad = gl_w from funext (fun v => gl_mv_cat ad v)]
    exact hcat
  have hbi : ∀ q, gl_A ad S H.size q → A q := fun q h => by
    rcases h with ⟨p1, g1, g2⟩ | h
    · rw [g2]; exact hR.inA g1
    · exact ok.2.2.2.2.2.2.2.2.2.2.1 q (Nat.le_trans hSS.1 h)
  refine gl_behind (av := As.map (gl_mv ad)) ok hR hSS hAg hrest hls hLS (va_runS (As := As.map (gl_mv ad)) ⟨ok.1, ok.2.1, ok.2.2.1, ok.2.2.2.2.1, hts⟩ (hsp l D Kc ad H.size hb2) ⟨callB_of n hts (gl_good hw.2.2.2.1) rfl rfl rfl (hts _ hw.2.2.1) (hts _ hw.1) hw.2.2.2.2 (gl_fits ⟨ok.2.2.2.2.2.2.2.2.1.1, ok.2.2.2.2.2.2.2.2.1.2.1⟩ hdep hl), hts _ hw.2.1⟩ ⟨gl_blind, fun U hU hW => ⟨rfl, by rw [hU], by rw [hU]; exact hR.self _, va_K.moved hW.alike ok.2.2.2.2.2.2.2.2.2.1, by rw [hU]; exact ok.2.2.2.2.2.2.2.2.2.2.2.warm hW (fun a h9 h10 => hSS.2.1 a h9 h10) hbi (fun p9 h9 => (hAg p9).2 (Or.inr h9))⟩⟩ rfl (by rw [List.length_map]; exact hn) hLS.1 (by show List.map _ _ = _; rw [List.map_append, List.map_reverse]) (lv_room hcat2) hd (by rw [ok.2.2.2.2.2.2.2.2.1.2.2.1, ok.2.2.2.2.2.2.2.2.1.2.2.2]; exact hk)) K
theorem gg_callI {n b : Nat} {st : List Value} (hsp : Sp N y (.ref b :: As) S Q) (hd : decode M.1 pc = .ok (.invokespecial idx, 3)) (hw : Cond.methodLink M.2.1 idx y ∈ gl_T ∧ Cond.instanceMethod y ∈ gl_T ∧ Cond.initialized y.cls ∈ gl_T ∧ Cond.code y N.1 N.2.2.1 N.2.2.2.1 ∈ gl_T ∧ gl_Lk y n) (hi : y.name = "<init>") (hrt : N.2.2.2.1 = none)
    (hst : As.reverse ++ .ref b :: rest = st) (hn : As.length = n) (hdep : N.2.2.2.2.2.1 + 1 ≤ M.2.2.2.2.2.1) (hl : N.2.2.1 ≤ 21) (hcat : (rest.map gl_w).sum ≤ 8) (hk : k.1 + N.2.2.2.2.2.2.1 ≤ M.2.2.2.2.2.2.1 ∧ k.2 + N.2.2.2.2.2.2.2 ≤ M.2.2.2.2.2.2.2)
    (K : ∀ r S1, Q r S1 → GG M x Z (pc + 3) ls (r.toList ++ rest) S1 (k.1 + N.2.2.2.2.2.2.1, k.2 + N.2.2.2.2.2.2.2)) : GG M x Z pc ls st S k := by
  obtain ⟨p, l, e, R, s, m, args, below, meth, c, D, Kc, A, ad0, S0⟩ := x
  obtain ⟨nb, no, nl, nr, ni⟩ := N
  intro ok ad H locs LS hR hSS hAg hbs hls hLS
  have hrt' : nr = none := hrt
  subst hrt'
  subst hst
  have hb2 : ∀ v ∈ Value.ref b :: As, gl_bd S v := fun v hv => by
    rcases List.mem_cons.mp hv with h | h
    · exact hbs v (List.mem_append_right _ (by rw [h]; exact List.mem_cons_self))
    · exact hbs v (List.mem_append_left _ (List.mem_reverse.mpr h))
  have hts := ok.2.2.2.2.2.1
  have hrest : ∀ v ∈ rest, gl_bd S v := fun v hv => hbs v (List.mem_append_right _ (List.mem_cons_of_mem _ hv))
  have hcat2 : ((rest.map (gl_mv ad)).map fun v => v.category).sum ≤ 8 := by
    rw [List.map_map, show (fun v : Value => v.category) ∘ gl_mv ad = gl_w from funext (fun v => gl_mv_cat ad v)]
    exact hcat
  have hbi : ∀ q, gl_A ad S H.size q → A q := fun q h => by
    rcases h with ⟨p1, g1, g2⟩ | h
    · rw [g2]; exact hR.inA g1
    · exact ok.2.2.2.2.2.2.2.2.2.2.1 q (Nat.le_trans hSS.1 h)
  refine gl_behind (av := (.ref (ad b)) :: As.map (gl_mv ad)) ok hR hSS hAg hrest hls hLS (va_runI (As := As.map (gl_mv ad)) ⟨ok.1, ok.2.1, ok.2.2.1, ok.2.2.2.2.1, hts⟩ (hsp l D Kc ad H.size hb2) ⟨callB_of n hts (gl_good (N := (nb, no, nl, none, ni)) hw.2.2.2.1) rfl rfl rfl (hts _ hw.2.2.1) (hts _ hw.1) hw.2.2.2.2 (gl_fits ⟨ok.2.2.2.2.2.2.2.2.1.1, ok.2.2.2.2.2.2.2.2.1.2.1⟩ hdep hl), hi, hts _ hw.2.1⟩ ⟨gl_blind, fun U hU hW => ⟨rfl, by rw [hU], by rw [hU]; exact hR.self _, va_K.moved hW.alike ok.2.2.2.2.2.2.2.2.2.1, by rw [hU]; exact ok.2.2.2.2.2.2.2.2.2.2.2.warm hW (fun a h9 h10 => hSS.2.1 a h9 h10) hbi (fun p9 h9 => (hAg p9).2 (Or.inr h9))⟩⟩ rfl (by rw [List.length_map]; exact hn) hLS.1 (by show List.map _ _ = _; rw [List.map_append, List.map_reverse]; rfl) (lv_room hcat2) hd (by rw [ok.2.2.2.2.2.2.2.2.1.2.2.1, ok.2.2.2.2.2.2.2.2.1.2.2.2]; exact hk)) K
end GL
