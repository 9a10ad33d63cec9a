/-! THE LAW: its record, its end, its start's facts -/
def R_law : String := "MorningDeskLaw"
def lw_P (b : Addr) (xs : List Int32) (args : Array Value) (s : State) : Prop := args = #[.ref b] ∧ s.IntsAt b xs ∧ xs.length ≤ 3072 ∧ (Jvm.Cond.and given_1 narrow_1).before args s = true
def lw_Q (_ : Array Value) (s : State) (o : Outcome) (t : State) : Prop := o = .returned (some (.int 1)) ∧ Framed s o t [] 600000 7302250
def lw_Z (below : List Frame) (a : Array Value) (s : State) : State → Prop := fun t => ∃ o, t.status = .running ∧ Ended t below o ∧ lw_Q a s o t
/-- the law's own end, with 1 on the stack, nothing written that was there before, its room as the claim has it -/
theorem lw_ret {p : Program} {l : Launch} {e : Env} {s : State} {m : MethodId} {below : List Frame} {meth : Method} {c : Code} {b : Nat} (hx : p.tables.exec = Jvm.exec) (hb : c.code = code) (hr : meth.sig.returnType = ret) (hlocks : meth.locks = false) {pc : Nat} {H : Heap} {ls : Array Slot} (hdg : decode code pc = .ok (.ireturn, 1)) : W p l e room_1 s m #[Value.ref b] below meth c H [] 600000 7302250 (lw_Z below #[Value.ref b] s) (F0 m pc ls [.int 1]) := by
  intro T hT X
  obtain ⟨fs, hret, hrun, hended, hW, hframe⟩ := X.leave (v := some (.int 1)) (hlocks := hlocks) (fun h => by rw [hr] at h; cases h)
  have hmeth' : T.vm.method? m = some meth := X.method'
  refine ⟨T.setFrames fs, ?_, .returned (some (.int 1)), hrun, hended, rfl, ⟨_, rfl⟩, hW, hframe⟩
  jvm_step X.here [X.here.top, hx, hb, hdg, hmeth', hr, ret, narrow_b1]
  (try refine ⟨rfl, ?_⟩); (try refine ⟨rfl, ?_⟩)
  first | (intro acts; rw [hret _ acts rfl rfl rfl]) | rw [hret _ _ rfl rfl rfl]
  exact Steps.refl _
/-- what holds at the law's entry: the machine, the code, the tables' words (any of lw_tbl by 'hts w (by decide +kernel)'), the script of L ints xs at the cell b, what the Statement gives of the start (any of its parts by flat_of_before) -/
def lw_At (p : Program) (s : State) (m : MethodId) (meth : Method) (c : Code) (b L : Nat) (xs : Nat → Int32) : Prop :=
  p.tables.exec = Jvm.exec ∧ c.code = code ∧ meth.sig.returnType = ret ∧ c.maxLocals = 4 ∧ s.vm.findClass R_law = some m.cls ∧ (∀ w ∈ lw_tbl, w.before #[Value.ref b] s = true) ∧ va_X b L xs s s.heap ∧ b < s.heap.size ∧ meth.locks = false ∧ (Jvm.Cond.and given_1 narrow_1).before #[Value.ref b] s = true
def mL_law : gl_M := (cL_law, RL, 4, ret, false, 8, 600000, 7302250)
def gl_LZ (x : gl_X) : State → Prop := match x with
  | (p, l, e, R, s, m, args, below, meth, c, D, K, A, ad0, S0) => lw_Z below args s
/-- the law's activation -/
def gl_Lw (x : gl_X) : Prop := match x with
  | (p, l, e, R, s, m, args, below, meth, c, D, K, A, ad0, S0) => R = room_1 ∧ (∃ b : Nat, args = #[Value.ref b]) ∧ ∀ q, A q → s.heap.size ≤ q
theorem gg_lend {x : gl_X} {pc : Nat} {ls : List (Option Value)} {S : gl_H} {k : Nat × Nat} (hx : gl_Lw x) (hd : decode cL_law pc = .ok (.ireturn, 1)) (hk : k.1 ≤ 600000 ∧ k.2 ≤ 7302250) : GG mL_law x (gl_LZ x) pc ls [.int 1] S k := by
  obtain ⟨p, l, e, R, s, m, args, below, meth, c, D, Kc, A, ad0, S0⟩ := x
  intro ok ad H locs LS hR hSS hAg hst hls hLS
  obtain ⟨hR1, ⟨b, hb⟩, hA⟩ := hx
  subst hR1
  subst hb
  refine va_forget (fun q hq => hA _ (hSS.2.2 q hq)) ?_
  refine W.widen hk.1 hk.2 ?_
  exact lw_ret ok.1 ok.2.1 ok.2.2.2.1 ok.2.2.2.2.2.2.1 hd
theorem gg_wide {M : gl_M} {x : gl_X} {Z : State → Prop} {pc : Nat} {ls : List (Option Value)} {st : List Value} {S : gl_H} {k k2 : Nat × Nat} (h : k.1 ≤ k2.1 ∧ k.2 ≤ k2.2) (K : GG M x Z pc ls st S k2) : GG M x Z pc ls st S k := by
  obtain ⟨p, l, e, R, s, m, args, below, meth, c, D, Kc, A, ad0, S0⟩ := x
  intro ok ad H locs LS hR hSS hAg hst hls hLS
  exact W.widen h.1 h.2 (K ok ad H locs LS hR hSS hAg hst hls hLS)
theorem DP.d0 {S : gl_H} {s : DS} (h : DP S s) : ∃ fs, S 0 = some (.inr (6, fs)) := by
  obtain ⟨⟨gp, hD⟩, _⟩ := h
  exact ⟨_, hD.1⟩
theorem MP.d0 {S : gl_H} {s : DS} (h : MP S s) : ∃ fs, S 70 = some (.inr (7, fs)) := by
  obtain ⟨A, py, fr, mt, mc, hM, _⟩ := h
  exact ⟨_, hM.1⟩
theorem w31 (x : Int32) : ∃ j, j < 32 ∧ x &&& 31 = nI j := by
  refine ⟨x.toBitVec.toNat % 32, Nat.mod_lt _ (by decide), ?_⟩
  apply b_ext
  intro i hi
  rw [b_and, bt_n hi, show (31 : Int32) = nI 31 from rfl, bt_n hi]
  have e : (x.toBitVec.toNat % 2 ^ 5).testBit i = (decide (i < 5) && x.toBitVec.toNat.testBit i) := Nat.testBit_mod_two_pow _ _ _
  have e : (x.toBitVec.toNat % 32).testBit i = (decide (i < 5) && x.toBitVec.toNat.testBit i) := e
  rw [e]
  have e2 : (31 : Nat).testBit i = decide (i < 5) := by
    have : (2 ^ 5 - 1 : Nat).testBit i = decide (i < 5) := Nat.testBit_two_pow_sub_one _ _
    exact this
  rw [e2, Bool.and_comm]
  rfl
set_option maxRecDepth 20000 in
theorem nw_L_7 : Cond.classLink RL 7 RX6 ∈ gl_T ∧ Cond.instantiable RX6 9 ∈ gl_T ∧ Cond.initialized RX6 ∈ gl_T := ⟨(gl_T_in (by decide +kernel) (by decide +kernel)), (gl_T_in (by decide +kernel) (by decide +kernel)), (gl_T_in (by decide +kernel) (by decide +kernel))⟩
set_option maxRecDepth 20000 in
theorem nw_L_10 : Cond.classLink RL 10 RX7 ∈ gl_T ∧ Cond.instantiable RX7 32 ∈ gl_T ∧ Cond.initialized RX7 ∈ gl_T := ⟨(gl_T_in (by decide +kernel) (by decide +kernel)), (gl_T_in (by decide +kernel) (by decide +kernel)), (gl_T_in (by decide +kernel) (by decide +kernel))⟩
